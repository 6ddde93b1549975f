section C82
variable {p : Program} {l : Launch} {e : Env} {R : Room} {s : State} {m : MethodId} {args : Array Value} {below : List Frame} {meth : Method} {c : Code} {D : va_G} {cA : Nat → ClassId} {tys : List (ClassId × FieldType)} {A : Nat → Prop} {n0 s0 : Nat} {QM : State → Prop} {σi : Sg}
theorem dX9_putInBox_0 : decode cX9_putInBox 0 = .ok (.aload_n 0, 1) := by decide +kernel
theorem dX9_putInBox_1 : decode cX9_putInBox 1 = .ok (.getfield 151, 3) := by decide +kernel
theorem dX9_putInBox_4 : decode cX9_putInBox 4 = .ok (.sipush 4000, 3) := by decide +kernel
theorem dX9_putInBox_7 : decode cX9_putInBox 7 = .ok (.if_icmp .lt 11, 3) := by decide +kernel
theorem dX9_putInBox_10 : decode cX9_putInBox 10 = .ok (.new 278, 3) := by decide +kernel
theorem dX9_putInBox_13 : decode cX9_putInBox 13 = .ok (.dup, 1) := by decide +kernel
theorem dX9_putInBox_14 : decode cX9_putInBox 14 = .ok (.invokespecial 397, 3) := by decide +kernel
theorem dX9_putInBox_17 : decode cX9_putInBox 17 = .ok (.athrow, 1) := by decide +kernel
theorem dX9_putInBox_18 : decode cX9_putInBox 18 = .ok (.aload_n 0, 1) := by decide +kernel
theorem dX9_putInBox_19 : decode cX9_putInBox 19 = .ok (.dup, 1) := by decide +kernel
theorem dX9_putInBox_20 : decode cX9_putInBox 20 = .ok (.getfield 151, 3) := by decide +kernel
theorem dX9_putInBox_23 : decode cX9_putInBox 23 = .ok (.iconst 1, 1) := by decide +kernel
theorem dX9_putInBox_24 : decode cX9_putInBox 24 = .ok (.iadd, 1) := by decide +kernel
theorem dX9_putInBox_25 : decode cX9_putInBox 25 = .ok (.putfield 151, 3) := by decide +kernel
theorem dX9_putInBox_28 : decode cX9_putInBox 28 = .ok (.aload_n 3, 1) := by decide +kernel
theorem dX9_putInBox_29 : decode cX9_putInBox 29 = .ok (.iload_n 2, 1) := by decide +kernel
theorem dX9_putInBox_30 : decode cX9_putInBox 30 = .ok (.putfield 335, 3) := by decide +kernel
theorem dX9_putInBox_33 : decode cX9_putInBox 33 = .ok (.aload_n 1, 1) := by decide +kernel
theorem dX9_putInBox_34 : decode cX9_putInBox 34 = .ok (.getfield 145, 3) := by decide +kernel
theorem dX9_putInBox_37 : decode cX9_putInBox 37 = .ok (.aload_n 3, 1) := by decide +kernel
theorem dX9_putInBox_38 : decode cX9_putInBox 38 = .ok (.invokevirtual 341, 3) := by decide +kernel
theorem dX9_putInBox_41 : decode cX9_putInBox 41 = .ok (.return_, 1) := by decide +kernel
set_option maxRecDepth 20000 in
theorem a_X9_putInBox_18 {Q : Sg → Unit → Prop} {X : Sg → String → Prop} {th : Nat} (K : MD l R p s m args c cX9_putInBox 4 RX9 D cA tys A n0 s0 6 90 []) (hQ : CQV p l e R s m args below meth c cX9_putInBox D cA A n0 s0 QM σi Q) (hX : CX p l e R s m args below meth c 4 D cA A n0 s0 QM σi X) (hTh : CT p l e R s m args below meth c cX9_putInBox 4 D cA A n0 s0 QM σi RX9 X) : ∀ (σ : Sg) (v1 : Option Nat) (v2 : Int) (v3 : Option Nat) (g1 : tyV σ 10 v1) (g2 : rng v2) (g3 : tyV σ 0 v3), w_X9_putInBox_18 th Q X σ v1 v2 v3 → RG σ → TY σ → Ext σi σ → kO σ th 9 → JJ p l e R s m args below meth c 4 D cA A n0 s0 QM σ 18 [(0, .ref th), (1, va_rf v1), (2, .int (i32 v2)), (3, va_rf v3)] [] := by
  intro σ v1 v2 v3 g1 g2 g3 h hGσ hYσ hE hth H locs ls hH hl hc
  have B := K.1
  have hl9 := K.2.2.2.2.2.2
  unfold w_X9_putInBox_18 at h
  refine lv_aload_n B.1 B.2.1 dX9_putInBox_18 rfl (lv_at hl 0 rfl) ?_
  refine lv_dup B.1 B.2.1 dX9_putInBox_19 rfl ?_
  refine f_geti B hH hth (by decide) rfl wu_X9 14 (by decide) wf_X9_151 rfl rfl dX9_putInBox_20 ?_
  refine lv_iconst (v := i32 1) B.1 B.2.1 dX9_putInBox_23 (by decide) ?_
  obtain ⟨q1, h⟩ := h
  refine lv_iadd B.1 B.2.1 dX9_putInBox_24 ?_
  rw [i32_add]
  obtain ⟨σ13, eσ13⟩ : ∃ z, z = pI σ th 14 (gI σ th 14 + 1) := ⟨_, rfl⟩
  have h := h σ13 eσ13
  refine f_puti B hH hth (by decide) rfl wu_X9 tyX9 tyX9_ok nmX9 14 (by decide) wf_X9_151 rfl (ty := .int) rfl rfl rfl rfl rfl dX9_putInBox_25 (fun H locs hH => ?_)
  have hH : Hd D cA A s (pI σ th 14 (gI σ th 14 + 1)) H locs := hH
  rw [← eσ13] at hH
  have hGσ13 : RG σ13 := by rw [eσ13]; exact hGσ.pI q1
  have hYσ13 : TY σ13 := by rw [eσ13]; exact hYσ.pI
  have xσ13 : Ext σ σ13 := by rw [eσ13]; exact Ext.pI
  have hc : CB n0 s0 σ13 := by rw [eσ13]; exact hc
  rw [show gc σ = gc σ13 by rw [eσ13]; try rfl, show gs σ = gs σ13 by rw [eσ13]; try rfl]
  refine lv_aload_nQ B.1 B.2.1 dX9_putInBox_28 rfl (lv_at hl 3 rfl) ?_
  refine lv_iload_n B.1 B.2.1 dX9_putInBox_29 rfl (lv_at hl 2 rfl) ?_
  obtain ⟨a14, ea14, h⟩ := h
  have ka14 : kO σ13 a14 0 := (g3.up xσ13) a14 ea14
  have h := h ka14
  obtain ⟨σ15, eσ15⟩ : ∃ z, z = pI σ13 a14 3 v2 := ⟨_, rfl⟩
  have h := h σ15 eσ15
  refine W.eq (g2 := F0 m 30 ls [.int (i32 v2), .ref a14]) (by rw [ea14]; rfl) ?_
  refine f_puti B hH ka14 (by decide) rfl wu_X0 tyX0 tyX0_ok nmX0 3 (by decide) wf_X9_335 rfl (ty := .int) rfl rfl rfl rfl rfl dX9_putInBox_30 (fun H locs hH => ?_)
  have hH : Hd D cA A s (pI σ13 a14 3 v2) H locs := hH
  rw [← eσ15] at hH
  have hGσ15 : RG σ15 := by rw [eσ15]; exact hGσ13.pI g2
  have hYσ15 : TY σ15 := by rw [eσ15]; exact hYσ13.pI
  have xσ15 : Ext σ13 σ15 := by rw [eσ15]; exact Ext.pI
  have hc : CB n0 s0 σ15 := by rw [eσ15]; exact hc
  rw [show gc σ13 = gc σ15 by rw [eσ15]; try rfl, show gs σ13 = gs σ15 by rw [eσ15]; try rfl]
  refine lv_aload_nQ B.1 B.2.1 dX9_putInBox_33 rfl (lv_at hl 1 rfl) ?_
  obtain ⟨a16, ea16, h⟩ := h
  have ka16 : kO σ15 a16 10 := (g1.up (xσ13.trans xσ15)) a16 ea16
  have h := h ka16
  refine W.eq (g2 := F0 m 34 ls [.ref a16]) (by rw [ea16]; rfl) ?_
  refine f_getp B hH ka16 (by decide) rfl wu_X10 4 (by decide) wf_X9_145 rfl rfl dX9_putInBox_34 ?_
  refine lv_aload_nQ B.1 B.2.1 dX9_putInBox_37 rfl (lv_at hl 3 rfl) ?_
  obtain ⟨a18, ea18, h⟩ := h
  have ka18 : kO σ15 a18 1 := (hYσ15.get ka16 (by decide)) a18 ea18
  have h := h ka18
  refine W.eq (g2 := F0 m 38 ls [va_rf v3, .ref a18]) (by rw [ea18]; rfl) ?_
  refine c_V B hH hl hc K.2.2.1 (C := RX1) (T := TX1) (N := 3) (ci := 1) (As := [va_rf v3]) (ok_X1_add hl9 K.2.1 σ15 a18 v3 (g3.up (xσ13.trans xσ15)) ka18 hGσ15 hYσ15 h) wc_X9_341 1 hd_X1_add ⟨Nat.le_trans (Nat.le_of_ble_eq_true rfl) K.2.2.2.1, Nat.le_trans (Nat.le_of_ble_eq_true rfl) K.2.2.2.2.1⟩ ka18.1 ka18.2 (by decide) rfl rfl (rest := []) rfl (Nat.le_of_ble_eq_true rfl) dX9_putInBox_38 (fun σ17 w hq => ?_) (fun σ9 E9 hx9 => hX σ9 E9 _ _ _ (tb_out K.2.2.2.2.2.1 rfl) hx9.1 hx9.2.1 hx9.2.2.1 (((hE.trans xσ13).trans xσ15).trans hx9.2.2.2))
  obtain ⟨rfl, h, hGσ17, hYσ17, xσ17⟩ := hq
  have h := h xσ17
  intro H locs ls hH hl hc
  refine W.eq (g2 := F0 m 41 ls []) (rfl) ?_
  try dsimp only at h
  exact hQ _ _ _ _ _ dX9_putInBox_41 hH hc h hGσ17 hYσ17 (((hE.trans xσ13).trans xσ15).trans xσ17)
set_option maxRecDepth 20000 in
theorem a_X9_putInBox_10 {Q : Sg → Unit → Prop} {X : Sg → String → Prop} {th : Nat} (K : MD l R p s m args c cX9_putInBox 4 RX9 D cA tys A n0 s0 6 90 []) (hQ : CQV p l e R s m args below meth c cX9_putInBox D cA A n0 s0 QM σi Q) (hX : CX p l e R s m args below meth c 4 D cA A n0 s0 QM σi X) (hTh : CT p l e R s m args below meth c cX9_putInBox 4 D cA A n0 s0 QM σi RX9 X) : ∀ (σ : Sg), w_X9_putInBox_10 th Q X σ → RG σ → TY σ → Ext σi σ → kO σ th 9 → JJ p l e R s m args below meth c 4 D cA A n0 s0 QM σ 10 [(0, .ref th)] [] := by
  intro σ h hGσ hYσ hE hth H locs ls hH hl hc
  have B := K.1
  have hl9 := K.2.2.2.2.2.2
  unfold w_X9_putInBox_10 at h
  obtain ⟨q9, h⟩ := h
  exact hTh _ _ _ _ _ _ _ _ _ tw_X9_278_397 dX9_putInBox_10 dX9_putInBox_13 dX9_putInBox_14 dX9_putInBox_17 hH hl hc q9 h hGσ hYσ hE (by have := K.2.2.2.1; omega) (by have := K.2.2.2.2.1; omega)
set_option maxRecDepth 20000 in
theorem a_X9_putInBox_0 {Q : Sg → Unit → Prop} {X : Sg → String → Prop} {th : Nat} (K : MD l R p s m args c cX9_putInBox 4 RX9 D cA tys A n0 s0 6 90 []) (hQ : CQV p l e R s m args below meth c cX9_putInBox D cA A n0 s0 QM σi Q) (hX : CX p l e R s m args below meth c 4 D cA A n0 s0 QM σi X) (hTh : CT p l e R s m args below meth c cX9_putInBox 4 D cA A n0 s0 QM σi RX9 X) : ∀ (σ : Sg) (v1 : Option Nat) (v2 : Int) (v3 : Option Nat) (g1 : tyV σ 10 v1) (g2 : rng v2) (g3 : tyV σ 0 v3), w_X9_putInBox_0 th Q X σ v1 v2 v3 → RG σ → TY σ → Ext σi σ → kO σ th 9 → JJ p l e R s m args below meth c 4 D cA A n0 s0 QM σ 0 [(0, .ref th), (1, va_rf v1), (2, .int (i32 v2)), (3, va_rf v3)] [] := by
  intro σ v1 v2 v3 g1 g2 g3 h hGσ hYσ hE hth H locs ls hH hl hc
  have B := K.1
  have hl9 := K.2.2.2.2.2.2
  unfold w_X9_putInBox_0 at h
  refine lv_aload_n B.1 B.2.1 dX9_putInBox_0 rfl (lv_at hl 0 rfl) ?_
  refine f_geti B hH hth (by decide) rfl wu_X9 14 (by decide) wf_X9_151 rfl rfl dX9_putInBox_1 ?_
  refine lv_sipush (v := i32 4000) B.1 B.2.1 dX9_putInBox_4 (by decide) ?_
  refine lv_icmp_lt (tgt := 18) B.1 B.2.1 dX9_putInBox_7 (by decide) (fun h9 => ?_) (fun h9 => ?_)
  · rw [if_pos ((i32_lt (hGσ _ _) (by unfold rng; omega)).mp h9)] at h
    exact a_X9_putInBox_18 K hQ hX hTh _ _ _ _ g1 g2 g3 h hGσ hYσ hE hth _ _ _ hH (lv_sub (l' := [(0, .ref th), (1, va_rf v1), (2, .int (i32 v2)), (3, va_rf v3)]) hl [0, 1, 2, 3] rfl) hc
  · rw [if_neg (fun q => h9 ((i32_lt (hGσ _ _) (by unfold rng; omega)).mpr q))] at h
    exact a_X9_putInBox_10 K hQ hX hTh _ h hGσ hYσ hE hth _ _ _ hH (lv_sub (l' := [(0, .ref th)]) hl [0] rfl) hc
theorem ok_X9_putInBox (hl0 : l.stackTraces = false) (hT : TyC cA tys) {Q : Sg → Unit → Prop} {X : Sg → String → Prop} (σ : Sg) (th : Nat) (v1 : Option Nat) (v2 : Int) (v3 : Option Nat) (g1 : tyV σ 10 v1) (g2 : rng v2) (g3 : tyV σ 0 v3) (hth : kO σ th 9) (hG : RG σ) (hY : TY σ) (h : wp_X9_putInBox th v1 v2 v3 σ Q X) : Ok l D cA tys A yX9_putInBox (.code yX9_putInBox cX9_putInBox 4 none) 6 90 [.ref th, va_rf v1, .int (i32 v2), va_rf v3] σ (QcV σ Q) (QxC σ X) := by
  unfold wp_X9_putInBox at h
  exact oc_V hl0 (by decide) (by cases v1 <;> cases v3 <;> exact Nat.le_of_ble_eq_true rfl) hT (fun p e R s m args below meth c K hQ hX hTh hin9 H locs ls hH hl hc => a_X9_putInBox_0 K hQ hX hTh σ v1 v2 v3 g1 g2 g3 h hG hY (Ext.rfl' σ) hth H locs ls hH (lv_sub (l' := [(0, .ref th), (1, va_rf v1), (2, .int (i32 v2)), (3, va_rf v3)]) hl [0, 1, 2, 3] (by cases v1 <;> cases v3 <;> rfl)) hc)
theorem dX9_sendToAll_0 : decode cX9_sendToAll 0 = .ok (.aload_n 1, 1) := by decide +kernel
theorem dX9_sendToAll_1 : decode cX9_sendToAll 1 = .ok (.getfield 211, 3) := by decide +kernel
theorem dX9_sendToAll_4 : decode cX9_sendToAll 4 = .ok (.istore 5, 2) := by decide +kernel
theorem dX9_sendToAll_6 : decode cX9_sendToAll 6 = .ok (.iload 5, 2) := by decide +kernel
theorem dX9_sendToAll_8 : decode cX9_sendToAll 8 = .ok (.iconst (-1), 1) := by decide +kernel
theorem dX9_sendToAll_9 : decode cX9_sendToAll 9 = .ok (.if_icmp .eq 48, 3) := by decide +kernel
theorem dX9_sendToAll_12 : decode cX9_sendToAll 12 = .ok (.aload_n 0, 1) := by decide +kernel
theorem dX9_sendToAll_13 : decode cX9_sendToAll 13 = .ok (.getfield 48, 3) := by decide +kernel
theorem dX9_sendToAll_16 : decode cX9_sendToAll 16 = .ok (.invokevirtual 380, 3) := by decide +kernel
theorem dX9_sendToAll_19 : decode cX9_sendToAll 19 = .ok (.astore 6, 2) := by decide +kernel
theorem dX9_sendToAll_21 : decode cX9_sendToAll 21 = .ok (.aload 6, 2) := by decide +kernel
theorem dX9_sendToAll_23 : decode cX9_sendToAll 23 = .ok (.iload_n 2, 1) := by decide +kernel
theorem dX9_sendToAll_24 : decode cX9_sendToAll 24 = .ok (.putfield 291, 3) := by decide +kernel
theorem dX9_sendToAll_27 : decode cX9_sendToAll 27 = .ok (.aload 6, 2) := by decide +kernel
theorem dX9_sendToAll_29 : decode cX9_sendToAll 29 = .ok (.lload_n 3, 1) := by decide +kernel
theorem dX9_sendToAll_30 : decode cX9_sendToAll 30 = .ok (.putfield 311, 3) := by decide +kernel
theorem dX9_sendToAll_33 : decode cX9_sendToAll 33 = .ok (.aload_n 0, 1) := by decide +kernel
theorem dX9_sendToAll_34 : decode cX9_sendToAll 34 = .ok (.aload_n 1, 1) := by decide +kernel
theorem dX9_sendToAll_35 : decode cX9_sendToAll 35 = .ok (.iload 5, 2) := by decide +kernel
theorem dX9_sendToAll_37 : decode cX9_sendToAll 37 = .ok (.aload 6, 2) := by decide +kernel
theorem dX9_sendToAll_39 : decode cX9_sendToAll 39 = .ok (.invokevirtual 453, 3) := by decide +kernel
theorem dX9_sendToAll_42 : decode cX9_sendToAll 42 = .ok (.aload_n 0, 1) := by decide +kernel
theorem dX9_sendToAll_43 : decode cX9_sendToAll 43 = .ok (.getfield 26, 3) := by decide +kernel
theorem dX9_sendToAll_46 : decode cX9_sendToAll 46 = .ok (.iload 5, 2) := by decide +kernel
theorem dX9_sendToAll_48 : decode cX9_sendToAll 48 = .ok (.aaload, 1) := by decide +kernel
theorem dX9_sendToAll_49 : decode cX9_sendToAll 49 = .ok (.getfield 214, 3) := by decide +kernel
theorem dX9_sendToAll_52 : decode cX9_sendToAll 52 = .ok (.istore 5, 2) := by decide +kernel
theorem dX9_sendToAll_54 : decode cX9_sendToAll 54 = .ok (.goto (-48), 3) := by decide +kernel
theorem dX9_sendToAll_57 : decode cX9_sendToAll 57 = .ok (.return_, 1) := by decide +kernel
set_option maxRecDepth 20000 in
theorem a_X9_sendToAll_57 {Q : Sg → Unit → Prop} {X : Sg → String → Prop} {th : Nat} (K : MD l R p s m args c cX9_sendToAll 7 RX9 D cA tys A n0 s0 7 113 []) (hQ : CQV p l e R s m args below meth c cX9_sendToAll D cA A n0 s0 QM σi Q) (hX : CX p l e R s m args below meth c 7 D cA A n0 s0 QM σi X) (hTh : CT p l e R s m args below meth c cX9_sendToAll 7 D cA A n0 s0 QM σi RX9 X) : ∀ (σ : Sg), w_X9_sendToAll_57 th Q X σ → RG σ → TY σ → Ext σi σ → kO σ th 9 → JJ p l e R s m args below meth c 7 D cA A n0 s0 QM σ 57 [(0, .ref th)] [] := by
  intro σ h hGσ hYσ hE hth H locs ls hH hl hc
  have B := K.1
  have hl9 := K.2.2.2.2.2.2
  unfold w_X9_sendToAll_57 at h
  exact hQ _ _ _ _ _ dX9_sendToAll_57 hH hc h hGσ hYσ hE
set_option maxRecDepth 20000 in
theorem a_X9_sendToAll_12 {Q : Sg → Unit → Prop} {X : Sg → String → Prop} {th : Nat} (K : MD l R p s m args c cX9_sendToAll 7 RX9 D cA tys A n0 s0 7 113 []) (hQ : CQV p l e R s m args below meth c cX9_sendToAll D cA A n0 s0 QM σi Q) (hX : CX p l e R s m args below meth c 7 D cA A n0 s0 QM σi X) (hTh : CT p l e R s m args below meth c cX9_sendToAll 7 D cA A n0 s0 QM σi RX9 X) {K6 : Sg → Option Nat → Int → Int64 → Int → Prop} (hK6 : ∀ (σ : Sg) (v1 : Option Nat) (v2 : Int) (v3 : Int64) (v5 : Int) (g1 : tyV σ 10 v1) (g2 : rng v2) (g5 : rng v5), K6 σ v1 v2 v3 v5 → RG σ → TY σ → Ext σi σ → kO σ th 9 → JJ p l e R s m args below meth c 7 D cA A n0 s0 QM σ 6 [(0, .ref th), (1, va_rf v1), (2, .int (i32 v2)), (3, .long v3), (5, .int (i32 v5))] []) : ∀ (σ : Sg) (v1 : Option Nat) (v2 : Int) (v3 : Int64) (v5 : Int) (g1 : tyV σ 10 v1) (g2 : rng v2) (g5 : rng v5), w_X9_sendToAll_12 th K6 Q X σ v1 v2 v3 v5 → RG σ → TY σ → Ext σi σ → kO σ th 9 → JJ p l e R s m args below meth c 7 D cA A n0 s0 QM σ 12 [(0, .ref th), (1, va_rf v1), (2, .int (i32 v2)), (3, .long v3), (5, .int (i32 v5))] [] := by
  intro σ v1 v2 v3 v5 g1 g2 g5 h hGσ hYσ hE hth H locs ls hH hl hc
  have B := K.1
  have hl9 := K.2.2.2.2.2.2
  unfold w_X9_sendToAll_12 at h
  refine lv_aload_n B.1 B.2.1 dX9_sendToAll_12 rfl (lv_at hl 0 rfl) ?_
  refine f_getp B hH hth (by decide) rfl wu_X9 0 (by decide) wf_X9_48 rfl rfl dX9_sendToAll_13 ?_
  obtain ⟨a23, ea23, h⟩ := h
  have ka23 : kO σ a23 8 := (hYσ.get hth (by decide)) a23 ea23
  have h := h ka23
  refine W.eq (g2 := F0 m 16 ls [.ref a23]) (by rw [ea23]; rfl) ?_
  refine c_V B hH hl hc K.2.2.1 (C := RX8) (T := TX8) (N := 3) (ci := 8) (As := []) (ok_X8_fresh hl9 K.2.1 σ a23 ka23 hGσ hYσ h) wc_X9_380 0 hd_X8_fresh ⟨Nat.le_trans (Nat.le_of_ble_eq_true rfl) K.2.2.2.1, Nat.le_trans (Nat.le_of_ble_eq_true rfl) K.2.2.2.2.1⟩ ka23.1 ka23.2 (by decide) rfl rfl (rest := []) rfl (Nat.le_of_ble_eq_true rfl) dX9_sendToAll_16 (fun σ21 w hq => ?_) (fun σ9 E9 hx9 => hX σ9 E9 _ _ _ (tb_out K.2.2.2.2.2.1 rfl) hx9.1 hx9.2.1 hx9.2.2.1 (hE.trans hx9.2.2.2))
  obtain ⟨r22, rfl, tr22, h, hGσ21, hYσ21, xσ21⟩ := hq
  have h := h xσ21 tr22
  intro H locs ls hH hl hc
  refine W.eq (g2 := F0 m 19 ls [va_rf r22]) (rfl) ?_
  try dsimp only at h
  refine lv_astoreQ (lv' := [(6, va_rf r22), (0, .ref th), (1, va_rf v1), (2, .int (i32 v2)), (3, .long v3), (5, .int (i32 v5))]) B.1 B.2.1 dX9_sendToAll_19 hl (by decide) rfl (fun ls hl => ?_)
  refine lv_aloadQ B.1 B.2.1 dX9_sendToAll_21 (lv_at hl 0 rfl) ?_
  refine lv_iload_n B.1 B.2.1 dX9_sendToAll_23 rfl (lv_at hl 3 rfl) ?_
  obtain ⟨a24, ea24, h⟩ := h
  have ka24 : kO σ21 a24 0 := tr22 a24 ea24
  have h := h ka24
  obtain ⟨σ25, eσ25⟩ : ∃ z, z = pI σ21 a24 2 v2 := ⟨_, rfl⟩
  have h := h σ25 eσ25
  refine W.eq (g2 := F0 m 24 ls [.int (i32 v2), .ref a24]) (by rw [ea24]; rfl) ?_
  refine f_puti B hH ka24 (by decide) rfl wu_X0 tyX0 tyX0_ok nmX0 2 (by decide) wf_X9_291 rfl (ty := .int) rfl rfl rfl rfl rfl dX9_sendToAll_24 (fun H locs hH => ?_)
  have hH : Hd D cA A s (pI σ21 a24 2 v2) H locs := hH
  rw [← eσ25] at hH
  have hGσ25 : RG σ25 := by rw [eσ25]; exact hGσ21.pI g2
  have hYσ25 : TY σ25 := by rw [eσ25]; exact hYσ21.pI
  have xσ25 : Ext σ21 σ25 := by rw [eσ25]; exact Ext.pI
  have hc : CB n0 s0 σ25 := by rw [eσ25]; exact hc
  rw [show gc σ21 = gc σ25 by rw [eσ25]; try rfl, show gs σ21 = gs σ25 by rw [eσ25]; try rfl]
  refine lv_aloadQ B.1 B.2.1 dX9_sendToAll_27 (lv_at hl 0 rfl) ?_
  refine lv_lload_n B.1 B.2.1 dX9_sendToAll_29 rfl (lv_at hl 4 rfl) ?_
  obtain ⟨σ26, eσ26⟩ : ∃ z, z = pJ σ25 a24 5 v3 := ⟨_, rfl⟩
  have h := h σ26 eσ26
  refine W.eq (g2 := F0 m 30 ls [.long v3, .ref a24]) (by rw [ea24]; rfl) ?_
  refine f_putl B hH (ka24.up xσ25) (by decide) rfl wu_X0 tyX0 tyX0_ok nmX0 5 (by decide) wf_X9_311 rfl (ty := .long) rfl rfl rfl rfl rfl dX9_sendToAll_30 (fun H locs hH => ?_)
  have hH : Hd D cA A s (pJ σ25 a24 5 v3) H locs := hH
  rw [← eσ26] at hH
  have hGσ26 : RG σ26 := by rw [eσ26]; exact hGσ25.pJ
  have hYσ26 : TY σ26 := by rw [eσ26]; exact hYσ25.pJ
  have xσ26 : Ext σ25 σ26 := by rw [eσ26]; exact Ext.pJ
  have hc : CB n0 s0 σ26 := by rw [eσ26]; exact hc
  rw [show gc σ25 = gc σ26 by rw [eσ26]; try rfl, show gs σ25 = gs σ26 by rw [eσ26]; try rfl]
  refine lv_aload_n B.1 B.2.1 dX9_sendToAll_33 rfl (lv_at hl 1 rfl) ?_
  refine lv_aload_nQ B.1 B.2.1 dX9_sendToAll_34 rfl (lv_at hl 2 rfl) ?_
  refine lv_iload B.1 B.2.1 dX9_sendToAll_35 (lv_at hl 5 rfl) ?_
  refine lv_aloadQ B.1 B.2.1 dX9_sendToAll_37 (lv_at hl 0 rfl) ?_
  refine W.eq (g2 := F0 m 39 ls [va_rf r22, .int (i32 v5), va_rf v1, .ref th]) (rfl) ?_
  refine c_V B hH hl hc K.2.2.1 (C := RX9) (T := TX9) (N := 20) (ci := 9) (As := [va_rf v1, .int (i32 v5), va_rf r22]) (ok_X9_putInBox hl9 K.2.1 σ26 th v1 v5 r22 (g1.up (xσ21.trans (xσ25.trans xσ26))) g5 (tr22.up (xσ25.trans xσ26)) (hth.up (xσ21.trans (xσ25.trans xσ26))) hGσ26 hYσ26 h) wc_X9_453 3 hd_X9_putInBox ⟨Nat.le_trans (Nat.le_of_ble_eq_true rfl) K.2.2.2.1, Nat.le_trans (Nat.le_of_ble_eq_true rfl) K.2.2.2.2.1⟩ (hth.up (xσ21.trans (xσ25.trans xσ26))).1 (hth.up (xσ21.trans (xσ25.trans xσ26))).2 (by decide) rfl rfl (rest := []) rfl (Nat.le_of_ble_eq_true rfl) dX9_sendToAll_39 (fun σ27 w hq => ?_) (fun σ9 E9 hx9 => hX σ9 E9 _ _ _ (tb_out K.2.2.2.2.2.1 rfl) hx9.1 hx9.2.1 hx9.2.2.1 ((((hE.trans xσ21).trans xσ25).trans xσ26).trans hx9.2.2.2))
  obtain ⟨rfl, h, hGσ27, hYσ27, xσ27⟩ := hq
  have h := h xσ27
  intro H locs ls hH hl hc
  refine W.eq (g2 := F0 m 42 ls []) (rfl) ?_
  try dsimp only at h
  refine lv_aload_n B.1 B.2.1 dX9_sendToAll_42 rfl (lv_at hl 1 rfl) ?_
  refine f_getp B hH (hth.up (xσ21.trans (xσ25.trans (xσ26.trans xσ27)))) (by decide) rfl wu_X9 4 (by decide) wf_X9_26 rfl rfl dX9_sendToAll_43 ?_
  refine lv_iload B.1 B.2.1 dX9_sendToAll_46 (lv_at hl 5 rfl) ?_
  obtain ⟨a28, ea28, h⟩ := h
  have ka28 : kO σ27 a28 112 := (hYσ27.get (hth.up (xσ21.trans (xσ25.trans (xσ26.trans xσ27)))) (by decide)) a28 ea28
  have h := h ka28
  obtain ⟨q1, h⟩ := h
  refine W.eq (g2 := F0 m 48 ls [.int (i32 v5), .ref a28]) (by rw [ea28]; rfl) ?_
  refine y_aald B hH (t0 := 5) ka28 (by decide) K.2.1.2.2.1 q1 (hYσ27.2 _) dX9_sendToAll_48 ?_
  obtain ⟨a29, ea29, h⟩ := h
  have ka29 : kO σ27 a29 2 := (hYσ27.get ka28 rfl) a29 ea29
  have h := h ka29
  refine W.eq (g2 := F0 m 49 ls [.ref a29]) (by rw [ea29]; rfl) ?_
  refine f_geti B hH ka29 (by decide) rfl wu_X2 7 (by decide) wf_X9_214 rfl rfl dX9_sendToAll_49 ?_
  refine lv_istore (lv' := [(5, .int (i32 (gI σ27 a29 7))), (6, va_rf r22), (0, .ref th), (1, va_rf v1), (2, .int (i32 v2)), (3, .long v3)]) B.1 B.2.1 dX9_sendToAll_52 hl (by decide) rfl (fun ls hl => ?_)
  refine lv_goto (tgt := 6) B.1 B.2.1 dX9_sendToAll_54 (by decide) ?_
  exact hK6 _ _ _ _ _ (g1.up (xσ21.trans (xσ25.trans (xσ26.trans xσ27)))) g2 (hGσ27 _ _) h hGσ27 hYσ27 ((((hE.trans xσ21).trans xσ25).trans xσ26).trans xσ27) (hth.up (xσ21.trans (xσ25.trans (xσ26.trans xσ27)))) _ _ _ hH (lv_sub (l' := [(0, .ref th), (1, va_rf v1), (2, .int (i32 v2)), (3, .long v3), (5, .int (i32 (gI σ27 a29 7)))]) hl [2, 3, 4, 5, 0] rfl) hc
set_option maxRecDepth 20000 in
theorem a_X9_sendToAll_6 {Q : Sg → Unit → Prop} {X : Sg → String → Prop} {th : Nat} (K : MD l R p s m args c cX9_sendToAll 7 RX9 D cA tys A n0 s0 7 113 []) (hQ : CQV p l e R s m args below meth c cX9_sendToAll D cA A n0 s0 QM σi Q) (hX : CX p l e R s m args below meth c 7 D cA A n0 s0 QM σi X) (hTh : CT p l e R s m args below meth c cX9_sendToAll 7 D cA A n0 s0 QM σi RX9 X) {K6 : Sg → Option Nat → Int → Int64 → Int → Prop} (hK6 : ∀ (σ : Sg) (v1 : Option Nat) (v2 : Int) (v3 : Int64) (v5 : Int) (g1 : tyV σ 10 v1) (g2 : rng v2) (g5 : rng v5), K6 σ v1 v2 v3 v5 → RG σ → TY σ → Ext σi σ → kO σ th 9 → JJ p l e R s m args below meth c 7 D cA A n0 s0 QM σ 6 [(0, .ref th), (1, va_rf v1), (2, .int (i32 v2)), (3, .long v3), (5, .int (i32 v5))] []) : ∀ (σ : Sg) (v1 : Option Nat) (v2 : Int) (v3 : Int64) (v5 : Int) (g1 : tyV σ 10 v1) (g2 : rng v2) (g5 : rng v5), w_X9_sendToAll_6 th K6 Q X σ v1 v2 v3 v5 → RG σ → TY σ → Ext σi σ → kO σ th 9 → JJ p l e R s m args below meth c 7 D cA A n0 s0 QM σ 6 [(0, .ref th), (1, va_rf v1), (2, .int (i32 v2)), (3, .long v3), (5, .int (i32 v5))] [] := by
  intro σ v1 v2 v3 v5 g1 g2 g5 h hGσ hYσ hE hth H locs ls hH hl hc
  have B := K.1
  have hl9 := K.2.2.2.2.2.2
  unfold w_X9_sendToAll_6 at h
  refine lv_iload B.1 B.2.1 dX9_sendToAll_6 (lv_at hl 4 rfl) ?_
  refine lv_iconst (v := i32 (-1)) B.1 B.2.1 dX9_sendToAll_8 (by decide) ?_
  refine lv_icmp_eq (tgt := 57) B.1 B.2.1 dX9_sendToAll_9 (by decide) (fun h9 => ?_) (fun h9 => ?_)
  · rw [if_pos ((i32_eq g5 (by unfold rng; omega)).mp h9)] at h
    exact a_X9_sendToAll_57 K hQ hX hTh _ h hGσ hYσ hE hth _ _ _ hH (lv_sub (l' := [(0, .ref th)]) hl [0] rfl) hc
  · rw [if_neg (fun q => h9 ((i32_eq g5 (by unfold rng; omega)).mpr q))] at h
    exact a_X9_sendToAll_12 K hQ hX hTh hK6 _ _ _ _ _ g1 g2 g5 h hGσ hYσ hE hth _ _ _ hH (lv_sub (l' := [(0, .ref th), (1, va_rf v1), (2, .int (i32 v2)), (3, .long v3), (5, .int (i32 v5))]) hl [0, 1, 2, 3, 4] rfl) hc
theorem al_X9_sendToAll_6 {Q : Sg → Unit → Prop} {X : Sg → String → Prop} {th : Nat} (K : MD l R p s m args c cX9_sendToAll 7 RX9 D cA tys A n0 s0 7 113 []) (hQ : CQV p l e R s m args below meth c cX9_sendToAll D cA A n0 s0 QM σi Q) (hX : CX p l e R s m args below meth c 7 D cA A n0 s0 QM σi X) (hTh : CT p l e R s m args below meth c cX9_sendToAll 7 D cA A n0 s0 QM σi RX9 X) : ∀ (n : Nat), ∀ (σ : Sg) (v1 : Option Nat) (v2 : Int) (v3 : Int64) (v5 : Int) (g1 : tyV σ 10 v1) (g2 : rng v2) (g5 : rng v5), wl_X9_sendToAll_6 th Q X n σ v1 v2 v3 v5 → RG σ → TY σ → Ext σi σ → kO σ th 9 → JJ p l e R s m args below meth c 7 D cA A n0 s0 QM σ 6 [(0, .ref th), (1, va_rf v1), (2, .int (i32 v2)), (3, .long v3), (5, .int (i32 v5))] [] := by
  intro n
  induction n with
  | zero => intro σ v1 v2 v3 v5 g1 g2 g5 h; exact h.elim
  | succ n ih => exact fun σ v1 v2 v3 v5 g1 g2 g5 h => a_X9_sendToAll_6 K hQ hX hTh ih σ v1 v2 v3 v5 g1 g2 g5 h
set_option maxRecDepth 20000 in
theorem a_X9_sendToAll_0 {Q : Sg → Unit → Prop} {X : Sg → String → Prop} {th : Nat} (K : MD l R p s m args c cX9_sendToAll 7 RX9 D cA tys A n0 s0 7 113 []) (hQ : CQV p l e R s m args below meth c cX9_sendToAll D cA A n0 s0 QM σi Q) (hX : CX p l e R s m args below meth c 7 D cA A n0 s0 QM σi X) (hTh : CT p l e R s m args below meth c cX9_sendToAll 7 D cA A n0 s0 QM σi RX9 X) : ∀ (σ : Sg) (v1 : Option Nat) (v2 : Int) (v3 : Int64) (g1 : tyV σ 10 v1) (g2 : rng v2), w_X9_sendToAll_0 th Q X σ v1 v2 v3 → RG σ → TY σ → Ext σi σ → kO σ th 9 → JJ p l e R s m args below meth c 7 D cA A n0 s0 QM σ 0 [(0, .ref th), (1, va_rf v1), (2, .int (i32 v2)), (3, .long v3)] [] := by
  intro σ v1 v2 v3 g1 g2 h hGσ hYσ hE hth H locs ls hH hl hc
  have B := K.1
  have hl9 := K.2.2.2.2.2.2
  unfold w_X9_sendToAll_0 at h
  refine lv_aload_nQ B.1 B.2.1 dX9_sendToAll_0 rfl (lv_at hl 1 rfl) ?_
  obtain ⟨a30, ea30, h⟩ := h
  have ka30 : kO σ a30 10 := g1 a30 ea30
  have h := h ka30
  refine W.eq (g2 := F0 m 1 ls [.ref a30]) (by rw [ea30]; rfl) ?_
  refine f_geti B hH ka30 (by decide) rfl wu_X10 14 (by decide) wf_X9_211 rfl rfl dX9_sendToAll_1 ?_
  refine lv_istore (lv' := [(5, .int (i32 (gI σ a30 14))), (0, .ref th), (1, va_rf v1), (2, .int (i32 v2)), (3, .long v3)]) B.1 B.2.1 dX9_sendToAll_4 hl (by decide) rfl (fun ls hl => ?_)
  obtain ⟨n9, h⟩ := h
  exact al_X9_sendToAll_6 K hQ hX hTh n9 _ _ _ _ _ g1 g2 (hGσ _ _) h hGσ hYσ hE hth _ _ _ hH (lv_sub (l' := [(0, .ref th), (1, va_rf v1), (2, .int (i32 v2)), (3, .long v3), (5, .int (i32 (gI σ a30 14)))]) hl [1, 2, 3, 4, 0] rfl) hc
theorem ok_X9_sendToAll (hl0 : l.stackTraces = false) (hT : TyC cA tys) {Q : Sg → Unit → Prop} {X : Sg → String → Prop} (σ : Sg) (th : Nat) (v1 : Option Nat) (v2 : Int) (v3 : Int64) (g1 : tyV σ 10 v1) (g2 : rng v2) (hth : kO σ th 9) (hG : RG σ) (hY : TY σ) (h : wp_X9_sendToAll th v1 v2 v3 σ Q X) : Ok l D cA tys A yX9_sendToAll (.code yX9_sendToAll cX9_sendToAll 7 none) 7 113 [.ref th, va_rf v1, .int (i32 v2), .long v3] σ (QcV σ Q) (QxC σ X) := by
  unfold wp_X9_sendToAll at h
  exact oc_V hl0 (by decide) (by cases v1 <;> exact Nat.le_of_ble_eq_true rfl) hT (fun p e R s m args below meth c K hQ hX hTh hin9 H locs ls hH hl hc => a_X9_sendToAll_0 K hQ hX hTh σ v1 v2 v3 g1 g2 h hG hY (Ext.rfl' σ) hth H locs ls hH (lv_sub (l' := [(0, .ref th), (1, va_rf v1), (2, .int (i32 v2)), (3, .long v3)]) hl [0, 1, 2, 3] (by cases v1 <;> rfl)) hc)
theorem dX9_beginAgain_0 : decode cX9_beginAgain 0 = .ok (.aload_n 0, 1) := by decide +kernel
theorem dX9_beginAgain_1 : decode cX9_beginAgain 1 = .ok (.invokevirtual 61, 3) := by decide +kernel
theorem dX9_beginAgain_4 : decode cX9_beginAgain 4 = .ok (.aload_n 0, 1) := by decide +kernel
theorem dX9_beginAgain_5 : decode cX9_beginAgain 5 = .ok (.getfield 12, 3) := by decide +kernel
theorem dX9_beginAgain_8 : decode cX9_beginAgain 8 = .ok (.aload_n 0, 1) := by decide +kernel
theorem dX9_beginAgain_9 : decode cX9_beginAgain 9 = .ok (.getfield 48, 3) := by decide +kernel
theorem dX9_beginAgain_12 : decode cX9_beginAgain 12 = .ok (.invokevirtual 116, 3) := by decide +kernel
theorem dX9_beginAgain_15 : decode cX9_beginAgain 15 = .ok (.aload_n 0, 1) := by decide +kernel
theorem dX9_beginAgain_16 : decode cX9_beginAgain 16 = .ok (.iconst 0, 1) := by decide +kernel
theorem dX9_beginAgain_17 : decode cX9_beginAgain 17 = .ok (.putfield 84, 3) := by decide +kernel
theorem dX9_beginAgain_20 : decode cX9_beginAgain 20 = .ok (.aload_n 0, 1) := by decide +kernel
theorem dX9_beginAgain_21 : decode cX9_beginAgain 21 = .ok (.dup, 1) := by decide +kernel
theorem dX9_beginAgain_22 : decode cX9_beginAgain 22 = .ok (.getfield 94, 3) := by decide +kernel
theorem dX9_beginAgain_25 : decode cX9_beginAgain 25 = .ok (.iconst 1, 1) := by decide +kernel
theorem dX9_beginAgain_26 : decode cX9_beginAgain 26 = .ok (.iadd, 1) := by decide +kernel
theorem dX9_beginAgain_27 : decode cX9_beginAgain 27 = .ok (.putfield 94, 3) := by decide +kernel
theorem dX9_beginAgain_30 : decode cX9_beginAgain 30 = .ok (.aload_n 0, 1) := by decide +kernel
theorem dX9_beginAgain_31 : decode cX9_beginAgain 31 = .ok (.iload_n 1, 1) := by decide +kernel
theorem dX9_beginAgain_32 : decode cX9_beginAgain 32 = .ok (.invokevirtual 112, 3) := by decide +kernel
theorem dX9_beginAgain_35 : decode cX9_beginAgain 35 = .ok (.iconst 0, 1) := by decide +kernel
theorem dX9_beginAgain_36 : decode cX9_beginAgain 36 = .ok (.istore_n 2, 1) := by decide +kernel
theorem dX9_beginAgain_37 : decode cX9_beginAgain 37 = .ok (.iload_n 2, 1) := by decide +kernel
theorem dX9_beginAgain_38 : decode cX9_beginAgain 38 = .ok (.aload_n 0, 1) := by decide +kernel
theorem dX9_beginAgain_39 : decode cX9_beginAgain 39 = .ok (.getfield 100, 3) := by decide +kernel
theorem dX9_beginAgain_42 : decode cX9_beginAgain 42 = .ok (.getfield 119, 3) := by decide +kernel
theorem dX9_beginAgain_45 : decode cX9_beginAgain 45 = .ok (.if_icmp .ge 14, 3) := by decide +kernel
theorem dX9_beginAgain_48 : decode cX9_beginAgain 48 = .ok (.aload_n 0, 1) := by decide +kernel
theorem dX9_beginAgain_49 : decode cX9_beginAgain 49 = .ok (.iload_n 2, 1) := by decide +kernel
theorem dX9_beginAgain_50 : decode cX9_beginAgain 50 = .ok (.invokevirtual 124, 3) := by decide +kernel
theorem dX9_beginAgain_53 : decode cX9_beginAgain 53 = .ok (.iinc 2 1, 3) := by decide +kernel
theorem dX9_beginAgain_56 : decode cX9_beginAgain 56 = .ok (.goto (-19), 3) := by decide +kernel
theorem dX9_beginAgain_59 : decode cX9_beginAgain 59 = .ok (.iconst 0, 1) := by decide +kernel
theorem dX9_beginAgain_60 : decode cX9_beginAgain 60 = .ok (.istore_n 2, 1) := by decide +kernel
theorem dX9_beginAgain_61 : decode cX9_beginAgain 61 = .ok (.iload_n 2, 1) := by decide +kernel
theorem dX9_beginAgain_62 : decode cX9_beginAgain 62 = .ok (.aload_n 0, 1) := by decide +kernel
theorem dX9_beginAgain_63 : decode cX9_beginAgain 63 = .ok (.getfield 78, 3) := by decide +kernel
theorem dX9_beginAgain_66 : decode cX9_beginAgain 66 = .ok (.if_icmp .ge 45, 3) := by decide +kernel
theorem dX9_beginAgain_69 : decode cX9_beginAgain 69 = .ok (.aload_n 0, 1) := by decide +kernel
theorem dX9_beginAgain_70 : decode cX9_beginAgain 70 = .ok (.getfield 20, 3) := by decide +kernel
theorem dX9_beginAgain_73 : decode cX9_beginAgain 73 = .ok (.iload_n 2, 1) := by decide +kernel
theorem dX9_beginAgain_74 : decode cX9_beginAgain 74 = .ok (.aaload, 1) := by decide +kernel
theorem dX9_beginAgain_75 : decode cX9_beginAgain 75 = .ok (.getfield 127, 3) := by decide +kernel
theorem dX9_beginAgain_78 : decode cX9_beginAgain 78 = .ok (.ldc2_w 130, 3) := by decide +kernel
theorem dX9_beginAgain_81 : decode cX9_beginAgain 81 = .ok (.lcmp, 1) := by decide +kernel
theorem dX9_beginAgain_82 : decode cX9_beginAgain 82 = .ok (.ifCond .eq 23, 3) := by decide +kernel
theorem dX9_beginAgain_85 : decode cX9_beginAgain 85 = .ok (.aload_n 0, 1) := by decide +kernel
theorem dX9_beginAgain_86 : decode cX9_beginAgain 86 = .ok (.aload_n 0, 1) := by decide +kernel
theorem dX9_beginAgain_87 : decode cX9_beginAgain 87 = .ok (.getfield 20, 3) := by decide +kernel
theorem dX9_beginAgain_90 : decode cX9_beginAgain 90 = .ok (.iload_n 2, 1) := by decide +kernel
theorem dX9_beginAgain_91 : decode cX9_beginAgain 91 = .ok (.aaload, 1) := by decide +kernel
theorem dX9_beginAgain_92 : decode cX9_beginAgain 92 = .ok (.iconst 1, 1) := by decide +kernel
theorem dX9_beginAgain_93 : decode cX9_beginAgain 93 = .ok (.aload_n 0, 1) := by decide +kernel
theorem dX9_beginAgain_94 : decode cX9_beginAgain 94 = .ok (.getfield 20, 3) := by decide +kernel
theorem dX9_beginAgain_97 : decode cX9_beginAgain 97 = .ok (.iload_n 2, 1) := by decide +kernel
theorem dX9_beginAgain_98 : decode cX9_beginAgain 98 = .ok (.aaload, 1) := by decide +kernel
theorem dX9_beginAgain_99 : decode cX9_beginAgain 99 = .ok (.getfield 127, 3) := by decide +kernel
theorem dX9_beginAgain_102 : decode cX9_beginAgain 102 = .ok (.invokevirtual 134, 3) := by decide +kernel
theorem dX9_beginAgain_105 : decode cX9_beginAgain 105 = .ok (.iinc 2 1, 3) := by decide +kernel
theorem dX9_beginAgain_108 : decode cX9_beginAgain 108 = .ok (.goto (-47), 3) := by decide +kernel
theorem dX9_beginAgain_111 : decode cX9_beginAgain 111 = .ok (.return_, 1) := by decide +kernel
set_option maxRecDepth 20000 in
theorem a_X9_beginAgain_111 {Q : Sg → Unit → Prop} {X : Sg → String → Prop} {th : Nat} (K : MD l R p s m args c cX9_beginAgain 3 RX9 D cA tys A n0 s0 10 186 []) (hQ : CQV p l e R s m args below meth c cX9_beginAgain D cA A n0 s0 QM σi Q) (hX : CX p l e R s m args below meth c 3 D cA A n0 s0 QM σi X) (hTh : CT p l e R s m args below meth c cX9_beginAgain 3 D cA A n0 s0 QM σi RX9 X) : ∀ (σ : Sg), w_X9_beginAgain_111 th Q X σ → RG σ → TY σ → Ext σi σ → kO σ th 9 → JJ p l e R s m args below meth c 3 D cA A n0 s0 QM σ 111 [(0, .ref th)] [] := by
  intro σ h hGσ hYσ hE hth H locs ls hH hl hc
  have B := K.1
  have hl9 := K.2.2.2.2.2.2
  unfold w_X9_beginAgain_111 at h
  exact hQ _ _ _ _ _ dX9_beginAgain_111 hH hc h hGσ hYσ hE
set_option maxRecDepth 20000 in
theorem a_X9_beginAgain_105 {Q : Sg → Unit → Prop} {X : Sg → String → Prop} {th : Nat} (K : MD l R p s m args c cX9_beginAgain 3 RX9 D cA tys A n0 s0 10 186 []) (hQ : CQV p l e R s m args below meth c cX9_beginAgain D cA A n0 s0 QM σi Q) (hX : CX p l e R s m args below meth c 3 D cA A n0 s0 QM σi X) (hTh : CT p l e R s m args below meth c cX9_beginAgain 3 D cA A n0 s0 QM σi RX9 X) {K61 : Sg → Int → Prop} (hK61 : ∀ (σ : Sg) (v2 : Int) (g2 : rng v2), K61 σ v2 → RG σ → TY σ → Ext σi σ → kO σ th 9 → JJ p l e R s m args below meth c 3 D cA A n0 s0 QM σ 61 [(0, .ref th), (2, .int (i32 v2))] []) : ∀ (σ : Sg) (v2 : Int) (g2 : rng v2), w_X9_beginAgain_105 th K61 Q X σ v2 → RG σ → TY σ → Ext σi σ → kO σ th 9 → JJ p l e R s m args below meth c 3 D cA A n0 s0 QM σ 105 [(0, .ref th), (2, .int (i32 v2))] [] := by
  intro σ v2 g2 h hGσ hYσ hE hth H locs ls hH hl hc
  have B := K.1
  have hl9 := K.2.2.2.2.2.2
  unfold w_X9_beginAgain_105 at h
  obtain ⟨q1, h⟩ := h
  refine lv_iinc (k := 1) (v := i32 (v2 + 1)) (lv' := [(2, .int (i32 (v2 + 1))), (0, .ref th)]) B.1 B.2.1 dX9_beginAgain_105 hl rfl (i32_add _ _) (by decide) rfl (fun ls hl => ?_)
  refine lv_goto (tgt := 61) B.1 B.2.1 dX9_beginAgain_108 (by decide) ?_
  exact hK61 _ _ q1 h hGσ hYσ hE hth _ _ _ hH (lv_sub (l' := [(0, .ref th), (2, .int (i32 (v2 + 1)))]) hl [1, 0] rfl) hc
set_option maxRecDepth 20000 in
theorem a_X9_beginAgain_85 {Q : Sg → Unit → Prop} {X : Sg → String → Prop} {th : Nat} (K : MD l R p s m args c cX9_beginAgain 3 RX9 D cA tys A n0 s0 10 186 []) (hQ : CQV p l e R s m args below meth c cX9_beginAgain D cA A n0 s0 QM σi Q) (hX : CX p l e R s m args below meth c 3 D cA A n0 s0 QM σi X) (hTh : CT p l e R s m args below meth c cX9_beginAgain 3 D cA A n0 s0 QM σi RX9 X) {K61 : Sg → Int → Prop} (hK61 : ∀ (σ : Sg) (v2 : Int) (g2 : rng v2), K61 σ v2 → RG σ → TY σ → Ext σi σ → kO σ th 9 → JJ p l e R s m args below meth c 3 D cA A n0 s0 QM σ 61 [(0, .ref th), (2, .int (i32 v2))] []) : ∀ (σ : Sg) (v2 : Int) (g2 : rng v2), w_X9_beginAgain_85 th K61 Q X σ v2 → RG σ → TY σ → Ext σi σ → kO σ th 9 → JJ p l e R s m args below meth c 3 D cA A n0 s0 QM σ 85 [(0, .ref th), (2, .int (i32 v2))] [] := by
  intro σ v2 g2 h hGσ hYσ hE hth H locs ls hH hl hc
  have B := K.1
  have hl9 := K.2.2.2.2.2.2
  unfold w_X9_beginAgain_85 at h
  refine lv_aload_n B.1 B.2.1 dX9_beginAgain_85 rfl (lv_at hl 0 rfl) ?_
  refine lv_aload_n B.1 B.2.1 dX9_beginAgain_86 rfl (lv_at hl 0 rfl) ?_
  refine f_getp B hH hth (by decide) rfl wu_X9 3 (by decide) wf_X9_20 rfl rfl dX9_beginAgain_87 ?_
  refine lv_iload_n B.1 B.2.1 dX9_beginAgain_90 rfl (lv_at hl 1 rfl) ?_
  obtain ⟨a27, ea27, h⟩ := h
  have ka27 : kO σ a27 120 := (hYσ.get hth (by decide)) a27 ea27
  have h := h ka27
  obtain ⟨q1, h⟩ := h
  refine W.eq (g2 := F0 m 91 ls [.int (i32 v2), .ref a27, .ref th]) (by rw [ea27]; rfl) ?_
  refine y_aald B hH (t0 := 7) ka27 (by decide) K.2.1.2.2.2.2.1 q1 (hYσ.2 _) dX9_beginAgain_91 ?_
  refine lv_iconst (v := i32 1) B.1 B.2.1 dX9_beginAgain_92 (by decide) ?_
  refine lv_aload_n B.1 B.2.1 dX9_beginAgain_93 rfl (lv_at hl 0 rfl) ?_
  refine f_getp B hH hth (by decide) rfl wu_X9 3 (by decide) wf_X9_20 rfl rfl dX9_beginAgain_94 ?_
  refine lv_iload_n B.1 B.2.1 dX9_beginAgain_97 rfl (lv_at hl 1 rfl) ?_
  obtain ⟨q2, h⟩ := h
  refine W.eq (g2 := F0 m 98 ls [.int (i32 v2), .ref a27, .int (i32 1), va_rf (gP σ a27 v2.toNat), .ref th]) (by rw [ea27]; rfl) ?_
  refine y_aald B hH (t0 := 7) ka27 (by decide) K.2.1.2.2.2.2.1 q2 (hYσ.2 _) dX9_beginAgain_98 ?_
  obtain ⟨a28, ea28, h⟩ := h
  have ka28 : kO σ a28 10 := (hYσ.get ka27 rfl) a28 ea28
  have h := h ka28
  refine W.eq (g2 := F0 m 99 ls [.ref a28, .int (i32 1), va_rf (gP σ a27 v2.toNat), .ref th]) (by rw [ea28]; rfl) ?_
  refine f_getl B hH ka28 (by decide) rfl wu_X10 7 (by decide) wf_X9_127 rfl rfl dX9_beginAgain_99 ?_
  refine W.eq (g2 := F0 m 102 ls [.long (gJ σ a28 7), .int (i32 1), va_rf (gP σ a27 v2.toNat), .ref th]) (rfl) ?_
  refine c_V B hH hl hc K.2.2.1 (C := RX9) (T := TX9) (N := 20) (ci := 9) (As := [va_rf (gP σ a27 v2.toNat), .int (i32 1), .long (gJ σ a28 7)]) (ok_X9_sendToAll hl9 K.2.1 σ th (gP σ a27 v2.toNat) 1 (gJ σ a28 7) (hYσ.get ka27 rfl) (by unfold rng; omega) hth hGσ hYσ h) wc_X9_134 3 hd_X9_sendToAll ⟨Nat.le_trans (Nat.le_of_ble_eq_true rfl) K.2.2.2.1, Nat.le_trans (Nat.le_of_ble_eq_true rfl) K.2.2.2.2.1⟩ hth.1 hth.2 (by decide) rfl rfl (rest := []) rfl (Nat.le_of_ble_eq_true rfl) dX9_beginAgain_102 (fun σ29 w hq => ?_) (fun σ9 E9 hx9 => hX σ9 E9 _ _ _ (tb_out K.2.2.2.2.2.1 rfl) hx9.1 hx9.2.1 hx9.2.2.1 (hE.trans hx9.2.2.2))
  obtain ⟨rfl, h, hGσ29, hYσ29, xσ29⟩ := hq
  have h := h xσ29
  intro H locs ls hH hl hc
  refine W.eq (g2 := F0 m 105 ls []) (rfl) ?_
  try dsimp only at h
  exact a_X9_beginAgain_105 K hQ hX hTh hK61 _ _ g2 h hGσ29 hYσ29 (hE.trans xσ29) (hth.up xσ29) _ _ _ hH (lv_sub (l' := [(0, .ref th), (2, .int (i32 v2))]) hl [0, 1] rfl) hc
set_option maxRecDepth 20000 in
theorem a_X9_beginAgain_69 {Q : Sg → Unit → Prop} {X : Sg → String → Prop} {th : Nat} (K : MD l R p s m args c cX9_beginAgain 3 RX9 D cA tys A n0 s0 10 186 []) (hQ : CQV p l e R s m args below meth c cX9_beginAgain D cA A n0 s0 QM σi Q) (hX : CX p l e R s m args below meth c 3 D cA A n0 s0 QM σi X) (hTh : CT p l e R s m args below meth c cX9_beginAgain 3 D cA A n0 s0 QM σi RX9 X) {K61 : Sg → Int → Prop} (hK61 : ∀ (σ : Sg) (v2 : Int) (g2 : rng v2), K61 σ v2 → RG σ → TY σ → Ext σi σ → kO σ th 9 → JJ p l e R s m args below meth c 3 D cA A n0 s0 QM σ 61 [(0, .ref th), (2, .int (i32 v2))] []) : ∀ (σ : Sg) (v2 : Int) (g2 : rng v2), w_X9_beginAgain_69 th K61 Q X σ v2 → RG σ → TY σ → Ext σi σ → kO σ th 9 → JJ p l e R s m args below meth c 3 D cA A n0 s0 QM σ 69 [(0, .ref th), (2, .int (i32 v2))] [] := by
  intro σ v2 g2 h hGσ hYσ hE hth H locs ls hH hl hc
  have B := K.1
  have hl9 := K.2.2.2.2.2.2
  unfold w_X9_beginAgain_69 at h
  refine lv_aload_n B.1 B.2.1 dX9_beginAgain_69 rfl (lv_at hl 0 rfl) ?_
  refine f_getp B hH hth (by decide) rfl wu_X9 3 (by decide) wf_X9_20 rfl rfl dX9_beginAgain_70 ?_
  refine lv_iload_n B.1 B.2.1 dX9_beginAgain_73 rfl (lv_at hl 1 rfl) ?_
  obtain ⟨a30, ea30, h⟩ := h
  have ka30 : kO σ a30 120 := (hYσ.get hth (by decide)) a30 ea30
  have h := h ka30
  obtain ⟨q1, h⟩ := h
  refine W.eq (g2 := F0 m 74 ls [.int (i32 v2), .ref a30]) (by rw [ea30]; rfl) ?_
  refine y_aald B hH (t0 := 7) ka30 (by decide) K.2.1.2.2.2.2.1 q1 (hYσ.2 _) dX9_beginAgain_74 ?_
  obtain ⟨a31, ea31, h⟩ := h
  have ka31 : kO σ a31 10 := (hYσ.get ka30 rfl) a31 ea31
  have h := h ka31
  refine W.eq (g2 := F0 m 75 ls [.ref a31]) (by rw [ea31]; rfl) ?_
  refine f_getl B hH ka31 (by decide) rfl wu_X10 7 (by decide) wf_X9_127 rfl rfl dX9_beginAgain_75 ?_
  refine lv_ldc2 B.1 B.2.1 B.2.2.1 (B.2.2.2.1 _ (wk_X9_130)) dX9_beginAgain_78 ?_
  refine W.lcmp B.1 B.2.1 dX9_beginAgain_81 ?_
  refine lv_if_eq (tgt := 105) B.1 B.2.1 dX9_beginAgain_82 (by decide) (fun h9 => ?_) (fun h9 => ?_)
  · rw [if_pos ((lg_cmp_eq _ _).mp h9)] at h
    exact a_X9_beginAgain_105 K hQ hX hTh hK61 _ _ g2 h hGσ hYσ hE hth _ _ _ hH (lv_sub (l' := [(0, .ref th), (2, .int (i32 v2))]) hl [0, 1] rfl) hc
  · rw [if_neg (fun q => h9 ((lg_cmp_eq _ _).mpr q))] at h
    exact a_X9_beginAgain_85 K hQ hX hTh hK61 _ _ g2 h hGσ hYσ hE hth _ _ _ hH (lv_sub (l' := [(0, .ref th), (2, .int (i32 v2))]) hl [0, 1] rfl) hc
set_option maxRecDepth 20000 in
theorem a_X9_beginAgain_61 {Q : Sg → Unit → Prop} {X : Sg → String → Prop} {th : Nat} (K : MD l R p s m args c cX9_beginAgain 3 RX9 D cA tys A n0 s0 10 186 []) (hQ : CQV p l e R s m args below meth c cX9_beginAgain D cA A n0 s0 QM σi Q) (hX : CX p l e R s m args below meth c 3 D cA A n0 s0 QM σi X) (hTh : CT p l e R s m args below meth c cX9_beginAgain 3 D cA A n0 s0 QM σi RX9 X) {K61 : Sg → Int → Prop} (hK61 : ∀ (σ : Sg) (v2 : Int) (g2 : rng v2), K61 σ v2 → RG σ → TY σ → Ext σi σ → kO σ th 9 → JJ p l e R s m args below meth c 3 D cA A n0 s0 QM σ 61 [(0, .ref th), (2, .int (i32 v2))] []) : ∀ (σ : Sg) (v2 : Int) (g2 : rng v2), w_X9_beginAgain_61 th K61 Q X σ v2 → RG σ → TY σ → Ext σi σ → kO σ th 9 → JJ p l e R s m args below meth c 3 D cA A n0 s0 QM σ 61 [(0, .ref th), (2, .int (i32 v2))] [] := by
  intro σ v2 g2 h hGσ hYσ hE hth H locs ls hH hl hc
  have B := K.1
  have hl9 := K.2.2.2.2.2.2
  unfold w_X9_beginAgain_61 at h
  refine lv_iload_n B.1 B.2.1 dX9_beginAgain_61 rfl (lv_at hl 1 rfl) ?_
  refine lv_aload_n B.1 B.2.1 dX9_beginAgain_62 rfl (lv_at hl 0 rfl) ?_
  refine f_geti B hH hth (by decide) rfl wu_X9 10 (by decide) wf_X9_78 rfl rfl dX9_beginAgain_63 ?_
  refine lv_icmp_ge (tgt := 111) B.1 B.2.1 dX9_beginAgain_66 (by decide) (fun h9 => ?_) (fun h9 => ?_)
  · rw [if_pos ((i32_le (hGσ _ _) g2).mp h9)] at h
    exact a_X9_beginAgain_111 K hQ hX hTh _ h hGσ hYσ hE hth _ _ _ hH (lv_sub (l' := [(0, .ref th)]) hl [0] rfl) hc
  · rw [if_neg (fun q => h9 ((i32_le (hGσ _ _) g2).mpr q))] at h
    exact a_X9_beginAgain_69 K hQ hX hTh hK61 _ _ g2 h hGσ hYσ hE hth _ _ _ hH (lv_sub (l' := [(0, .ref th), (2, .int (i32 v2))]) hl [0, 1] rfl) hc
theorem al_X9_beginAgain_61 {Q : Sg → Unit → Prop} {X : Sg → String → Prop} {th : Nat} (K : MD l R p s m args c cX9_beginAgain 3 RX9 D cA tys A n0 s0 10 186 []) (hQ : CQV p l e R s m args below meth c cX9_beginAgain D cA A n0 s0 QM σi Q) (hX : CX p l e R s m args below meth c 3 D cA A n0 s0 QM σi X) (hTh : CT p l e R s m args below meth c cX9_beginAgain 3 D cA A n0 s0 QM σi RX9 X) : ∀ (n : Nat), ∀ (σ : Sg) (v2 : Int) (g2 : rng v2), wl_X9_beginAgain_61 th Q X n σ v2 → RG σ → TY σ → Ext σi σ → kO σ th 9 → JJ p l e R s m args below meth c 3 D cA A n0 s0 QM σ 61 [(0, .ref th), (2, .int (i32 v2))] [] := by
  intro n
  induction n with
  | zero => intro σ v2 g2 h; exact h.elim
  | succ n ih => exact fun σ v2 g2 h => a_X9_beginAgain_61 K hQ hX hTh ih σ v2 g2 h
set_option maxRecDepth 20000 in
theorem a_X9_beginAgain_59 {Q : Sg → Unit → Prop} {X : Sg → String → Prop} {th : Nat} (K : MD l R p s m args c cX9_beginAgain 3 RX9 D cA tys A n0 s0 10 186 []) (hQ : CQV p l e R s m args below meth c cX9_beginAgain D cA A n0 s0 QM σi Q) (hX : CX p l e R s m args below meth c 3 D cA A n0 s0 QM σi X) (hTh : CT p l e R s m args below meth c cX9_beginAgain 3 D cA A n0 s0 QM σi RX9 X) : ∀ (σ : Sg), w_X9_beginAgain_59 th Q X σ → RG σ → TY σ → Ext σi σ → kO σ th 9 → JJ p l e R s m args below meth c 3 D cA A n0 s0 QM σ 59 [(0, .ref th)] [] := by
  intro σ h hGσ hYσ hE hth H locs ls hH hl hc
  have B := K.1
  have hl9 := K.2.2.2.2.2.2
  unfold w_X9_beginAgain_59 at h
  refine lv_iconst (v := i32 0) B.1 B.2.1 dX9_beginAgain_59 (by decide) ?_
  refine lv_istore_n (lv' := [(2, .int (i32 0)), (0, .ref th)]) B.1 B.2.1 dX9_beginAgain_60 rfl hl (by decide) rfl (fun ls hl => ?_)
  obtain ⟨n9, h⟩ := h
  exact al_X9_beginAgain_61 K hQ hX hTh n9 _ _ (by unfold rng; omega) h hGσ hYσ hE hth _ _ _ hH (lv_sub (l' := [(0, .ref th), (2, .int (i32 0))]) hl [1, 0] rfl) hc
set_option maxRecDepth 20000 in
theorem a_X9_beginAgain_48 {Q : Sg → Unit → Prop} {X : Sg → String → Prop} {th : Nat} (K : MD l R p s m args c cX9_beginAgain 3 RX9 D cA tys A n0 s0 10 186 []) (hQ : CQV p l e R s m args below meth c cX9_beginAgain D cA A n0 s0 QM σi Q) (hX : CX p l e R s m args below meth c 3 D cA A n0 s0 QM σi X) (hTh : CT p l e R s m args below meth c cX9_beginAgain 3 D cA A n0 s0 QM σi RX9 X) {K37 : Sg → Int → Prop} (hK37 : ∀ (σ : Sg) (v2 : Int) (g2 : rng v2), K37 σ v2 → RG σ → TY σ → Ext σi σ → kO σ th 9 → JJ p l e R s m args below meth c 3 D cA A n0 s0 QM σ 37 [(0, .ref th), (2, .int (i32 v2))] []) : ∀ (σ : Sg) (v2 : Int) (g2 : rng v2), w_X9_beginAgain_48 th K37 Q X σ v2 → RG σ → TY σ → Ext σi σ → kO σ th 9 → JJ p l e R s m args below meth c 3 D cA A n0 s0 QM σ 48 [(0, .ref th), (2, .int (i32 v2))] [] := by
  intro σ v2 g2 h hGσ hYσ hE hth H locs ls hH hl hc
  have B := K.1
  have hl9 := K.2.2.2.2.2.2
  unfold w_X9_beginAgain_48 at h
  refine lv_aload_n B.1 B.2.1 dX9_beginAgain_48 rfl (lv_at hl 0 rfl) ?_
  refine lv_iload_n B.1 B.2.1 dX9_beginAgain_49 rfl (lv_at hl 1 rfl) ?_
  refine W.eq (g2 := F0 m 50 ls [.int (i32 v2), .ref th]) (rfl) ?_
  refine c_V B hH hl hc K.2.2.1 (C := RX9) (T := TX9) (N := 20) (ci := 9) (As := [.int (i32 v2)]) (ok_X9_restore hl9 K.2.1 σ th v2 g2 hth hGσ hYσ h) wc_X9_124 1 hd_X9_restore ⟨Nat.le_trans (Nat.le_of_ble_eq_true rfl) K.2.2.2.1, Nat.le_trans (Nat.le_of_ble_eq_true rfl) K.2.2.2.2.1⟩ hth.1 hth.2 (by decide) rfl rfl (rest := []) rfl (Nat.le_of_ble_eq_true rfl) dX9_beginAgain_50 (fun σ32 w hq => ?_) (fun σ9 E9 hx9 => hX σ9 E9 _ _ _ (tb_out K.2.2.2.2.2.1 rfl) hx9.1 hx9.2.1 hx9.2.2.1 (hE.trans hx9.2.2.2))
  obtain ⟨rfl, h, hGσ32, hYσ32, xσ32⟩ := hq
  have h := h xσ32
  intro H locs ls hH hl hc
  refine W.eq (g2 := F0 m 53 ls []) (rfl) ?_
  try dsimp only at h
  obtain ⟨q1, h⟩ := h
  refine lv_iinc (k := 1) (v := i32 (v2 + 1)) (lv' := [(2, .int (i32 (v2 + 1))), (0, .ref th)]) B.1 B.2.1 dX9_beginAgain_53 hl rfl (i32_add _ _) (by decide) rfl (fun ls hl => ?_)
  refine lv_goto (tgt := 37) B.1 B.2.1 dX9_beginAgain_56 (by decide) ?_
  exact hK37 _ _ q1 h hGσ32 hYσ32 (hE.trans xσ32) (hth.up xσ32) _ _ _ hH (lv_sub (l' := [(0, .ref th), (2, .int (i32 (v2 + 1)))]) hl [1, 0] rfl) hc
set_option maxRecDepth 20000 in
theorem a_X9_beginAgain_37 {Q : Sg → Unit → Prop} {X : Sg → String → Prop} {th : Nat} (K : MD l R p s m args c cX9_beginAgain 3 RX9 D cA tys A n0 s0 10 186 []) (hQ : CQV p l e R s m args below meth c cX9_beginAgain D cA A n0 s0 QM σi Q) (hX : CX p l e R s m args below meth c 3 D cA A n0 s0 QM σi X) (hTh : CT p l e R s m args below meth c cX9_beginAgain 3 D cA A n0 s0 QM σi RX9 X) {K37 : Sg → Int → Prop} (hK37 : ∀ (σ : Sg) (v2 : Int) (g2 : rng v2), K37 σ v2 → RG σ → TY σ → Ext σi σ → kO σ th 9 → JJ p l e R s m args below meth c 3 D cA A n0 s0 QM σ 37 [(0, .ref th), (2, .int (i32 v2))] []) : ∀ (σ : Sg) (v2 : Int) (g2 : rng v2), w_X9_beginAgain_37 th K37 Q X σ v2 → RG σ → TY σ → Ext σi σ → kO σ th 9 → JJ p l e R s m args below meth c 3 D cA A n0 s0 QM σ 37 [(0, .ref th), (2, .int (i32 v2))] [] := by
  intro σ v2 g2 h hGσ hYσ hE hth H locs ls hH hl hc
  have B := K.1
  have hl9 := K.2.2.2.2.2.2
  unfold w_X9_beginAgain_37 at h
  refine lv_iload_n B.1 B.2.1 dX9_beginAgain_37 rfl (lv_at hl 1 rfl) ?_
  refine lv_aload_n B.1 B.2.1 dX9_beginAgain_38 rfl (lv_at hl 0 rfl) ?_
  refine f_getp B hH hth (by decide) rfl wu_X9 9 (by decide) wf_X9_100 rfl rfl dX9_beginAgain_39 ?_
  obtain ⟨a33, ea33, h⟩ := h
  have ka33 : kO σ a33 4 := (hYσ.get hth (by decide)) a33 ea33
  have h := h ka33
  refine W.eq (g2 := F0 m 42 ls [.ref a33, .int (i32 v2)]) (by rw [ea33]; rfl) ?_
  refine f_geti B hH ka33 (by decide) rfl wu_X4 1 (by decide) wf_X9_119 rfl rfl dX9_beginAgain_42 ?_
  refine lv_icmp_ge (tgt := 59) B.1 B.2.1 dX9_beginAgain_45 (by decide) (fun h9 => ?_) (fun h9 => ?_)
  · rw [if_pos ((i32_le (hGσ _ _) g2).mp h9)] at h
    exact a_X9_beginAgain_59 K hQ hX hTh _ h hGσ hYσ hE hth _ _ _ hH (lv_sub (l' := [(0, .ref th)]) hl [0] rfl) hc
  · rw [if_neg (fun q => h9 ((i32_le (hGσ _ _) g2).mpr q))] at h
    exact a_X9_beginAgain_48 K hQ hX hTh hK37 _ _ g2 h hGσ hYσ hE hth _ _ _ hH (lv_sub (l' := [(0, .ref th), (2, .int (i32 v2))]) hl [0, 1] rfl) hc
theorem al_X9_beginAgain_37 {Q : Sg → Unit → Prop} {X : Sg → String → Prop} {th : Nat} (K : MD l R p s m args c cX9_beginAgain 3 RX9 D cA tys A n0 s0 10 186 []) (hQ : CQV p l e R s m args below meth c cX9_beginAgain D cA A n0 s0 QM σi Q) (hX : CX p l e R s m args below meth c 3 D cA A n0 s0 QM σi X) (hTh : CT p l e R s m args below meth c cX9_beginAgain 3 D cA A n0 s0 QM σi RX9 X) : ∀ (n : Nat), ∀ (σ : Sg) (v2 : Int) (g2 : rng v2), wl_X9_beginAgain_37 th Q X n σ v2 → RG σ → TY σ → Ext σi σ → kO σ th 9 → JJ p l e R s m args below meth c 3 D cA A n0 s0 QM σ 37 [(0, .ref th), (2, .int (i32 v2))] [] := by
  intro n
  induction n with
  | zero => intro σ v2 g2 h; exact h.elim
  | succ n ih => exact fun σ v2 g2 h => a_X9_beginAgain_37 K hQ hX hTh ih σ v2 g2 h
set_option maxRecDepth 20000 in
theorem a_X9_beginAgain_0 {Q : Sg → Unit → Prop} {X : Sg → String → Prop} {th : Nat} (K : MD l R p s m args c cX9_beginAgain 3 RX9 D cA tys A n0 s0 10 186 []) (hQ : CQV p l e R s m args below meth c cX9_beginAgain D cA A n0 s0 QM σi Q) (hX : CX p l e R s m args below meth c 3 D cA A n0 s0 QM σi X) (hTh : CT p l e R s m args below meth c cX9_beginAgain 3 D cA A n0 s0 QM σi RX9 X) : ∀ (σ : Sg) (v1 : Int) (g1 : rng v1), w_X9_beginAgain_0 th Q X σ v1 → RG σ → TY σ → Ext σi σ → kO σ th 9 → JJ p l e R s m args below meth c 3 D cA A n0 s0 QM σ 0 [(0, .ref th), (1, .int (i32 v1))] [] := by
  intro σ v1 g1 h hGσ hYσ hE hth H locs ls hH hl hc
  have B := K.1
  have hl9 := K.2.2.2.2.2.2
  unfold w_X9_beginAgain_0 at h
  refine lv_aload_n B.1 B.2.1 dX9_beginAgain_0 rfl (lv_at hl 0 rfl) ?_
  refine W.eq (g2 := F0 m 1 ls [.ref th]) (rfl) ?_
  refine c_V B hH hl hc K.2.2.1 (C := RX9) (T := TX9) (N := 20) (ci := 9) (As := []) (ok_X9_empty hl9 K.2.1 σ th hth hGσ hYσ h) wc_X9_61 0 hd_X9_empty ⟨Nat.le_trans (Nat.le_of_ble_eq_true rfl) K.2.2.2.1, Nat.le_trans (Nat.le_of_ble_eq_true rfl) K.2.2.2.2.1⟩ hth.1 hth.2 (by decide) rfl rfl (rest := []) rfl (Nat.le_of_ble_eq_true rfl) dX9_beginAgain_1 (fun σ34 w hq => ?_) (fun σ9 E9 hx9 => hX σ9 E9 _ _ _ (tb_out K.2.2.2.2.2.1 rfl) hx9.1 hx9.2.1 hx9.2.2.1 (hE.trans hx9.2.2.2))
  obtain ⟨rfl, h, hGσ34, hYσ34, xσ34⟩ := hq
  have h := h xσ34
  intro H locs ls hH hl hc
  refine W.eq (g2 := F0 m 4 ls []) (rfl) ?_
  try dsimp only at h
  refine lv_aload_n B.1 B.2.1 dX9_beginAgain_4 rfl (lv_at hl 0 rfl) ?_
  refine f_getp B hH (hth.up xσ34) (by decide) rfl wu_X9 2 (by decide) wf_X9_12 rfl rfl dX9_beginAgain_5 ?_
  refine lv_aload_n B.1 B.2.1 dX9_beginAgain_8 rfl (lv_at hl 0 rfl) ?_
  refine f_getp B hH (hth.up xσ34) (by decide) rfl wu_X9 0 (by decide) wf_X9_48 rfl rfl dX9_beginAgain_9 ?_
  obtain ⟨a36, ea36, h⟩ := h
  have ka36 : kO σ34 a36 3 := (hYσ34.get (hth.up xσ34) (by decide)) a36 ea36
  have h := h ka36
  refine W.eq (g2 := F0 m 12 ls [va_rf (gP σ34 th 0), .ref a36]) (by rw [ea36]; rfl) ?_
  refine c_V B hH hl hc K.2.2.1 (C := RX3) (T := TX3) (N := 10) (ci := 3) (As := [va_rf (gP σ34 th 0)]) (ok_X3_giveUp hl9 K.2.1 σ34 a36 (gP σ34 th 0) (hYσ34.get (hth.up xσ34) (by decide)) ka36 hGσ34 hYσ34 h) wc_X9_116 1 hd_X3_giveUp ⟨Nat.le_trans (Nat.le_of_ble_eq_true rfl) K.2.2.2.1, Nat.le_trans (Nat.le_of_ble_eq_true rfl) K.2.2.2.2.1⟩ ka36.1 ka36.2 (by decide) rfl rfl (rest := []) rfl (Nat.le_of_ble_eq_true rfl) dX9_beginAgain_12 (fun σ35 w hq => ?_) (fun σ9 E9 hx9 => hX σ9 E9 _ _ _ (tb_out K.2.2.2.2.2.1 rfl) hx9.1 hx9.2.1 hx9.2.2.1 ((hE.trans xσ34).trans hx9.2.2.2))
  obtain ⟨rfl, h, hGσ35, hYσ35, xσ35⟩ := hq
  have h := h xσ35
  intro H locs ls hH hl hc
  refine W.eq (g2 := F0 m 15 ls []) (rfl) ?_
  try dsimp only at h
  refine lv_aload_n B.1 B.2.1 dX9_beginAgain_15 rfl (lv_at hl 0 rfl) ?_
  refine lv_iconst (v := i32 0) B.1 B.2.1 dX9_beginAgain_16 (by decide) ?_
  obtain ⟨σ37, eσ37⟩ : ∃ z, z = pI σ35 th 16 0 := ⟨_, rfl⟩
  have h := h σ37 eσ37
  refine f_puti B hH (hth.up (xσ34.trans xσ35)) (by decide) rfl wu_X9 tyX9 tyX9_ok nmX9 16 (by decide) wf_X9_84 rfl (ty := .boolean) rfl rfl rfl rfl rfl dX9_beginAgain_17 (fun H locs hH => ?_)
  have hH : Hd D cA A s (pI σ35 th 16 0) H locs := hH
  rw [← eσ37] at hH
  have hGσ37 : RG σ37 := by rw [eσ37]; exact hGσ35.pI (by unfold rng; omega)
  have hYσ37 : TY σ37 := by rw [eσ37]; exact hYσ35.pI
  have xσ37 : Ext σ35 σ37 := by rw [eσ37]; exact Ext.pI
  have hc : CB n0 s0 σ37 := by rw [eσ37]; exact hc
  rw [show gc σ35 = gc σ37 by rw [eσ37]; try rfl, show gs σ35 = gs σ37 by rw [eσ37]; try rfl]
  refine lv_aload_n B.1 B.2.1 dX9_beginAgain_20 rfl (lv_at hl 0 rfl) ?_
  refine lv_dup B.1 B.2.1 dX9_beginAgain_21 rfl ?_
  refine f_geti B hH (hth.up (xσ34.trans (xσ35.trans xσ37))) (by decide) rfl wu_X9 19 (by decide) wf_X9_94 rfl rfl dX9_beginAgain_22 ?_
  refine lv_iconst (v := i32 1) B.1 B.2.1 dX9_beginAgain_25 (by decide) ?_
  refine lv_iadd B.1 B.2.1 dX9_beginAgain_26 ?_
  rw [i32_add]
  refine W.eq (g2 := F0 m 27 ls [.int (i32 (wr (gI σ37 th 19 + 1))), .ref th]) (by rw [i32_wr]) ?_
  obtain ⟨σ38, eσ38⟩ : ∃ z, z = pI σ37 th 19 (wr (gI σ37 th 19 + 1)) := ⟨_, rfl⟩
  have h := h σ38 eσ38
  refine f_puti B hH (hth.up (xσ34.trans (xσ35.trans xσ37))) (by decide) rfl wu_X9 tyX9 tyX9_ok nmX9 19 (by decide) wf_X9_94 rfl (ty := .int) rfl rfl rfl rfl rfl dX9_beginAgain_27 (fun H locs hH => ?_)
  have hH : Hd D cA A s (pI σ37 th 19 (wr (gI σ37 th 19 + 1))) H locs := hH
  rw [← eσ38] at hH
  have hGσ38 : RG σ38 := by rw [eσ38]; exact hGσ37.pI (rng_wr _)
  have hYσ38 : TY σ38 := by rw [eσ38]; exact hYσ37.pI
  have xσ38 : Ext σ37 σ38 := by rw [eσ38]; exact Ext.pI
  have hc : CB n0 s0 σ38 := by rw [eσ38]; exact hc
  rw [show gc σ37 = gc σ38 by rw [eσ38]; try rfl, show gs σ37 = gs σ38 by rw [eσ38]; try rfl]
  refine lv_aload_n B.1 B.2.1 dX9_beginAgain_30 rfl (lv_at hl 0 rfl) ?_
  refine lv_iload_n B.1 B.2.1 dX9_beginAgain_31 rfl (lv_at hl 1 rfl) ?_
  refine W.eq (g2 := F0 m 32 ls [.int (i32 v1), .ref th]) (rfl) ?_
  refine c_V B hH hl hc K.2.2.1 (C := RX9) (T := TX9) (N := 20) (ci := 9) (As := [.int (i32 v1)]) (ok_X9_layOut hl9 K.2.1 σ38 th v1 g1 (hth.up (xσ34.trans (xσ35.trans (xσ37.trans xσ38)))) hGσ38 hYσ38 h) wc_X9_112 1 hd_X9_layOut ⟨Nat.le_trans (Nat.le_of_ble_eq_true rfl) K.2.2.2.1, Nat.le_trans (Nat.le_of_ble_eq_true rfl) K.2.2.2.2.1⟩ (hth.up (xσ34.trans (xσ35.trans (xσ37.trans xσ38)))).1 (hth.up (xσ34.trans (xσ35.trans (xσ37.trans xσ38)))).2 (by decide) rfl rfl (rest := []) rfl (Nat.le_of_ble_eq_true rfl) dX9_beginAgain_32 (fun σ39 w hq => ?_) (fun σ9 E9 hx9 => hX σ9 E9 _ _ _ (tb_out K.2.2.2.2.2.1 rfl) hx9.1 hx9.2.1 hx9.2.2.1 (((((hE.trans xσ34).trans xσ35).trans xσ37).trans xσ38).trans hx9.2.2.2))
  obtain ⟨rfl, h, hGσ39, hYσ39, xσ39⟩ := hq
  have h := h xσ39
  intro H locs ls hH hl hc
  refine W.eq (g2 := F0 m 35 ls []) (rfl) ?_
  try dsimp only at h
  refine lv_iconst (v := i32 0) B.1 B.2.1 dX9_beginAgain_35 (by decide) ?_
  refine lv_istore_n (lv' := [(2, .int (i32 0)), (0, .ref th), (1, .int (i32 v1))]) B.1 B.2.1 dX9_beginAgain_36 rfl hl (by decide) rfl (fun ls hl => ?_)
  obtain ⟨n9, h⟩ := h
  exact al_X9_beginAgain_37 K hQ hX hTh n9 _ _ (by unfold rng; omega) h hGσ39 hYσ39 (((((hE.trans xσ34).trans xσ35).trans xσ37).trans xσ38).trans xσ39) (hth.up (xσ34.trans (xσ35.trans (xσ37.trans (xσ38.trans xσ39))))) _ _ _ hH (lv_sub (l' := [(0, .ref th), (2, .int (i32 0))]) hl [1, 0] rfl) hc
theorem ok_X9_beginAgain (hl0 : l.stackTraces = false) (hT : TyC cA tys) {Q : Sg → Unit → Prop} {X : Sg → String → Prop} (σ : Sg) (th : Nat) (v1 : Int) (g1 : rng v1) (hth : kO σ th 9) (hG : RG σ) (hY : TY σ) (h : wp_X9_beginAgain th v1 σ Q X) : Ok l D cA tys A yX9_beginAgain (.code yX9_beginAgain cX9_beginAgain 3 none) 10 186 [.ref th, .int (i32 v1)] σ (QcV σ Q) (QxC σ X) := by
  unfold wp_X9_beginAgain at h
  exact oc_V hl0 (by decide) (by exact Nat.le_of_ble_eq_true rfl) hT (fun p e R s m args below meth c K hQ hX hTh hin9 H locs ls hH hl hc => a_X9_beginAgain_0 K hQ hX hTh σ v1 g1 h hG hY (Ext.rfl' σ) hth H locs ls hH (lv_sub (l' := [(0, .ref th), (1, .int (i32 v1))]) hl [0, 1] rfl) hc)
theorem dX12_fail_0 : decode cX12_fail 0 = .ok (.aload_n 0, 1) := by decide +kernel
theorem dX12_fail_1 : decode cX12_fail 1 = .ok (.invokevirtual 140, 3) := by decide +kernel
theorem dX12_fail_4 : decode cX12_fail 4 = .ok (.aload_n 0, 1) := by decide +kernel
theorem dX12_fail_5 : decode cX12_fail 5 = .ok (.getfield 49, 3) := by decide +kernel
theorem dX12_fail_8 : decode cX12_fail 8 = .ok (.aload_n 0, 1) := by decide +kernel
theorem dX12_fail_9 : decode cX12_fail 9 = .ok (.getfield 49, 3) := by decide +kernel
theorem dX12_fail_12 : decode cX12_fail 12 = .ok (.getfield 156, 3) := by decide +kernel
theorem dX12_fail_15 : decode cX12_fail 15 = .ok (.invokevirtual 159, 3) := by decide +kernel
theorem dX12_fail_18 : decode cX12_fail 18 = .ok (.aload_n 0, 1) := by decide +kernel
theorem dX12_fail_19 : decode cX12_fail 19 = .ok (.getfield 49, 3) := by decide +kernel
theorem dX12_fail_22 : decode cX12_fail 22 = .ok (.getfield 66, 3) := by decide +kernel
theorem dX12_fail_25 : decode cX12_fail 25 = .ok (.getfield 163, 3) := by decide +kernel
theorem dX12_fail_28 : decode cX12_fail 28 = .ok (.ireturn, 1) := by decide +kernel
set_option maxRecDepth 20000 in
theorem a_X12_fail_0 {Q : Sg → Int → Prop} {X : Sg → String → Prop} {th : Nat} (K : MD l R p s m args c cX12_fail 1 RX12 D cA tys A n0 s0 11 208 []) (hQ : CQI p l e R s m args below meth c cX12_fail D cA A n0 s0 QM σi Q) (hX : CX p l e R s m args below meth c 1 D cA A n0 s0 QM σi X) (hTh : CT p l e R s m args below meth c cX12_fail 1 D cA A n0 s0 QM σi RX12 X) : ∀ (σ : Sg), w_X12_fail_0 th Q X σ → RG σ → TY σ → Ext σi σ → kO σ th 12 → JJ p l e R s m args below meth c 1 D cA A n0 s0 QM σ 0 [(0, .ref th)] [] := by
  intro σ h hGσ hYσ hE hth H locs ls hH hl hc
  have B := K.1
  have hl9 := K.2.2.2.2.2.2
  unfold w_X12_fail_0 at h
  refine lv_aload_n B.1 B.2.1 dX12_fail_0 rfl (lv_at hl 0 rfl) ?_
  refine W.eq (g2 := F0 m 1 ls [.ref th]) (rfl) ?_
  refine c_V B hH hl hc K.2.2.1 (C := RX12) (T := TX12) (N := 9) (ci := 12) (As := []) (ok_X12_needRun hl9 K.2.1 σ th hth hGσ hYσ h) wc_X12_140 0 hd_X12_needRun ⟨Nat.le_trans (Nat.le_of_ble_eq_true rfl) K.2.2.2.1, Nat.le_trans (Nat.le_of_ble_eq_true rfl) K.2.2.2.2.1⟩ hth.1 hth.2 (by decide) rfl rfl (rest := []) rfl (Nat.le_of_ble_eq_true rfl) dX12_fail_1 (fun σ11 w hq => ?_) (fun σ9 E9 hx9 => hX σ9 E9 _ _ _ (tb_out K.2.2.2.2.2.1 rfl) hx9.1 hx9.2.1 hx9.2.2.1 (hE.trans hx9.2.2.2))
  obtain ⟨rfl, h, hGσ11, hYσ11, xσ11⟩ := hq
  have h := h xσ11
  intro H locs ls hH hl hc
  refine W.eq (g2 := F0 m 4 ls []) (rfl) ?_
  try dsimp only at h
  refine lv_aload_n B.1 B.2.1 dX12_fail_4 rfl (lv_at hl 0 rfl) ?_
  refine f_getp B hH (hth.up xσ11) (by decide) rfl wu_X12 7 (by decide) wf_X12_49 rfl rfl dX12_fail_5 ?_
  refine lv_aload_n B.1 B.2.1 dX12_fail_8 rfl (lv_at hl 0 rfl) ?_
  refine f_getp B hH (hth.up xσ11) (by decide) rfl wu_X12 7 (by decide) wf_X12_49 rfl rfl dX12_fail_9 ?_
  obtain ⟨a12, ea12, h⟩ := h
  have ka12 : kO σ11 a12 9 := (hYσ11.get (hth.up xσ11) (by decide)) a12 ea12
  have h := h ka12
  refine W.eq (g2 := F0 m 12 ls [.ref a12, va_rf (gP σ11 th 7)]) (by rw [ea12]; rfl) ?_
  refine f_geti B hH ka12 (by decide) rfl wu_X9 12 (by decide) wf_X12_156 rfl rfl dX12_fail_12 ?_
  refine W.eq (g2 := F0 m 15 ls [.int (i32 (gI σ11 a12 12)), .ref a12]) (by rw [ea12]; rfl) ?_
  refine c_V B hH hl hc K.2.2.1 (C := RX9) (T := TX9) (N := 20) (ci := 9) (As := [.int (i32 (gI σ11 a12 12))]) (ok_X9_beginAgain hl9 K.2.1 σ11 a12 (gI σ11 a12 12) (hGσ11 _ _) ka12 hGσ11 hYσ11 h) wc_X12_159 1 hd_X9_beginAgain ⟨Nat.le_trans (Nat.le_of_ble_eq_true rfl) K.2.2.2.1, Nat.le_trans (Nat.le_of_ble_eq_true rfl) K.2.2.2.2.1⟩ ka12.1 ka12.2 (by decide) rfl rfl (rest := []) rfl (Nat.le_of_ble_eq_true rfl) dX12_fail_15 (fun σ13 w hq => ?_) (fun σ9 E9 hx9 => hX σ9 E9 _ _ _ (tb_out K.2.2.2.2.2.1 rfl) hx9.1 hx9.2.1 hx9.2.2.1 ((hE.trans xσ11).trans hx9.2.2.2))
  obtain ⟨rfl, h, hGσ13, hYσ13, xσ13⟩ := hq
  have h := h xσ13
  intro H locs ls hH hl hc
  refine W.eq (g2 := F0 m 18 ls []) (rfl) ?_
  try dsimp only at h
  refine lv_aload_n B.1 B.2.1 dX12_fail_18 rfl (lv_at hl 0 rfl) ?_
  refine f_getp B hH (hth.up (xσ11.trans xσ13)) (by decide) rfl wu_X12 7 (by decide) wf_X12_49 rfl rfl dX12_fail_19 ?_
  obtain ⟨a14, ea14, h⟩ := h
  have ka14 : kO σ13 a14 9 := (hYσ13.get (hth.up (xσ11.trans xσ13)) (by decide)) a14 ea14
  have h := h ka14
  refine W.eq (g2 := F0 m 22 ls [.ref a14]) (by rw [ea14]; rfl) ?_
  refine f_getp B hH ka14 (by decide) rfl wu_X9 2 (by decide) wf_X12_66 rfl rfl dX12_fail_22 ?_
  obtain ⟨a15, ea15, h⟩ := h
  have ka15 : kO σ13 a15 3 := (hYσ13.get ka14 (by decide)) a15 ea15
  have h := h ka15
  refine W.eq (g2 := F0 m 25 ls [.ref a15]) (by rw [ea15]; rfl) ?_
  refine f_geti B hH ka15 (by decide) rfl wu_X3 4 (by decide) wf_X12_163 rfl rfl dX12_fail_25 ?_
  exact hQ _ _ _ _ _ _ (hGσ13 _ _) dX12_fail_28 hH hc h hGσ13 hYσ13 ((hE.trans xσ11).trans xσ13)
theorem ok_X12_fail (hl0 : l.stackTraces = false) (hT : TyC cA tys) {Q : Sg → Int → Prop} {X : Sg → String → Prop} (σ : Sg) (th : Nat) (hth : kO σ th 12) (hG : RG σ) (hY : TY σ) (h : wp_X12_fail th σ Q X) : Ok l D cA tys A yX12_fail (.code yX12_fail cX12_fail 1 (some .int)) 11 208 [.ref th] σ (QcI σ Q) (QxC σ X) := by
  unfold wp_X12_fail at h
  exact oc_I hl0 (by decide) (by exact Nat.le_of_ble_eq_true rfl) hT (fun p e R s m args below meth c K hQ hX hTh H locs ls hH hl hc => a_X12_fail_0 K hQ hX hTh σ h hG hY (Ext.rfl' σ) hth H locs ls hH (lv_sub (l' := [(0, .ref th)]) hl [0] rfl) hc)
theorem dX12_fault_0 : decode cX12_fault 0 = .ok (.aload_n 0, 1) := by decide +kernel
theorem dX12_fault_1 : decode cX12_fault 1 = .ok (.getfield 17, 3) := by decide +kernel
theorem dX12_fault_4 : decode cX12_fault 4 = .ok (.ireturn, 1) := by decide +kernel
set_option maxRecDepth 20000 in
theorem a_X12_fault_0 {Q : Sg → Int → Prop} {X : Sg → String → Prop} {th : Nat} (K : MD l R p s m args c cX12_fault 1 RX12 D cA tys A n0 s0 0 0 []) (hQ : CQI p l e R s m args below meth c cX12_fault D cA A n0 s0 QM σi Q) (hX : CX p l e R s m args below meth c 1 D cA A n0 s0 QM σi X) (hTh : CT p l e R s m args below meth c cX12_fault 1 D cA A n0 s0 QM σi RX12 X) : ∀ (σ : Sg), w_X12_fault_0 th Q X σ → RG σ → TY σ → Ext σi σ → kO σ th 12 → JJ p l e R s m args below meth c 1 D cA A n0 s0 QM σ 0 [(0, .ref th)] [] := by
  intro σ h hGσ hYσ hE hth H locs ls hH hl hc
  have B := K.1
  have hl9 := K.2.2.2.2.2.2
  unfold w_X12_fault_0 at h
  refine lv_aload_n B.1 B.2.1 dX12_fault_0 rfl (lv_at hl 0 rfl) ?_
  refine f_geti B hH hth (by decide) rfl wu_X12 2 (by decide) wf_X12_17 rfl rfl dX12_fault_1 ?_
  exact hQ _ _ _ _ _ _ (hGσ _ _) dX12_fault_4 hH hc h hGσ hYσ hE
theorem ok_X12_fault (hl0 : l.stackTraces = false) (hT : TyC cA tys) {Q : Sg → Int → Prop} {X : Sg → String → Prop} (σ : Sg) (th : Nat) (hth : kO σ th 12) (hG : RG σ) (hY : TY σ) (h : wp_X12_fault th σ Q X) : Ok l D cA tys A yX12_fault (.code yX12_fault cX12_fault 1 (some .int)) 0 0 [.ref th] σ (QcI σ Q) (QxC σ X) := by
  unfold wp_X12_fault at h
  exact oc_I hl0 (by decide) (by exact Nat.le_of_ble_eq_true rfl) hT (fun p e R s m args below meth c K hQ hX hTh H locs ls hH hl hc => a_X12_fault_0 K hQ hX hTh σ h hG hY (Ext.rfl' σ) hth H locs ls hH (lv_sub (l' := [(0, .ref th)]) hl [0] rfl) hc)
theorem dX12_feed_0 : decode cX12_feed 0 = .ok (.iload_n 3, 1) := by decide +kernel
theorem dX12_feed_1 : decode cX12_feed 1 = .ok (.iconst 1, 1) := by decide +kernel
theorem dX12_feed_2 : decode cX12_feed 2 = .ok (.if_icmp .lt 9, 3) := by decide +kernel
theorem dX12_feed_5 : decode cX12_feed 5 = .ok (.iload_n 3, 1) := by decide +kernel
theorem dX12_feed_6 : decode cX12_feed 6 = .ok (.bipush 8, 2) := by decide +kernel
theorem dX12_feed_8 : decode cX12_feed 8 = .ok (.if_icmp .le 11, 3) := by decide +kernel
theorem dX12_feed_11 : decode cX12_feed 11 = .ok (.new 60, 3) := by decide +kernel
theorem dX12_feed_14 : decode cX12_feed 14 = .ok (.dup, 1) := by decide +kernel
theorem dX12_feed_15 : decode cX12_feed 15 = .ok (.invokespecial 62, 3) := by decide +kernel
theorem dX12_feed_18 : decode cX12_feed 18 = .ok (.athrow, 1) := by decide +kernel
theorem dX12_feed_19 : decode cX12_feed 19 = .ok (.aload_n 0, 1) := by decide +kernel
theorem dX12_feed_20 : decode cX12_feed 20 = .ok (.getfield 13, 3) := by decide +kernel
theorem dX12_feed_23 : decode cX12_feed 23 = .ok (.iload_n 3, 1) := by decide +kernel
theorem dX12_feed_24 : decode cX12_feed 24 = .ok (.iadd, 1) := by decide +kernel
theorem dX12_feed_25 : decode cX12_feed 25 = .ok (.sipush 1500, 3) := by decide +kernel
theorem dX12_feed_28 : decode cX12_feed 28 = .ok (.if_icmp .le 11, 3) := by decide +kernel
theorem dX12_feed_31 : decode cX12_feed 31 = .ok (.new 63, 3) := by decide +kernel
theorem dX12_feed_34 : decode cX12_feed 34 = .ok (.dup, 1) := by decide +kernel
theorem dX12_feed_35 : decode cX12_feed 35 = .ok (.invokespecial 65, 3) := by decide +kernel
theorem dX12_feed_38 : decode cX12_feed 38 = .ok (.athrow, 1) := by decide +kernel
theorem dX12_feed_39 : decode cX12_feed 39 = .ok (.iload_n 3, 1) := by decide +kernel
theorem dX12_feed_40 : decode cX12_feed 40 = .ok (.iconst 1, 1) := by decide +kernel
theorem dX12_feed_41 : decode cX12_feed 41 = .ok (.isub, 1) := by decide +kernel
theorem dX12_feed_42 : decode cX12_feed 42 = .ok (.istore 4, 2) := by decide +kernel
theorem dX12_feed_44 : decode cX12_feed 44 = .ok (.iload 4, 2) := by decide +kernel
theorem dX12_feed_46 : decode cX12_feed 46 = .ok (.ifCond .lt 37, 3) := by decide +kernel
theorem dX12_feed_49 : decode cX12_feed 49 = .ok (.aload_n 0, 1) := by decide +kernel
theorem dX12_feed_50 : decode cX12_feed 50 = .ok (.getfield 9, 3) := by decide +kernel
theorem dX12_feed_53 : decode cX12_feed 53 = .ok (.aload_n 0, 1) := by decide +kernel
theorem dX12_feed_54 : decode cX12_feed 54 = .ok (.getfield 13, 3) := by decide +kernel
theorem dX12_feed_57 : decode cX12_feed 57 = .ok (.lload_n 1, 1) := by decide +kernel
theorem dX12_feed_58 : decode cX12_feed 58 = .ok (.bipush 8, 2) := by decide +kernel
theorem dX12_feed_60 : decode cX12_feed 60 = .ok (.iload 4, 2) := by decide +kernel
theorem dX12_feed_62 : decode cX12_feed 62 = .ok (.imul, 1) := by decide +kernel
theorem dX12_feed_63 : decode cX12_feed 63 = .ok (.lushr, 1) := by decide +kernel
theorem dX12_feed_64 : decode cX12_feed 64 = .ok (.l2i, 1) := by decide +kernel
theorem dX12_feed_65 : decode cX12_feed 65 = .ok (.i2b, 1) := by decide +kernel
theorem dX12_feed_66 : decode cX12_feed 66 = .ok (.bastore, 1) := by decide +kernel
theorem dX12_feed_67 : decode cX12_feed 67 = .ok (.aload_n 0, 1) := by decide +kernel
theorem dX12_feed_68 : decode cX12_feed 68 = .ok (.dup, 1) := by decide +kernel
theorem dX12_feed_69 : decode cX12_feed 69 = .ok (.getfield 13, 3) := by decide +kernel
theorem dX12_feed_72 : decode cX12_feed 72 = .ok (.iconst 1, 1) := by decide +kernel
theorem dX12_feed_73 : decode cX12_feed 73 = .ok (.iadd, 1) := by decide +kernel
theorem dX12_feed_74 : decode cX12_feed 74 = .ok (.putfield 13, 3) := by decide +kernel
theorem dX12_feed_77 : decode cX12_feed 77 = .ok (.iinc 4 (-1), 3) := by decide +kernel
theorem dX12_feed_80 : decode cX12_feed 80 = .ok (.goto (-36), 3) := by decide +kernel
theorem dX12_feed_83 : decode cX12_feed 83 = .ok (.aload_n 0, 1) := by decide +kernel
theorem dX12_feed_84 : decode cX12_feed 84 = .ok (.getfield 13, 3) := by decide +kernel
theorem dX12_feed_87 : decode cX12_feed 87 = .ok (.ireturn, 1) := by decide +kernel
set_option maxRecDepth 20000 in
theorem a_X12_feed_11 {Q : Sg → Int → Prop} {X : Sg → String → Prop} {th : Nat} (K : MD l R p s m args c cX12_feed 5 RX12 D cA tys A n0 s0 6 90 []) (hQ : CQI p l e R s m args below meth c cX12_feed D cA A n0 s0 QM σi Q) (hX : CX p l e R s m args below meth c 5 D cA A n0 s0 QM σi X) (hTh : CT p l e R s m args below meth c cX12_feed 5 D cA A n0 s0 QM σi RX12 X) : ∀ (σ : Sg), w_X12_feed_11 th Q X σ → RG σ → TY σ → Ext σi σ → kO σ th 12 → JJ p l e R s m args below meth c 5 D cA A n0 s0 QM σ 11 [(0, .ref th)] [] := by
  intro σ h hGσ hYσ hE hth H locs ls hH hl hc
  have B := K.1
  have hl9 := K.2.2.2.2.2.2
  unfold w_X12_feed_11 at h
  obtain ⟨q9, h⟩ := h
  exact hTh _ _ _ _ _ _ _ _ _ tw_X12_60_62 dX12_feed_11 dX12_feed_14 dX12_feed_15 dX12_feed_18 hH hl hc q9 h hGσ hYσ hE (by have := K.2.2.2.1; omega) (by have := K.2.2.2.2.1; omega)
set_option maxRecDepth 20000 in
theorem a_X12_feed_83 {Q : Sg → Int → Prop} {X : Sg → String → Prop} {th : Nat} (K : MD l R p s m args c cX12_feed 5 RX12 D cA tys A n0 s0 6 90 []) (hQ : CQI p l e R s m args below meth c cX12_feed D cA A n0 s0 QM σi Q) (hX : CX p l e R s m args below meth c 5 D cA A n0 s0 QM σi X) (hTh : CT p l e R s m args below meth c cX12_feed 5 D cA A n0 s0 QM σi RX12 X) : ∀ (σ : Sg), w_X12_feed_83 th Q X σ → RG σ → TY σ → Ext σi σ → kO σ th 12 → JJ p l e R s m args below meth c 5 D cA A n0 s0 QM σ 83 [(0, .ref th)] [] := by
  intro σ h hGσ hYσ hE hth H locs ls hH hl hc
  have B := K.1
  have hl9 := K.2.2.2.2.2.2
  unfold w_X12_feed_83 at h
  refine lv_aload_n B.1 B.2.1 dX12_feed_83 rfl (lv_at hl 0 rfl) ?_
  refine f_geti B hH hth (by decide) rfl wu_X12 1 (by decide) wf_X12_13 rfl rfl dX12_feed_84 ?_
  exact hQ _ _ _ _ _ _ (hGσ _ _) dX12_feed_87 hH hc h hGσ hYσ hE
set_option maxRecDepth 20000 in
theorem a_X12_feed_49 {Q : Sg → Int → Prop} {X : Sg → String → Prop} {th : Nat} (K : MD l R p s m args c cX12_feed 5 RX12 D cA tys A n0 s0 6 90 []) (hQ : CQI p l e R s m args below meth c cX12_feed D cA A n0 s0 QM σi Q) (hX : CX p l e R s m args below meth c 5 D cA A n0 s0 QM σi X) (hTh : CT p l e R s m args below meth c cX12_feed 5 D cA A n0 s0 QM σi RX12 X) {K44 : Sg → Int64 → Int → Prop} (hK44 : ∀ (σ : Sg) (v1 : Int64) (v4 : Int) (g4 : rng v4), K44 σ v1 v4 → RG σ → TY σ → Ext σi σ → kO σ th 12 → JJ p l e R s m args below meth c 5 D cA A n0 s0 QM σ 44 [(0, .ref th), (1, .long v1), (4, .int (i32 v4))] []) : ∀ (σ : Sg) (v1 : Int64) (v4 : Int) (g4 : rng v4), w_X12_feed_49 th K44 Q X σ v1 v4 → RG σ → TY σ → Ext σi σ → kO σ th 12 → JJ p l e R s m args below meth c 5 D cA A n0 s0 QM σ 49 [(0, .ref th), (1, .long v1), (4, .int (i32 v4))] [] := by
  intro σ v1 v4 g4 h hGσ hYσ hE hth H locs ls hH hl hc
  have B := K.1
  have hl9 := K.2.2.2.2.2.2
  unfold w_X12_feed_49 at h
  refine lv_aload_n B.1 B.2.1 dX12_feed_49 rfl (lv_at hl 0 rfl) ?_
  refine f_getp B hH hth (by decide) rfl wu_X12 0 (by decide) wf_X12_9 rfl rfl dX12_feed_50 ?_
  refine lv_aload_n B.1 B.2.1 dX12_feed_53 rfl (lv_at hl 0 rfl) ?_
  refine f_geti B hH hth (by decide) rfl wu_X12 1 (by decide) wf_X12_13 rfl rfl dX12_feed_54 ?_
  refine lv_lload_n B.1 B.2.1 dX12_feed_57 rfl (lv_at hl 1 rfl) ?_
  refine lv_bipush (v := i32 8) B.1 B.2.1 dX12_feed_58 (by decide) ?_
  refine lv_iload B.1 B.2.1 dX12_feed_60 (lv_at hl 2 rfl) ?_
  obtain ⟨q1, h⟩ := h
  refine lv_imul B.1 B.2.1 dX12_feed_62 ?_
  rw [i32_mul]
  refine lv_lushr B.1 B.2.1 dX12_feed_63 rfl ?_
  refine lv_l2i B.1 B.2.1 dX12_feed_64 rfl ?_
  refine W.eq (g2 := F0 m 65 ls [.int (i32 ((((v1).toUInt64 >>> ((i32 (8 * v4)).toInt64.toUInt64 &&& Int64.toUInt64 63)).toInt64).toInt32.toInt)), .int (i32 (gI σ th 1)), va_rf (gP σ th 0)]) (by simp only [i32_self]) ?_
  refine lv_i2b B.1 B.2.1 dX12_feed_65 rfl ?_
  refine W.eq (g2 := F0 m 66 ls [.int (i32 (nB ((((v1).toUInt64 >>> ((i32 (8 * v4)).toInt64.toUInt64 &&& Int64.toUInt64 63)).toInt64).toInt32.toInt))), .int (i32 (gI σ th 1)), va_rf (gP σ th 0)]) (by simp only [nB, i32_self]; rfl) ?_
  obtain ⟨a7, ea7, h⟩ := h
  have ka7 : kO σ a7 102 := (hYσ.get hth (by decide)) a7 ea7
  have h := h ka7
  obtain ⟨q2, h⟩ := h
  obtain ⟨σ8, eσ8⟩ : ∃ z, z = pI σ a7 (gI σ th 1).toNat (nB (nB ((((v1).toUInt64 >>> ((i32 (8 * v4)).toInt64.toUInt64 &&& Int64.toUInt64 63)).toInt64).toInt32.toInt))) := ⟨_, rfl⟩
  have h := h σ8 eσ8
  refine W.eq (g2 := F0 m 66 ls [.int (i32 (nB ((((v1).toUInt64 >>> ((i32 (8 * v4)).toInt64.toUInt64 &&& Int64.toUInt64 63)).toInt64).toInt32.toInt))), .int (i32 (gI σ th 1)), .ref a7]) (by rw [ea7]; rfl) ?_
  refine y_bast B K.2.1 hH ka7 q2 dX12_feed_66 (hYσ.2 _) (fun H locs hH => ?_)
  have hH : Hd D cA A s (pI σ a7 (gI σ th 1).toNat (nB (nB ((((v1).toUInt64 >>> ((i32 (8 * v4)).toInt64.toUInt64 &&& Int64.toUInt64 63)).toInt64).toInt32.toInt)))) H locs := hH
  rw [← eσ8] at hH
  have hGσ8 : RG σ8 := by rw [eσ8]; exact hGσ.pI (rng_toInt _)
  have hYσ8 : TY σ8 := by rw [eσ8]; exact hYσ.pI
  have xσ8 : Ext σ σ8 := by rw [eσ8]; exact Ext.pI
  have hc : CB n0 s0 σ8 := by rw [eσ8]; exact hc
  rw [show gc σ = gc σ8 by rw [eσ8]; try rfl, show gs σ = gs σ8 by rw [eσ8]; try rfl]
  refine lv_aload_n B.1 B.2.1 dX12_feed_67 rfl (lv_at hl 0 rfl) ?_
  refine lv_dup B.1 B.2.1 dX12_feed_68 rfl ?_
  refine f_geti B hH (hth.up xσ8) (by decide) rfl wu_X12 1 (by decide) wf_X12_13 rfl rfl dX12_feed_69 ?_
  refine lv_iconst (v := i32 1) B.1 B.2.1 dX12_feed_72 (by decide) ?_
  obtain ⟨q3, h⟩ := h
  refine lv_iadd B.1 B.2.1 dX12_feed_73 ?_
  rw [i32_add]
  obtain ⟨σ9, eσ9⟩ : ∃ z, z = pI σ8 th 1 (gI σ8 th 1 + 1) := ⟨_, rfl⟩
  have h := h σ9 eσ9
  refine f_puti B hH (hth.up xσ8) (by decide) rfl wu_X12 tyX12 tyX12_ok nmX12 1 (by decide) wf_X12_13 rfl (ty := .int) rfl rfl rfl rfl rfl dX12_feed_74 (fun H locs hH => ?_)
  have hH : Hd D cA A s (pI σ8 th 1 (gI σ8 th 1 + 1)) H locs := hH
  rw [← eσ9] at hH
  have hGσ9 : RG σ9 := by rw [eσ9]; exact hGσ8.pI q3
  have hYσ9 : TY σ9 := by rw [eσ9]; exact hYσ8.pI
  have xσ9 : Ext σ8 σ9 := by rw [eσ9]; exact Ext.pI
  have hc : CB n0 s0 σ9 := by rw [eσ9]; exact hc
  rw [show gc σ8 = gc σ9 by rw [eσ9]; try rfl, show gs σ8 = gs σ9 by rw [eσ9]; try rfl]
  obtain ⟨q4, h⟩ := h
  refine lv_iinc (k := 2) (v := i32 (v4 + (-1))) (lv' := [(4, .int (i32 (v4 + (-1)))), (0, .ref th), (1, .long v1)]) B.1 B.2.1 dX12_feed_77 hl rfl (i32_add _ _) (by decide) rfl (fun ls hl => ?_)
  refine lv_goto (tgt := 44) B.1 B.2.1 dX12_feed_80 (by decide) ?_
  exact hK44 _ _ _ q4 h hGσ9 hYσ9 ((hE.trans xσ8).trans xσ9) (hth.up (xσ8.trans xσ9)) _ _ _ hH (lv_sub (l' := [(0, .ref th), (1, .long v1), (4, .int (i32 (v4 + (-1))))]) hl [1, 2, 0] rfl) hc
set_option maxRecDepth 20000 in
theorem a_X12_feed_44 {Q : Sg → Int → Prop} {X : Sg → String → Prop} {th : Nat} (K : MD l R p s m args c cX12_feed 5 RX12 D cA tys A n0 s0 6 90 []) (hQ : CQI p l e R s m args below meth c cX12_feed D cA A n0 s0 QM σi Q) (hX : CX p l e R s m args below meth c 5 D cA A n0 s0 QM σi X) (hTh : CT p l e R s m args below meth c cX12_feed 5 D cA A n0 s0 QM σi RX12 X) {K44 : Sg → Int64 → Int → Prop} (hK44 : ∀ (σ : Sg) (v1 : Int64) (v4 : Int) (g4 : rng v4), K44 σ v1 v4 → RG σ → TY σ → Ext σi σ → kO σ th 12 → JJ p l e R s m args below meth c 5 D cA A n0 s0 QM σ 44 [(0, .ref th), (1, .long v1), (4, .int (i32 v4))] []) : ∀ (σ : Sg) (v1 : Int64) (v4 : Int) (g4 : rng v4), w_X12_feed_44 th K44 Q X σ v1 v4 → RG σ → TY σ → Ext σi σ → kO σ th 12 → JJ p l e R s m args below meth c 5 D cA A n0 s0 QM σ 44 [(0, .ref th), (1, .long v1), (4, .int (i32 v4))] [] := by
  intro σ v1 v4 g4 h hGσ hYσ hE hth H locs ls hH hl hc
  have B := K.1
  have hl9 := K.2.2.2.2.2.2
  unfold w_X12_feed_44 at h
  refine lv_iload B.1 B.2.1 dX12_feed_44 (lv_at hl 2 rfl) ?_
  refine lv_if_lt (tgt := 83) B.1 B.2.1 dX12_feed_46 (by decide) (fun h9 => ?_) (fun h9 => ?_)
  · rw [if_pos ((z_lt g4).mp h9)] at h
    exact a_X12_feed_83 K hQ hX hTh _ h hGσ hYσ hE hth _ _ _ hH (lv_sub (l' := [(0, .ref th)]) hl [0] rfl) hc
  · rw [if_neg (fun q => h9 ((z_lt g4).mpr q))] at h
    exact a_X12_feed_49 K hQ hX hTh hK44 _ _ _ g4 h hGσ hYσ hE hth _ _ _ hH (lv_sub (l' := [(0, .ref th), (1, .long v1), (4, .int (i32 v4))]) hl [0, 1, 2] rfl) hc
theorem al_X12_feed_44 {Q : Sg → Int → Prop} {X : Sg → String → Prop} {th : Nat} (K : MD l R p s m args c cX12_feed 5 RX12 D cA tys A n0 s0 6 90 []) (hQ : CQI p l e R s m args below meth c cX12_feed D cA A n0 s0 QM σi Q) (hX : CX p l e R s m args below meth c 5 D cA A n0 s0 QM σi X) (hTh : CT p l e R s m args below meth c cX12_feed 5 D cA A n0 s0 QM σi RX12 X) : ∀ (n : Nat), ∀ (σ : Sg) (v1 : Int64) (v4 : Int) (g4 : rng v4), wl_X12_feed_44 th Q X n σ v1 v4 → RG σ → TY σ → Ext σi σ → kO σ th 12 → JJ p l e R s m args below meth c 5 D cA A n0 s0 QM σ 44 [(0, .ref th), (1, .long v1), (4, .int (i32 v4))] [] := by
  intro n
  induction n with
  | zero => intro σ v1 v4 g4 h; exact h.elim
  | succ n ih => exact fun σ v1 v4 g4 h => a_X12_feed_44 K hQ hX hTh ih σ v1 v4 g4 h
set_option maxRecDepth 20000 in
theorem a_X12_feed_39 {Q : Sg → Int → Prop} {X : Sg → String → Prop} {th : Nat} (K : MD l R p s m args c cX12_feed 5 RX12 D cA tys A n0 s0 6 90 []) (hQ : CQI p l e R s m args below meth c cX12_feed D cA A n0 s0 QM σi Q) (hX : CX p l e R s m args below meth c 5 D cA A n0 s0 QM σi X) (hTh : CT p l e R s m args below meth c cX12_feed 5 D cA A n0 s0 QM σi RX12 X) : ∀ (σ : Sg) (v1 : Int64) (v3 : Int) (g3 : rng v3), w_X12_feed_39 th Q X σ v1 v3 → RG σ → TY σ → Ext σi σ → kO σ th 12 → JJ p l e R s m args below meth c 5 D cA A n0 s0 QM σ 39 [(0, .ref th), (1, .long v1), (3, .int (i32 v3))] [] := by
  intro σ v1 v3 g3 h hGσ hYσ hE hth H locs ls hH hl hc
  have B := K.1
  have hl9 := K.2.2.2.2.2.2
  unfold w_X12_feed_39 at h
  refine lv_iload_n B.1 B.2.1 dX12_feed_39 rfl (lv_at hl 2 rfl) ?_
  refine lv_iconst (v := i32 1) B.1 B.2.1 dX12_feed_40 (by decide) ?_
  obtain ⟨q1, h⟩ := h
  refine lv_isub B.1 B.2.1 dX12_feed_41 ?_
  rw [i32_sub]
  refine lv_istore (lv' := [(4, .int (i32 (v3 - 1))), (0, .ref th), (1, .long v1), (3, .int (i32 v3))]) B.1 B.2.1 dX12_feed_42 hl (by decide) rfl (fun ls hl => ?_)
  obtain ⟨n9, h⟩ := h
  exact al_X12_feed_44 K hQ hX hTh n9 _ _ _ q1 h hGσ hYσ hE hth _ _ _ hH (lv_sub (l' := [(0, .ref th), (1, .long v1), (4, .int (i32 (v3 - 1)))]) hl [1, 2, 0] rfl) hc
set_option maxRecDepth 20000 in
theorem a_X12_feed_31 {Q : Sg → Int → Prop} {X : Sg → String → Prop} {th : Nat} (K : MD l R p s m args c cX12_feed 5 RX12 D cA tys A n0 s0 6 90 []) (hQ : CQI p l e R s m args below meth c cX12_feed D cA A n0 s0 QM σi Q) (hX : CX p l e R s m args below meth c 5 D cA A n0 s0 QM σi X) (hTh : CT p l e R s m args below meth c cX12_feed 5 D cA A n0 s0 QM σi RX12 X) : ∀ (σ : Sg), w_X12_feed_31 th Q X σ → RG σ → TY σ → Ext σi σ → kO σ th 12 → JJ p l e R s m args below meth c 5 D cA A n0 s0 QM σ 31 [(0, .ref th)] [] := by
  intro σ h hGσ hYσ hE hth H locs ls hH hl hc
  have B := K.1
  have hl9 := K.2.2.2.2.2.2
  unfold w_X12_feed_31 at h
  obtain ⟨q9, h⟩ := h
  exact hTh _ _ _ _ _ _ _ _ _ tw_X12_63_65 dX12_feed_31 dX12_feed_34 dX12_feed_35 dX12_feed_38 hH hl hc q9 h hGσ hYσ hE (by have := K.2.2.2.1; omega) (by have := K.2.2.2.2.1; omega)
set_option maxRecDepth 20000 in
theorem a_X12_feed_19 {Q : Sg → Int → Prop} {X : Sg → String → Prop} {th : Nat} (K : MD l R p s m args c cX12_feed 5 RX12 D cA tys A n0 s0 6 90 []) (hQ : CQI p l e R s m args below meth c cX12_feed D cA A n0 s0 QM σi Q) (hX : CX p l e R s m args below meth c 5 D cA A n0 s0 QM σi X) (hTh : CT p l e R s m args below meth c cX12_feed 5 D cA A n0 s0 QM σi RX12 X) : ∀ (σ : Sg) (v1 : Int64) (v3 : Int) (g3 : rng v3), w_X12_feed_19 th Q X σ v1 v3 → RG σ → TY σ → Ext σi σ → kO σ th 12 → JJ p l e R s m args below meth c 5 D cA A n0 s0 QM σ 19 [(0, .ref th), (1, .long v1), (3, .int (i32 v3))] [] := by
  intro σ v1 v3 g3 h hGσ hYσ hE hth H locs ls hH hl hc
  have B := K.1
  have hl9 := K.2.2.2.2.2.2
  unfold w_X12_feed_19 at h
  refine lv_aload_n B.1 B.2.1 dX12_feed_19 rfl (lv_at hl 0 rfl) ?_
  refine f_geti B hH hth (by decide) rfl wu_X12 1 (by decide) wf_X12_13 rfl rfl dX12_feed_20 ?_
  refine lv_iload_n B.1 B.2.1 dX12_feed_23 rfl (lv_at hl 2 rfl) ?_
  obtain ⟨q1, h⟩ := h
  refine lv_iadd B.1 B.2.1 dX12_feed_24 ?_
  rw [i32_add]
  refine lv_sipush (v := i32 1500) B.1 B.2.1 dX12_feed_25 (by decide) ?_
  refine lv_icmp_le (tgt := 39) B.1 B.2.1 dX12_feed_28 (by decide) (fun h9 => ?_) (fun h9 => ?_)
  · rw [if_pos ((i32_le q1 (by unfold rng; omega)).mp h9)] at h
    exact a_X12_feed_39 K hQ hX hTh _ _ _ g3 h hGσ hYσ hE hth _ _ _ hH (lv_sub (l' := [(0, .ref th), (1, .long v1), (3, .int (i32 v3))]) hl [0, 1, 2] rfl) hc
  · rw [if_neg (fun q => h9 ((i32_le q1 (by unfold rng; omega)).mpr q))] at h
    exact a_X12_feed_31 K hQ hX hTh _ h hGσ hYσ hE hth _ _ _ hH (lv_sub (l' := [(0, .ref th)]) hl [0] rfl) hc
set_option maxRecDepth 20000 in
theorem a_X12_feed_5 {Q : Sg → Int → Prop} {X : Sg → String → Prop} {th : Nat} (K : MD l R p s m args c cX12_feed 5 RX12 D cA tys A n0 s0 6 90 []) (hQ : CQI p l e R s m args below meth c cX12_feed D cA A n0 s0 QM σi Q) (hX : CX p l e R s m args below meth c 5 D cA A n0 s0 QM σi X) (hTh : CT p l e R s m args below meth c cX12_feed 5 D cA A n0 s0 QM σi RX12 X) : ∀ (σ : Sg) (v1 : Int64) (v3 : Int) (g3 : rng v3), w_X12_feed_5 th Q X σ v1 v3 → RG σ → TY σ → Ext σi σ → kO σ th 12 → JJ p l e R s m args below meth c 5 D cA A n0 s0 QM σ 5 [(0, .ref th), (1, .long v1), (3, .int (i32 v3))] [] := by
  intro σ v1 v3 g3 h hGσ hYσ hE hth H locs ls hH hl hc
  have B := K.1
  have hl9 := K.2.2.2.2.2.2
  unfold w_X12_feed_5 at h
  refine lv_iload_n B.1 B.2.1 dX12_feed_5 rfl (lv_at hl 2 rfl) ?_
  refine lv_bipush (v := i32 8) B.1 B.2.1 dX12_feed_6 (by decide) ?_
  refine lv_icmp_le (tgt := 19) B.1 B.2.1 dX12_feed_8 (by decide) (fun h9 => ?_) (fun h9 => ?_)
  · rw [if_pos ((i32_le g3 (by unfold rng; omega)).mp h9)] at h
    exact a_X12_feed_19 K hQ hX hTh _ _ _ g3 h hGσ hYσ hE hth _ _ _ hH (lv_sub (l' := [(0, .ref th), (1, .long v1), (3, .int (i32 v3))]) hl [0, 1, 2] rfl) hc
  · rw [if_neg (fun q => h9 ((i32_le g3 (by unfold rng; omega)).mpr q))] at h
    exact a_X12_feed_11 K hQ hX hTh _ h hGσ hYσ hE hth _ _ _ hH (lv_sub (l' := [(0, .ref th)]) hl [0] rfl) hc
set_option maxRecDepth 20000 in
theorem a_X12_feed_0 {Q : Sg → Int → Prop} {X : Sg → String → Prop} {th : Nat} (K : MD l R p s m args c cX12_feed 5 RX12 D cA tys A n0 s0 6 90 []) (hQ : CQI p l e R s m args below meth c cX12_feed D cA A n0 s0 QM σi Q) (hX : CX p l e R s m args below meth c 5 D cA A n0 s0 QM σi X) (hTh : CT p l e R s m args below meth c cX12_feed 5 D cA A n0 s0 QM σi RX12 X) : ∀ (σ : Sg) (v1 : Int64) (v3 : Int) (g3 : rng v3), w_X12_feed_0 th Q X σ v1 v3 → RG σ → TY σ → Ext σi σ → kO σ th 12 → JJ p l e R s m args below meth c 5 D cA A n0 s0 QM σ 0 [(0, .ref th), (1, .long v1), (3, .int (i32 v3))] [] := by
  intro σ v1 v3 g3 h hGσ hYσ hE hth H locs ls hH hl hc
  have B := K.1
  have hl9 := K.2.2.2.2.2.2
  unfold w_X12_feed_0 at h
  refine lv_iload_n B.1 B.2.1 dX12_feed_0 rfl (lv_at hl 2 rfl) ?_
  refine lv_iconst (v := i32 1) B.1 B.2.1 dX12_feed_1 (by decide) ?_
  refine lv_icmp_lt (tgt := 11) B.1 B.2.1 dX12_feed_2 (by decide) (fun h9 => ?_) (fun h9 => ?_)
  · rw [if_pos ((i32_lt g3 (by unfold rng; omega)).mp h9)] at h
    exact a_X12_feed_11 K hQ hX hTh _ h hGσ hYσ hE hth _ _ _ hH (lv_sub (l' := [(0, .ref th)]) hl [0] rfl) hc
  · rw [if_neg (fun q => h9 ((i32_lt g3 (by unfold rng; omega)).mpr q))] at h
    exact a_X12_feed_5 K hQ hX hTh _ _ _ g3 h hGσ hYσ hE hth _ _ _ hH (lv_sub (l' := [(0, .ref th), (1, .long v1), (3, .int (i32 v3))]) hl [0, 1, 2] rfl) hc
theorem ok_X12_feed (hl0 : l.stackTraces = false) (hT : TyC cA tys) {Q : Sg → Int → Prop} {X : Sg → String → Prop} (σ : Sg) (th : Nat) (v1 : Int64) (v3 : Int) (g3 : rng v3) (hth : kO σ th 12) (hG : RG σ) (hY : TY σ) (h : wp_X12_feed th v1 v3 σ Q X) : Ok l D cA tys A yX12_feed (.code yX12_feed cX12_feed 5 (some .int)) 6 90 [.ref th, .long v1, .int (i32 v3)] σ (QcI σ Q) (QxC σ X) := by
  unfold wp_X12_feed at h
  exact oc_I hl0 (by decide) (by exact Nat.le_of_ble_eq_true rfl) hT (fun p e R s m args below meth c K hQ hX hTh H locs ls hH hl hc => a_X12_feed_0 K hQ hX hTh σ v1 v3 g3 h hG hY (Ext.rfl' σ) hth H locs ls hH (lv_sub (l' := [(0, .ref th), (1, .long v1), (3, .int (i32 v3))]) hl [0, 1, 2] rfl) hc)
theorem dX12_give_0 : decode cX12_give 0 = .ok (.iload_n 1, 1) := by decide +kernel
theorem dX12_give_1 : decode cX12_give 1 = .ok (.ifCond .lt 8, 3) := by decide +kernel
theorem dX12_give_4 : decode cX12_give 4 = .ok (.iload_n 1, 1) := by decide +kernel
theorem dX12_give_5 : decode cX12_give 5 = .ok (.iconst 4, 1) := by decide +kernel
theorem dX12_give_6 : decode cX12_give 6 = .ok (.if_icmp .lt 11, 3) := by decide +kernel
theorem dX12_give_9 : decode cX12_give 9 = .ok (.new 92, 3) := by decide +kernel
theorem dX12_give_12 : decode cX12_give 12 = .ok (.dup, 1) := by decide +kernel
theorem dX12_give_13 : decode cX12_give 13 = .ok (.invokespecial 94, 3) := by decide +kernel
theorem dX12_give_16 : decode cX12_give 16 = .ok (.athrow, 1) := by decide +kernel
theorem dX12_give_17 : decode cX12_give 17 = .ok (.aload_n 0, 1) := by decide +kernel
theorem dX12_give_18 : decode cX12_give 18 = .ok (.getfield 30, 3) := by decide +kernel
theorem dX12_give_21 : decode cX12_give 21 = .ok (.getfield 117, 3) := by decide +kernel
theorem dX12_give_24 : decode cX12_give 24 = .ok (.iload_n 1, 1) := by decide +kernel
theorem dX12_give_25 : decode cX12_give 25 = .ok (.iaload, 1) := by decide +kernel
theorem dX12_give_26 : decode cX12_give 26 = .ok (.iconst (-1), 1) := by decide +kernel
theorem dX12_give_27 : decode cX12_give 27 = .ok (.if_icmp .eq 15, 3) := by decide +kernel
theorem dX12_give_30 : decode cX12_give 30 = .ok (.aload_n 0, 1) := by decide +kernel
theorem dX12_give_31 : decode cX12_give 31 = .ok (.getfield 30, 3) := by decide +kernel
theorem dX12_give_34 : decode cX12_give 34 = .ok (.getfield 121, 3) := by decide +kernel
theorem dX12_give_37 : decode cX12_give 37 = .ok (.iload_n 1, 1) := by decide +kernel
theorem dX12_give_38 : decode cX12_give 38 = .ok (.baload, 1) := by decide +kernel
theorem dX12_give_39 : decode cX12_give 39 = .ok (.ifCond .eq 11, 3) := by decide +kernel
theorem dX12_give_42 : decode cX12_give 42 = .ok (.new 76, 3) := by decide +kernel
theorem dX12_give_45 : decode cX12_give 45 = .ok (.dup, 1) := by decide +kernel
theorem dX12_give_46 : decode cX12_give 46 = .ok (.invokespecial 78, 3) := by decide +kernel
theorem dX12_give_49 : decode cX12_give 49 = .ok (.athrow, 1) := by decide +kernel
theorem dX12_give_50 : decode cX12_give 50 = .ok (.iload_n 2, 1) := by decide +kernel
theorem dX12_give_51 : decode cX12_give 51 = .ok (.ifCond .lt 9, 3) := by decide +kernel
theorem dX12_give_54 : decode cX12_give 54 = .ok (.iload_n 2, 1) := by decide +kernel
theorem dX12_give_55 : decode cX12_give 55 = .ok (.ldc 125, 2) := by decide +kernel
theorem dX12_give_57 : decode cX12_give 57 = .ok (.if_icmp .le 11, 3) := by decide +kernel
theorem dX12_give_60 : decode cX12_give 60 = .ok (.new 60, 3) := by decide +kernel
theorem dX12_give_63 : decode cX12_give 63 = .ok (.dup, 1) := by decide +kernel
theorem dX12_give_64 : decode cX12_give 64 = .ok (.invokespecial 62, 3) := by decide +kernel
theorem dX12_give_67 : decode cX12_give 67 = .ok (.athrow, 1) := by decide +kernel
theorem dX12_give_68 : decode cX12_give 68 = .ok (.aload_n 0, 1) := by decide +kernel
theorem dX12_give_69 : decode cX12_give 69 = .ok (.getfield 30, 3) := by decide +kernel
theorem dX12_give_72 : decode cX12_give 72 = .ok (.getfield 126, 3) := by decide +kernel
theorem dX12_give_75 : decode cX12_give 75 = .ok (.iload_n 1, 1) := by decide +kernel
theorem dX12_give_76 : decode cX12_give 76 = .ok (.iaload, 1) := by decide +kernel
theorem dX12_give_77 : decode cX12_give 77 = .ok (.bipush 64, 2) := by decide +kernel
theorem dX12_give_79 : decode cX12_give 79 = .ok (.if_icmp .lt 11, 3) := by decide +kernel
theorem dX12_give_82 : decode cX12_give 82 = .ok (.new 63, 3) := by decide +kernel
theorem dX12_give_85 : decode cX12_give 85 = .ok (.dup, 1) := by decide +kernel
theorem dX12_give_86 : decode cX12_give 86 = .ok (.invokespecial 65, 3) := by decide +kernel
theorem dX12_give_89 : decode cX12_give 89 = .ok (.athrow, 1) := by decide +kernel
theorem dX12_give_90 : decode cX12_give 90 = .ok (.aload_n 0, 1) := by decide +kernel
theorem dX12_give_91 : decode cX12_give 91 = .ok (.getfield 30, 3) := by decide +kernel
theorem dX12_give_94 : decode cX12_give 94 = .ok (.getfield 126, 3) := by decide +kernel
theorem dX12_give_97 : decode cX12_give 97 = .ok (.iload_n 1, 1) := by decide +kernel
theorem dX12_give_98 : decode cX12_give 98 = .ok (.iaload, 1) := by decide +kernel
theorem dX12_give_99 : decode cX12_give 99 = .ok (.istore 11, 2) := by decide +kernel
theorem dX12_give_101 : decode cX12_give 101 = .ok (.aload_n 0, 1) := by decide +kernel
theorem dX12_give_102 : decode cX12_give 102 = .ok (.getfield 30, 3) := by decide +kernel
theorem dX12_give_105 : decode cX12_give 105 = .ok (.getfield 129, 3) := by decide +kernel
theorem dX12_give_108 : decode cX12_give 108 = .ok (.iload_n 1, 1) := by decide +kernel
theorem dX12_give_109 : decode cX12_give 109 = .ok (.aaload, 1) := by decide +kernel
theorem dX12_give_110 : decode cX12_give 110 = .ok (.astore 12, 2) := by decide +kernel
theorem dX12_give_112 : decode cX12_give 112 = .ok (.iload 11, 2) := by decide +kernel
theorem dX12_give_114 : decode cX12_give 114 = .ok (.iconst 5, 1) := by decide +kernel
theorem dX12_give_115 : decode cX12_give 115 = .ok (.imul, 1) := by decide +kernel
theorem dX12_give_116 : decode cX12_give 116 = .ok (.istore 13, 2) := by decide +kernel
theorem dX12_give_118 : decode cX12_give 118 = .ok (.aload 12, 2) := by decide +kernel
theorem dX12_give_120 : decode cX12_give 120 = .ok (.iload 13, 2) := by decide +kernel
theorem dX12_give_122 : decode cX12_give 122 = .ok (.iload_n 2, 1) := by decide +kernel
theorem dX12_give_123 : decode cX12_give 123 = .ok (.i2l, 1) := by decide +kernel
theorem dX12_give_124 : decode cX12_give 124 = .ok (.lastore, 1) := by decide +kernel
theorem dX12_give_125 : decode cX12_give 125 = .ok (.aload 12, 2) := by decide +kernel
theorem dX12_give_127 : decode cX12_give 127 = .ok (.iload 13, 2) := by decide +kernel
theorem dX12_give_129 : decode cX12_give 129 = .ok (.iconst 1, 1) := by decide +kernel
theorem dX12_give_130 : decode cX12_give 130 = .ok (.iadd, 1) := by decide +kernel
theorem dX12_give_131 : decode cX12_give 131 = .ok (.lload_n 3, 1) := by decide +kernel
theorem dX12_give_132 : decode cX12_give 132 = .ok (.lastore, 1) := by decide +kernel
theorem dX12_give_133 : decode cX12_give 133 = .ok (.aload 12, 2) := by decide +kernel
theorem dX12_give_135 : decode cX12_give 135 = .ok (.iload 13, 2) := by decide +kernel
theorem dX12_give_137 : decode cX12_give 137 = .ok (.iconst 2, 1) := by decide +kernel
theorem dX12_give_138 : decode cX12_give 138 = .ok (.iadd, 1) := by decide +kernel
theorem dX12_give_139 : decode cX12_give 139 = .ok (.lload 5, 2) := by decide +kernel
theorem dX12_give_141 : decode cX12_give 141 = .ok (.lastore, 1) := by decide +kernel
theorem dX12_give_142 : decode cX12_give 142 = .ok (.aload 12, 2) := by decide +kernel
theorem dX12_give_144 : decode cX12_give 144 = .ok (.iload 13, 2) := by decide +kernel
theorem dX12_give_146 : decode cX12_give 146 = .ok (.iconst 3, 1) := by decide +kernel
theorem dX12_give_147 : decode cX12_give 147 = .ok (.iadd, 1) := by decide +kernel
theorem dX12_give_148 : decode cX12_give 148 = .ok (.lload 7, 2) := by decide +kernel
theorem dX12_give_150 : decode cX12_give 150 = .ok (.lastore, 1) := by decide +kernel
theorem dX12_give_151 : decode cX12_give 151 = .ok (.aload 12, 2) := by decide +kernel
theorem dX12_give_153 : decode cX12_give 153 = .ok (.iload 13, 2) := by decide +kernel
theorem dX12_give_155 : decode cX12_give 155 = .ok (.iconst 4, 1) := by decide +kernel
theorem dX12_give_156 : decode cX12_give 156 = .ok (.iadd, 1) := by decide +kernel
theorem dX12_give_157 : decode cX12_give 157 = .ok (.lload 9, 2) := by decide +kernel
theorem dX12_give_159 : decode cX12_give 159 = .ok (.lastore, 1) := by decide +kernel
theorem dX12_give_160 : decode cX12_give 160 = .ok (.aload_n 0, 1) := by decide +kernel
theorem dX12_give_161 : decode cX12_give 161 = .ok (.getfield 30, 3) := by decide +kernel
theorem dX12_give_164 : decode cX12_give 164 = .ok (.getfield 126, 3) := by decide +kernel
theorem dX12_give_167 : decode cX12_give 167 = .ok (.iload_n 1, 1) := by decide +kernel
theorem dX12_give_168 : decode cX12_give 168 = .ok (.iload 11, 2) := by decide +kernel
theorem dX12_give_170 : decode cX12_give 170 = .ok (.iconst 1, 1) := by decide +kernel
theorem dX12_give_171 : decode cX12_give 171 = .ok (.iadd, 1) := by decide +kernel
theorem dX12_give_172 : decode cX12_give 172 = .ok (.iastore, 1) := by decide +kernel
theorem dX12_give_173 : decode cX12_give 173 = .ok (.iload 11, 2) := by decide +kernel
theorem dX12_give_175 : decode cX12_give 175 = .ok (.ireturn, 1) := by decide +kernel
set_option maxRecDepth 20000 in
theorem a_X12_give_9 {Q : Sg → Int → Prop} {X : Sg → String → Prop} {th : Nat} (K : MD l R p s m args c cX12_give 14 RX12 D cA tys A n0 s0 6 90 []) (hQ : CQI p l e R s m args below meth c cX12_give D cA A n0 s0 QM σi Q) (hX : CX p l e R s m args below meth c 14 D cA A n0 s0 QM σi X) (hTh : CT p l e R s m args below meth c cX12_give 14 D cA A n0 s0 QM σi RX12 X) : ∀ (σ : Sg), w_X12_give_9 th Q X σ → RG σ → TY σ → Ext σi σ → kO σ th 12 → JJ p l e R s m args below meth c 14 D cA A n0 s0 QM σ 9 [(0, .ref th)] [] := by
  intro σ h hGσ hYσ hE hth H locs ls hH hl hc
  have B := K.1
  have hl9 := K.2.2.2.2.2.2
  unfold w_X12_give_9 at h
  obtain ⟨q9, h⟩ := h
  exact hTh _ _ _ _ _ _ _ _ _ tw_X12_92_94 dX12_give_9 dX12_give_12 dX12_give_13 dX12_give_16 hH hl hc q9 h hGσ hYσ hE (by have := K.2.2.2.1; omega) (by have := K.2.2.2.2.1; omega)
set_option maxRecDepth 20000 in
theorem a_X12_give_42 {Q : Sg → Int → Prop} {X : Sg → String → Prop} {th : Nat} (K : MD l R p s m args c cX12_give 14 RX12 D cA tys A n0 s0 6 90 []) (hQ : CQI p l e R s m args below meth c cX12_give D cA A n0 s0 QM σi Q) (hX : CX p l e R s m args below meth c 14 D cA A n0 s0 QM σi X) (hTh : CT p l e R s m args below meth c cX12_give 14 D cA A n0 s0 QM σi RX12 X) : ∀ (σ : Sg), w_X12_give_42 th Q X σ → RG σ → TY σ → Ext σi σ → kO σ th 12 → JJ p l e R s m args below meth c 14 D cA A n0 s0 QM σ 42 [(0, .ref th)] [] := by
  intro σ h hGσ hYσ hE hth H locs ls hH hl hc
  have B := K.1
  have hl9 := K.2.2.2.2.2.2
  unfold w_X12_give_42 at h
  obtain ⟨q9, h⟩ := h
  exact hTh _ _ _ _ _ _ _ _ _ tw_X12_76_78 dX12_give_42 dX12_give_45 dX12_give_46 dX12_give_49 hH hl hc q9 h hGσ hYσ hE (by have := K.2.2.2.1; omega) (by have := K.2.2.2.2.1; omega)
set_option maxRecDepth 20000 in
theorem a_X12_give_60 {Q : Sg → Int → Prop} {X : Sg → String → Prop} {th : Nat} (K : MD l R p s m args c cX12_give 14 RX12 D cA tys A n0 s0 6 90 []) (hQ : CQI p l e R s m args below meth c cX12_give D cA A n0 s0 QM σi Q) (hX : CX p l e R s m args below meth c 14 D cA A n0 s0 QM σi X) (hTh : CT p l e R s m args below meth c cX12_give 14 D cA A n0 s0 QM σi RX12 X) : ∀ (σ : Sg), w_X12_give_60 th Q X σ → RG σ → TY σ → Ext σi σ → kO σ th 12 → JJ p l e R s m args below meth c 14 D cA A n0 s0 QM σ 60 [(0, .ref th)] [] := by
  intro σ h hGσ hYσ hE hth H locs ls hH hl hc
  have B := K.1
  have hl9 := K.2.2.2.2.2.2
  unfold w_X12_give_60 at h
  obtain ⟨q9, h⟩ := h
  exact hTh _ _ _ _ _ _ _ _ _ tw_X12_60_62 dX12_give_60 dX12_give_63 dX12_give_64 dX12_give_67 hH hl hc q9 h hGσ hYσ hE (by have := K.2.2.2.1; omega) (by have := K.2.2.2.2.1; omega)
set_option maxRecDepth 20000 in
theorem a_X12_give_90 {Q : Sg → Int → Prop} {X : Sg → String → Prop} {th : Nat} (K : MD l R p s m args c cX12_give 14 RX12 D cA tys A n0 s0 6 90 []) (hQ : CQI p l e R s m args below meth c cX12_give D cA A n0 s0 QM σi Q) (hX : CX p l e R s m args below meth c 14 D cA A n0 s0 QM σi X) (hTh : CT p l e R s m args below meth c cX12_give 14 D cA A n0 s0 QM σi RX12 X) : ∀ (σ : Sg) (v1 : Int) (v2 : Int) (v3 : Int64) (v5 : Int64) (v7 : Int64) (v9 : Int64) (g1 : rng v1) (g2 : rng v2), w_X12_give_90 th Q X σ v1 v2 v3 v5 v7 v9 → RG σ → TY σ → Ext σi σ → kO σ th 12 → JJ p l e R s m args below meth c 14 D cA A n0 s0 QM σ 90 [(0, .ref th), (1, .int (i32 v1)), (2, .int (i32 v2)), (3, .long v3), (5, .long v5), (7, .long v7), (9, .long v9)] [] := by
  intro σ v1 v2 v3 v5 v7 v9 g1 g2 h hGσ hYσ hE hth H locs ls hH hl hc
  have B := K.1
  have hl9 := K.2.2.2.2.2.2
  unfold w_X12_give_90 at h
  refine lv_aload_n B.1 B.2.1 dX12_give_90 rfl (lv_at hl 0 rfl) ?_
  refine f_getp B hH hth (by decide) rfl wu_X12 4 (by decide) wf_X12_30 rfl rfl dX12_give_91 ?_
  obtain ⟨a37, ea37, h⟩ := h
  have ka37 : kO σ a37 4 := (hYσ.get hth (by decide)) a37 ea37
  have h := h ka37
  refine W.eq (g2 := F0 m 94 ls [.ref a37]) (by rw [ea37]; rfl) ?_
  refine f_getp B hH ka37 (by decide) rfl wu_X4 12 (by decide) wf_X12_126 rfl rfl dX12_give_94 ?_
  refine lv_iload_n B.1 B.2.1 dX12_give_97 rfl (lv_at hl 1 rfl) ?_
  obtain ⟨a38, ea38, h⟩ := h
  have ka38 : kO σ a38 100 := (hYσ.get ka37 (by decide)) a38 ea38
  have h := h ka38
  obtain ⟨q1, h⟩ := h
  refine W.eq (g2 := F0 m 98 ls [.int (i32 v1), .ref a38]) (by rw [ea38]; rfl) ?_
  refine y_iald B K.2.1 hH ka38 q1 dX12_give_98 (hYσ.2 _) ?_
  refine lv_istore (lv' := [(11, .int (i32 (gI σ a38 v1.toNat))), (0, .ref th), (1, .int (i32 v1)), (2, .int (i32 v2)), (3, .long v3), (5, .long v5), (7, .long v7), (9, .long v9)]) B.1 B.2.1 dX12_give_99 hl (by decide) rfl (fun ls hl => ?_)
  refine lv_aload_n B.1 B.2.1 dX12_give_101 rfl (lv_at hl 1 rfl) ?_
  refine f_getp B hH hth (by decide) rfl wu_X12 4 (by decide) wf_X12_30 rfl rfl dX12_give_102 ?_
  refine W.eq (g2 := F0 m 105 ls [.ref a37]) (by rw [ea37]; rfl) ?_
  refine f_getp B hH ka37 (by decide) rfl wu_X4 11 (by decide) wf_X12_129 rfl rfl dX12_give_105 ?_
  refine lv_iload_n B.1 B.2.1 dX12_give_108 rfl (lv_at hl 2 rfl) ?_
  obtain ⟨a39, ea39, h⟩ := h
  have ka39 : kO σ a39 200 := (hYσ.get ka37 (by decide)) a39 ea39
  have h := h ka39
  obtain ⟨q2, h⟩ := h
  refine W.eq (g2 := F0 m 109 ls [.int (i32 v1), .ref a39]) (by rw [ea39]; rfl) ?_
  refine y_aaldA B hH (t0 := 8) ka39 (by decide) K.2.1.2.2.2.2.2 q2 (hYσ.2 _) dX12_give_109 ?_
  refine lv_astoreQ (lv' := [(12, va_rf (gP σ a39 v1.toNat)), (11, .int (i32 (gI σ a38 v1.toNat))), (0, .ref th), (1, .int (i32 v1)), (2, .int (i32 v2)), (3, .long v3), (5, .long v5), (7, .long v7), (9, .long v9)]) B.1 B.2.1 dX12_give_110 hl (by decide) rfl (fun ls hl => ?_)
  refine lv_iload B.1 B.2.1 dX12_give_112 (lv_at hl 1 rfl) ?_
  refine lv_iconst (v := i32 5) B.1 B.2.1 dX12_give_114 (by decide) ?_
  obtain ⟨q3, h⟩ := h
  refine lv_imul B.1 B.2.1 dX12_give_115 ?_
  rw [i32_mul]
  refine lv_istore (lv' := [(13, .int (i32 ((gI σ a38 v1.toNat) * 5))), (12, va_rf (gP σ a39 v1.toNat)), (11, .int (i32 (gI σ a38 v1.toNat))), (0, .ref th), (1, .int (i32 v1)), (2, .int (i32 v2)), (3, .long v3), (5, .long v5), (7, .long v7), (9, .long v9)]) B.1 B.2.1 dX12_give_116 hl (by decide) (by generalize (gP σ a39 v1.toNat) = w9; cases w9 <;> rfl) (fun ls hl => ?_)
  refine lv_aloadQ B.1 B.2.1 dX12_give_118 (lv_at hl 1 rfl) ?_
  refine lv_iload B.1 B.2.1 dX12_give_120 (lv_at hl 0 rfl) ?_
  refine lv_iload_n B.1 B.2.1 dX12_give_122 rfl (lv_at hl 5 rfl) ?_
  refine lv_i2l B.1 B.2.1 dX12_give_123 (i32_i64 g2) ?_
  obtain ⟨a40, ea40, h⟩ := h
  have ka40 : kO σ a40 101 := (hYσ.get ka39 rfl) a40 ea40
  have h := h ka40
  obtain ⟨q4, h⟩ := h
  obtain ⟨σ41, eσ41⟩ : ∃ z, z = pJ σ a40 ((gI σ a38 v1.toNat) * 5).toNat (Int64.ofInt v2) := ⟨_, rfl⟩
  have h := h σ41 eσ41
  refine W.eq (g2 := F0 m 124 ls [.long (Int64.ofInt v2), .int (i32 ((gI σ a38 v1.toNat) * 5)), .ref a40]) (by rw [ea40]; rfl) ?_
  refine y_last B K.2.1 hH ka40 q4 dX12_give_124 (hYσ.2 _) (fun H locs hH => ?_)
  have hH : Hd D cA A s (pJ σ a40 ((gI σ a38 v1.toNat) * 5).toNat (Int64.ofInt v2)) H locs := hH
  rw [← eσ41] at hH
  have hGσ41 : RG σ41 := by rw [eσ41]; exact hGσ.pJ
  have hYσ41 : TY σ41 := by rw [eσ41]; exact hYσ.pJ
  have xσ41 : Ext σ σ41 := by rw [eσ41]; exact Ext.pJ
  have hc : CB n0 s0 σ41 := by rw [eσ41]; exact hc
  rw [show gc σ = gc σ41 by rw [eσ41]; try rfl, show gs σ = gs σ41 by rw [eσ41]; try rfl]
  refine lv_aloadQ B.1 B.2.1 dX12_give_125 (lv_at hl 1 rfl) ?_
  refine lv_iload B.1 B.2.1 dX12_give_127 (lv_at hl 0 rfl) ?_
  refine lv_iconst (v := i32 1) B.1 B.2.1 dX12_give_129 (by decide) ?_
  obtain ⟨q5, h⟩ := h
  refine lv_iadd B.1 B.2.1 dX12_give_130 ?_
  rw [i32_add]
  refine lv_lload_n B.1 B.2.1 dX12_give_131 rfl (lv_at hl 6 rfl) ?_
  obtain ⟨q6, h⟩ := h
  obtain ⟨σ42, eσ42⟩ : ∃ z, z = pJ σ41 a40 (((gI σ a38 v1.toNat) * 5) + 1).toNat v3 := ⟨_, rfl⟩
  have h := h σ42 eσ42
  refine W.eq (g2 := F0 m 132 ls [.long v3, .int (i32 (((gI σ a38 v1.toNat) * 5) + 1)), .ref a40]) (by rw [ea40]; rfl) ?_
  refine y_last B K.2.1 hH (ka40.up xσ41) q6 dX12_give_132 (hYσ41.2 _) (fun H locs hH => ?_)
  have hH : Hd D cA A s (pJ σ41 a40 (((gI σ a38 v1.toNat) * 5) + 1).toNat v3) H locs := hH
  rw [← eσ42] at hH
  have hGσ42 : RG σ42 := by rw [eσ42]; exact hGσ41.pJ
  have hYσ42 : TY σ42 := by rw [eσ42]; exact hYσ41.pJ
  have xσ42 : Ext σ41 σ42 := by rw [eσ42]; exact Ext.pJ
  have hc : CB n0 s0 σ42 := by rw [eσ42]; exact hc
  rw [show gc σ41 = gc σ42 by rw [eσ42]; try rfl, show gs σ41 = gs σ42 by rw [eσ42]; try rfl]
  refine lv_aloadQ B.1 B.2.1 dX12_give_133 (lv_at hl 1 rfl) ?_
  refine lv_iload B.1 B.2.1 dX12_give_135 (lv_at hl 0 rfl) ?_
  refine lv_iconst (v := i32 2) B.1 B.2.1 dX12_give_137 (by decide) ?_
  obtain ⟨q7, h⟩ := h
  refine lv_iadd B.1 B.2.1 dX12_give_138 ?_
  rw [i32_add]
  refine lv_lload B.1 B.2.1 dX12_give_139 (lv_at hl 7 rfl) ?_
  obtain ⟨q8, h⟩ := h
  obtain ⟨σ43, eσ43⟩ : ∃ z, z = pJ σ42 a40 (((gI σ a38 v1.toNat) * 5) + 2).toNat v5 := ⟨_, rfl⟩
  have h := h σ43 eσ43
  refine W.eq (g2 := F0 m 141 ls [.long v5, .int (i32 (((gI σ a38 v1.toNat) * 5) + 2)), .ref a40]) (by rw [ea40]; rfl) ?_
  refine y_last B K.2.1 hH (ka40.up (xσ41.trans xσ42)) q8 dX12_give_141 (hYσ42.2 _) (fun H locs hH => ?_)
  have hH : Hd D cA A s (pJ σ42 a40 (((gI σ a38 v1.toNat) * 5) + 2).toNat v5) H locs := hH
  rw [← eσ43] at hH
  have hGσ43 : RG σ43 := by rw [eσ43]; exact hGσ42.pJ
  have hYσ43 : TY σ43 := by rw [eσ43]; exact hYσ42.pJ
  have xσ43 : Ext σ42 σ43 := by rw [eσ43]; exact Ext.pJ
  have hc : CB n0 s0 σ43 := by rw [eσ43]; exact hc
  rw [show gc σ42 = gc σ43 by rw [eσ43]; try rfl, show gs σ42 = gs σ43 by rw [eσ43]; try rfl]
  refine lv_aloadQ B.1 B.2.1 dX12_give_142 (lv_at hl 1 rfl) ?_
  refine lv_iload B.1 B.2.1 dX12_give_144 (lv_at hl 0 rfl) ?_
  refine lv_iconst (v := i32 3) B.1 B.2.1 dX12_give_146 (by decide) ?_
  obtain ⟨q9, h⟩ := h
  refine lv_iadd B.1 B.2.1 dX12_give_147 ?_
  rw [i32_add]
  refine lv_lload B.1 B.2.1 dX12_give_148 (lv_at hl 8 rfl) ?_
  obtain ⟨q10, h⟩ := h
  obtain ⟨σ44, eσ44⟩ : ∃ z, z = pJ σ43 a40 (((gI σ a38 v1.toNat) * 5) + 3).toNat v7 := ⟨_, rfl⟩
  have h := h σ44 eσ44
  refine W.eq (g2 := F0 m 150 ls [.long v7, .int (i32 (((gI σ a38 v1.toNat) * 5) + 3)), .ref a40]) (by rw [ea40]; rfl) ?_
  refine y_last B K.2.1 hH (ka40.up (xσ41.trans (xσ42.trans xσ43))) q10 dX12_give_150 (hYσ43.2 _) (fun H locs hH => ?_)
  have hH : Hd D cA A s (pJ σ43 a40 (((gI σ a38 v1.toNat) * 5) + 3).toNat v7) H locs := hH
  rw [← eσ44] at hH
  have hGσ44 : RG σ44 := by rw [eσ44]; exact hGσ43.pJ
  have hYσ44 : TY σ44 := by rw [eσ44]; exact hYσ43.pJ
  have xσ44 : Ext σ43 σ44 := by rw [eσ44]; exact Ext.pJ
  have hc : CB n0 s0 σ44 := by rw [eσ44]; exact hc
  rw [show gc σ43 = gc σ44 by rw [eσ44]; try rfl, show gs σ43 = gs σ44 by rw [eσ44]; try rfl]
  refine lv_aloadQ B.1 B.2.1 dX12_give_151 (lv_at hl 1 rfl) ?_
  refine lv_iload B.1 B.2.1 dX12_give_153 (lv_at hl 0 rfl) ?_
  refine lv_iconst (v := i32 4) B.1 B.2.1 dX12_give_155 (by decide) ?_
  obtain ⟨q11, h⟩ := h
  refine lv_iadd B.1 B.2.1 dX12_give_156 ?_
  rw [i32_add]
  refine lv_lload B.1 B.2.1 dX12_give_157 (lv_at hl 9 rfl) ?_
  obtain ⟨q12, h⟩ := h
  obtain ⟨σ45, eσ45⟩ : ∃ z, z = pJ σ44 a40 (((gI σ a38 v1.toNat) * 5) + 4).toNat v9 := ⟨_, rfl⟩
  have h := h σ45 eσ45
  refine W.eq (g2 := F0 m 159 ls [.long v9, .int (i32 (((gI σ a38 v1.toNat) * 5) + 4)), .ref a40]) (by rw [ea40]; rfl) ?_
  refine y_last B K.2.1 hH (ka40.up (xσ41.trans (xσ42.trans (xσ43.trans xσ44)))) q12 dX12_give_159 (hYσ44.2 _) (fun H locs hH => ?_)
  have hH : Hd D cA A s (pJ σ44 a40 (((gI σ a38 v1.toNat) * 5) + 4).toNat v9) H locs := hH
  rw [← eσ45] at hH
  have hGσ45 : RG σ45 := by rw [eσ45]; exact hGσ44.pJ
  have hYσ45 : TY σ45 := by rw [eσ45]; exact hYσ44.pJ
  have xσ45 : Ext σ44 σ45 := by rw [eσ45]; exact Ext.pJ
  have hc : CB n0 s0 σ45 := by rw [eσ45]; exact hc
  rw [show gc σ44 = gc σ45 by rw [eσ45]; try rfl, show gs σ44 = gs σ45 by rw [eσ45]; try rfl]
  refine lv_aload_n B.1 B.2.1 dX12_give_160 rfl (lv_at hl 3 rfl) ?_
  refine f_getp B hH (hth.up (xσ41.trans (xσ42.trans (xσ43.trans (xσ44.trans xσ45))))) (by decide) rfl wu_X12 4 (by decide) wf_X12_30 rfl rfl dX12_give_161 ?_
  obtain ⟨a46, ea46, h⟩ := h
  have ka46 : kO σ45 a46 4 := (hYσ45.get (hth.up (xσ41.trans (xσ42.trans (xσ43.trans (xσ44.trans xσ45))))) (by decide)) a46 ea46
  have h := h ka46
  refine W.eq (g2 := F0 m 164 ls [.ref a46]) (by rw [ea46]; rfl) ?_
  refine f_getp B hH ka46 (by decide) rfl wu_X4 12 (by decide) wf_X12_126 rfl rfl dX12_give_164 ?_
  refine lv_iload_n B.1 B.2.1 dX12_give_167 rfl (lv_at hl 4 rfl) ?_
  refine lv_iload B.1 B.2.1 dX12_give_168 (lv_at hl 2 rfl) ?_
  refine lv_iconst (v := i32 1) B.1 B.2.1 dX12_give_170 (by decide) ?_
  obtain ⟨q13, h⟩ := h
  refine lv_iadd B.1 B.2.1 dX12_give_171 ?_
  rw [i32_add]
  obtain ⟨a47, ea47, h⟩ := h
  have ka47 : kO σ45 a47 100 := (hYσ45.get ka46 (by decide)) a47 ea47
  have h := h ka47
  obtain ⟨q14, h⟩ := h
  obtain ⟨σ48, eσ48⟩ : ∃ z, z = pI σ45 a47 v1.toNat ((gI σ a38 v1.toNat) + 1) := ⟨_, rfl⟩
  have h := h σ48 eσ48
  refine W.eq (g2 := F0 m 172 ls [.int (i32 ((gI σ a38 v1.toNat) + 1)), .int (i32 v1), .ref a47]) (by rw [ea47]; rfl) ?_
  refine y_iast B K.2.1 hH ka47 q14 dX12_give_172 (hYσ45.2 _) (fun H locs hH => ?_)
  have hH : Hd D cA A s (pI σ45 a47 v1.toNat ((gI σ a38 v1.toNat) + 1)) H locs := hH
  rw [← eσ48] at hH
  have hGσ48 : RG σ48 := by rw [eσ48]; exact hGσ45.pI q13
  have hYσ48 : TY σ48 := by rw [eσ48]; exact hYσ45.pI
  have xσ48 : Ext σ45 σ48 := by rw [eσ48]; exact Ext.pI
  have hc : CB n0 s0 σ48 := by rw [eσ48]; exact hc
  rw [show gc σ45 = gc σ48 by rw [eσ48]; try rfl, show gs σ45 = gs σ48 by rw [eσ48]; try rfl]
  refine lv_iload B.1 B.2.1 dX12_give_173 (lv_at hl 2 rfl) ?_
  exact hQ _ _ _ _ _ _ (hGσ _ _) dX12_give_175 hH hc h hGσ48 hYσ48 ((((((hE.trans xσ41).trans xσ42).trans xσ43).trans xσ44).trans xσ45).trans xσ48)
set_option maxRecDepth 20000 in
theorem a_X12_give_82 {Q : Sg → Int → Prop} {X : Sg → String → Prop} {th : Nat} (K : MD l R p s m args c cX12_give 14 RX12 D cA tys A n0 s0 6 90 []) (hQ : CQI p l e R s m args below meth c cX12_give D cA A n0 s0 QM σi Q) (hX : CX p l e R s m args below meth c 14 D cA A n0 s0 QM σi X) (hTh : CT p l e R s m args below meth c cX12_give 14 D cA A n0 s0 QM σi RX12 X) : ∀ (σ : Sg), w_X12_give_82 th Q X σ → RG σ → TY σ → Ext σi σ → kO σ th 12 → JJ p l e R s m args below meth c 14 D cA A n0 s0 QM σ 82 [(0, .ref th)] [] := by
  intro σ h hGσ hYσ hE hth H locs ls hH hl hc
  have B := K.1
  have hl9 := K.2.2.2.2.2.2
  unfold w_X12_give_82 at h
  obtain ⟨q9, h⟩ := h
  exact hTh _ _ _ _ _ _ _ _ _ tw_X12_63_65 dX12_give_82 dX12_give_85 dX12_give_86 dX12_give_89 hH hl hc q9 h hGσ hYσ hE (by have := K.2.2.2.1; omega) (by have := K.2.2.2.2.1; omega)
set_option maxRecDepth 20000 in
theorem a_X12_give_68 {Q : Sg → Int → Prop} {X : Sg → String → Prop} {th : Nat} (K : MD l R p s m args c cX12_give 14 RX12 D cA tys A n0 s0 6 90 []) (hQ : CQI p l e R s m args below meth c cX12_give D cA A n0 s0 QM σi Q) (hX : CX p l e R s m args below meth c 14 D cA A n0 s0 QM σi X) (hTh : CT p l e R s m args below meth c cX12_give 14 D cA A n0 s0 QM σi RX12 X) : ∀ (σ : Sg) (v1 : Int) (v2 : Int) (v3 : Int64) (v5 : Int64) (v7 : Int64) (v9 : Int64) (g1 : rng v1) (g2 : rng v2), w_X12_give_68 th Q X σ v1 v2 v3 v5 v7 v9 → RG σ → TY σ → Ext σi σ → kO σ th 12 → JJ p l e R s m args below meth c 14 D cA A n0 s0 QM σ 68 [(0, .ref th), (1, .int (i32 v1)), (2, .int (i32 v2)), (3, .long v3), (5, .long v5), (7, .long v7), (9, .long v9)] [] := by
  intro σ v1 v2 v3 v5 v7 v9 g1 g2 h hGσ hYσ hE hth H locs ls hH hl hc
  have B := K.1
  have hl9 := K.2.2.2.2.2.2
  unfold w_X12_give_68 at h
  refine lv_aload_n B.1 B.2.1 dX12_give_68 rfl (lv_at hl 0 rfl) ?_
  refine f_getp B hH hth (by decide) rfl wu_X12 4 (by decide) wf_X12_30 rfl rfl dX12_give_69 ?_
  obtain ⟨a49, ea49, h⟩ := h
  have ka49 : kO σ a49 4 := (hYσ.get hth (by decide)) a49 ea49
  have h := h ka49
  refine W.eq (g2 := F0 m 72 ls [.ref a49]) (by rw [ea49]; rfl) ?_
  refine f_getp B hH ka49 (by decide) rfl wu_X4 12 (by decide) wf_X12_126 rfl rfl dX12_give_72 ?_
  refine lv_iload_n B.1 B.2.1 dX12_give_75 rfl (lv_at hl 1 rfl) ?_
  obtain ⟨a50, ea50, h⟩ := h
  have ka50 : kO σ a50 100 := (hYσ.get ka49 (by decide)) a50 ea50
  have h := h ka50
  obtain ⟨q1, h⟩ := h
  refine W.eq (g2 := F0 m 76 ls [.int (i32 v1), .ref a50]) (by rw [ea50]; rfl) ?_
  refine y_iald B K.2.1 hH ka50 q1 dX12_give_76 (hYσ.2 _) ?_
  refine lv_bipush (v := i32 64) B.1 B.2.1 dX12_give_77 (by decide) ?_
  refine lv_icmp_lt (tgt := 90) B.1 B.2.1 dX12_give_79 (by decide) (fun h9 => ?_) (fun h9 => ?_)
  · rw [if_pos ((i32_lt (hGσ _ _) (by unfold rng; omega)).mp h9)] at h
    exact a_X12_give_90 K hQ hX hTh _ _ _ _ _ _ _ g1 g2 h hGσ hYσ hE hth _ _ _ hH (lv_sub (l' := [(0, .ref th), (1, .int (i32 v1)), (2, .int (i32 v2)), (3, .long v3), (5, .long v5), (7, .long v7), (9, .long v9)]) hl [0, 1, 2, 3, 4, 5, 6] rfl) hc
  · rw [if_neg (fun q => h9 ((i32_lt (hGσ _ _) (by unfold rng; omega)).mpr q))] at h
    exact a_X12_give_82 K hQ hX hTh _ h hGσ hYσ hE hth _ _ _ hH (lv_sub (l' := [(0, .ref th)]) hl [0] rfl) hc
set_option maxRecDepth 20000 in
theorem a_X12_give_54 {Q : Sg → Int → Prop} {X : Sg → String → Prop} {th : Nat} (K : MD l R p s m args c cX12_give 14 RX12 D cA tys A n0 s0 6 90 []) (hQ : CQI p l e R s m args below meth c cX12_give D cA A n0 s0 QM σi Q) (hX : CX p l e R s m args below meth c 14 D cA A n0 s0 QM σi X) (hTh : CT p l e R s m args below meth c cX12_give 14 D cA A n0 s0 QM σi RX12 X) : ∀ (σ : Sg) (v1 : Int) (v2 : Int) (v3 : Int64) (v5 : Int64) (v7 : Int64) (v9 : Int64) (g1 : rng v1) (g2 : rng v2), w_X12_give_54 th Q X σ v1 v2 v3 v5 v7 v9 → RG σ → TY σ → Ext σi σ → kO σ th 12 → JJ p l e R s m args below meth c 14 D cA A n0 s0 QM σ 54 [(0, .ref th), (1, .int (i32 v1)), (2, .int (i32 v2)), (3, .long v3), (5, .long v5), (7, .long v7), (9, .long v9)] [] := by
  intro σ v1 v2 v3 v5 v7 v9 g1 g2 h hGσ hYσ hE hth H locs ls hH hl hc
  have B := K.1
  have hl9 := K.2.2.2.2.2.2
  unfold w_X12_give_54 at h
  refine lv_iload_n B.1 B.2.1 dX12_give_54 rfl (lv_at hl 2 rfl) ?_
  refine lv_ldc (v := i32 1000000) B.1 B.2.1 B.2.2.1 (B.2.2.2.1 _ (wk_X12_125)) dX12_give_55 ?_
  refine lv_icmp_le (tgt := 68) B.1 B.2.1 dX12_give_57 (by decide) (fun h9 => ?_) (fun h9 => ?_)
  · rw [if_pos ((i32_le g2 (by unfold rng; omega)).mp h9)] at h
    exact a_X12_give_68 K hQ hX hTh _ _ _ _ _ _ _ g1 g2 h hGσ hYσ hE hth _ _ _ hH (lv_sub (l' := [(0, .ref th), (1, .int (i32 v1)), (2, .int (i32 v2)), (3, .long v3), (5, .long v5), (7, .long v7), (9, .long v9)]) hl [0, 1, 2, 3, 4, 5, 6] rfl) hc
  · rw [if_neg (fun q => h9 ((i32_le g2 (by unfold rng; omega)).mpr q))] at h
    exact a_X12_give_60 K hQ hX hTh _ h hGσ hYσ hE hth _ _ _ hH (lv_sub (l' := [(0, .ref th)]) hl [0] rfl) hc
set_option maxRecDepth 20000 in
theorem a_X12_give_50 {Q : Sg → Int → Prop} {X : Sg → String → Prop} {th : Nat} (K : MD l R p s m args c cX12_give 14 RX12 D cA tys A n0 s0 6 90 []) (hQ : CQI p l e R s m args below meth c cX12_give D cA A n0 s0 QM σi Q) (hX : CX p l e R s m args below meth c 14 D cA A n0 s0 QM σi X) (hTh : CT p l e R s m args below meth c cX12_give 14 D cA A n0 s0 QM σi RX12 X) : ∀ (σ : Sg) (v1 : Int) (v2 : Int) (v3 : Int64) (v5 : Int64) (v7 : Int64) (v9 : Int64) (g1 : rng v1) (g2 : rng v2), w_X12_give_50 th Q X σ v1 v2 v3 v5 v7 v9 → RG σ → TY σ → Ext σi σ → kO σ th 12 → JJ p l e R s m args below meth c 14 D cA A n0 s0 QM σ 50 [(0, .ref th), (1, .int (i32 v1)), (2, .int (i32 v2)), (3, .long v3), (5, .long v5), (7, .long v7), (9, .long v9)] [] := by
  intro σ v1 v2 v3 v5 v7 v9 g1 g2 h hGσ hYσ hE hth H locs ls hH hl hc
  have B := K.1
  have hl9 := K.2.2.2.2.2.2
  unfold w_X12_give_50 at h
  refine lv_iload_n B.1 B.2.1 dX12_give_50 rfl (lv_at hl 2 rfl) ?_
  refine lv_if_lt (tgt := 60) B.1 B.2.1 dX12_give_51 (by decide) (fun h9 => ?_) (fun h9 => ?_)
  · rw [if_pos ((z_lt g2).mp h9)] at h
    exact a_X12_give_60 K hQ hX hTh _ h hGσ hYσ hE hth _ _ _ hH (lv_sub (l' := [(0, .ref th)]) hl [0] rfl) hc
  · rw [if_neg (fun q => h9 ((z_lt g2).mpr q))] at h
    exact a_X12_give_54 K hQ hX hTh _ _ _ _ _ _ _ g1 g2 h hGσ hYσ hE hth _ _ _ hH (lv_sub (l' := [(0, .ref th), (1, .int (i32 v1)), (2, .int (i32 v2)), (3, .long v3), (5, .long v5), (7, .long v7), (9, .long v9)]) hl [0, 1, 2, 3, 4, 5, 6] rfl) hc
set_option maxRecDepth 20000 in
theorem a_X12_give_30 {Q : Sg → Int → Prop} {X : Sg → String → Prop} {th : Nat} (K : MD l R p s m args c cX12_give 14 RX12 D cA tys A n0 s0 6 90 []) (hQ : CQI p l e R s m args below meth c cX12_give D cA A n0 s0 QM σi Q) (hX : CX p l e R s m args below meth c 14 D cA A n0 s0 QM σi X) (hTh : CT p l e R s m args below meth c cX12_give 14 D cA A n0 s0 QM σi RX12 X) : ∀ (σ : Sg) (v1 : Int) (v2 : Int) (v3 : Int64) (v5 : Int64) (v7 : Int64) (v9 : Int64) (g1 : rng v1) (g2 : rng v2), w_X12_give_30 th Q X σ v1 v2 v3 v5 v7 v9 → RG σ → TY σ → Ext σi σ → kO σ th 12 → JJ p l e R s m args below meth c 14 D cA A n0 s0 QM σ 30 [(0, .ref th), (1, .int (i32 v1)), (2, .int (i32 v2)), (3, .long v3), (5, .long v5), (7, .long v7), (9, .long v9)] [] := by
  intro σ v1 v2 v3 v5 v7 v9 g1 g2 h hGσ hYσ hE hth H locs ls hH hl hc
  have B := K.1
  have hl9 := K.2.2.2.2.2.2
  unfold w_X12_give_30 at h
  refine lv_aload_n B.1 B.2.1 dX12_give_30 rfl (lv_at hl 0 rfl) ?_
  refine f_getp B hH hth (by decide) rfl wu_X12 4 (by decide) wf_X12_30 rfl rfl dX12_give_31 ?_
  obtain ⟨a51, ea51, h⟩ := h
  have ka51 : kO σ a51 4 := (hYσ.get hth (by decide)) a51 ea51
  have h := h ka51
  refine W.eq (g2 := F0 m 34 ls [.ref a51]) (by rw [ea51]; rfl) ?_
  refine f_getp B hH ka51 (by decide) rfl wu_X4 13 (by decide) wf_X12_121 rfl rfl dX12_give_34 ?_
  refine lv_iload_n B.1 B.2.1 dX12_give_37 rfl (lv_at hl 1 rfl) ?_
  obtain ⟨a52, ea52, h⟩ := h
  have ka52 : kO σ a52 103 := (hYσ.get ka51 (by decide)) a52 ea52
  have h := h ka52
  obtain ⟨q1, h⟩ := h
  refine W.eq (g2 := F0 m 38 ls [.int (i32 v1), .ref a52]) (by rw [ea52]; rfl) ?_
  refine y_zald B K.2.1 hH ka52 q1 dX12_give_38 (hYσ.2 _) ?_
  refine lv_if_eq (tgt := 50) B.1 B.2.1 dX12_give_39 (by decide) (fun h9 => ?_) (fun h9 => ?_)
  · rw [if_pos ((z_eq (hGσ _ _)).mp h9)] at h
    exact a_X12_give_50 K hQ hX hTh _ _ _ _ _ _ _ g1 g2 h hGσ hYσ hE hth _ _ _ hH (lv_sub (l' := [(0, .ref th), (1, .int (i32 v1)), (2, .int (i32 v2)), (3, .long v3), (5, .long v5), (7, .long v7), (9, .long v9)]) hl [0, 1, 2, 3, 4, 5, 6] rfl) hc
  · rw [if_neg (fun q => h9 ((z_eq (hGσ _ _)).mpr q))] at h
    exact a_X12_give_42 K hQ hX hTh _ h hGσ hYσ hE hth _ _ _ hH (lv_sub (l' := [(0, .ref th)]) hl [0] rfl) hc
set_option maxRecDepth 20000 in
theorem a_X12_give_17 {Q : Sg → Int → Prop} {X : Sg → String → Prop} {th : Nat} (K : MD l R p s m args c cX12_give 14 RX12 D cA tys A n0 s0 6 90 []) (hQ : CQI p l e R s m args below meth c cX12_give D cA A n0 s0 QM σi Q) (hX : CX p l e R s m args below meth c 14 D cA A n0 s0 QM σi X) (hTh : CT p l e R s m args below meth c cX12_give 14 D cA A n0 s0 QM σi RX12 X) : ∀ (σ : Sg) (v1 : Int) (v2 : Int) (v3 : Int64) (v5 : Int64) (v7 : Int64) (v9 : Int64) (g1 : rng v1) (g2 : rng v2), w_X12_give_17 th Q X σ v1 v2 v3 v5 v7 v9 → RG σ → TY σ → Ext σi σ → kO σ th 12 → JJ p l e R s m args below meth c 14 D cA A n0 s0 QM σ 17 [(0, .ref th), (1, .int (i32 v1)), (2, .int (i32 v2)), (3, .long v3), (5, .long v5), (7, .long v7), (9, .long v9)] [] := by
  intro σ v1 v2 v3 v5 v7 v9 g1 g2 h hGσ hYσ hE hth H locs ls hH hl hc
  have B := K.1
  have hl9 := K.2.2.2.2.2.2
  unfold w_X12_give_17 at h
  refine lv_aload_n B.1 B.2.1 dX12_give_17 rfl (lv_at hl 0 rfl) ?_
  refine f_getp B hH hth (by decide) rfl wu_X12 4 (by decide) wf_X12_30 rfl rfl dX12_give_18 ?_
  obtain ⟨a53, ea53, h⟩ := h
  have ka53 : kO σ a53 4 := (hYσ.get hth (by decide)) a53 ea53
  have h := h ka53
  refine W.eq (g2 := F0 m 21 ls [.ref a53]) (by rw [ea53]; rfl) ?_
  refine f_getp B hH ka53 (by decide) rfl wu_X4 4 (by decide) wf_X12_117 rfl rfl dX12_give_21 ?_
  refine lv_iload_n B.1 B.2.1 dX12_give_24 rfl (lv_at hl 1 rfl) ?_
  obtain ⟨a54, ea54, h⟩ := h
  have ka54 : kO σ a54 100 := (hYσ.get ka53 (by decide)) a54 ea54
  have h := h ka54
  obtain ⟨q1, h⟩ := h
  refine W.eq (g2 := F0 m 25 ls [.int (i32 v1), .ref a54]) (by rw [ea54]; rfl) ?_
  refine y_iald B K.2.1 hH ka54 q1 dX12_give_25 (hYσ.2 _) ?_
  refine lv_iconst (v := i32 (-1)) B.1 B.2.1 dX12_give_26 (by decide) ?_
  refine lv_icmp_eq (tgt := 42) B.1 B.2.1 dX12_give_27 (by decide) (fun h9 => ?_) (fun h9 => ?_)
  · rw [if_pos ((i32_eq (hGσ _ _) (by unfold rng; omega)).mp h9)] at h
    exact a_X12_give_42 K hQ hX hTh _ h hGσ hYσ hE hth _ _ _ hH (lv_sub (l' := [(0, .ref th)]) hl [0] rfl) hc
  · rw [if_neg (fun q => h9 ((i32_eq (hGσ _ _) (by unfold rng; omega)).mpr q))] at h
    exact a_X12_give_30 K hQ hX hTh _ _ _ _ _ _ _ g1 g2 h hGσ hYσ hE hth _ _ _ hH (lv_sub (l' := [(0, .ref th), (1, .int (i32 v1)), (2, .int (i32 v2)), (3, .long v3), (5, .long v5), (7, .long v7), (9, .long v9)]) hl [0, 1, 2, 3, 4, 5, 6] rfl) hc
set_option maxRecDepth 20000 in
theorem a_X12_give_4 {Q : Sg → Int → Prop} {X : Sg → String → Prop} {th : Nat} (K : MD l R p s m args c cX12_give 14 RX12 D cA tys A n0 s0 6 90 []) (hQ : CQI p l e R s m args below meth c cX12_give D cA A n0 s0 QM σi Q) (hX : CX p l e R s m args below meth c 14 D cA A n0 s0 QM σi X) (hTh : CT p l e R s m args below meth c cX12_give 14 D cA A n0 s0 QM σi RX12 X) : ∀ (σ : Sg) (v1 : Int) (v2 : Int) (v3 : Int64) (v5 : Int64) (v7 : Int64) (v9 : Int64) (g1 : rng v1) (g2 : rng v2), w_X12_give_4 th Q X σ v1 v2 v3 v5 v7 v9 → RG σ → TY σ → Ext σi σ → kO σ th 12 → JJ p l e R s m args below meth c 14 D cA A n0 s0 QM σ 4 [(0, .ref th), (1, .int (i32 v1)), (2, .int (i32 v2)), (3, .long v3), (5, .long v5), (7, .long v7), (9, .long v9)] [] := by
  intro σ v1 v2 v3 v5 v7 v9 g1 g2 h hGσ hYσ hE hth H locs ls hH hl hc
  have B := K.1
  have hl9 := K.2.2.2.2.2.2
  unfold w_X12_give_4 at h
  refine lv_iload_n B.1 B.2.1 dX12_give_4 rfl (lv_at hl 1 rfl) ?_
  refine lv_iconst (v := i32 4) B.1 B.2.1 dX12_give_5 (by decide) ?_
  refine lv_icmp_lt (tgt := 17) B.1 B.2.1 dX12_give_6 (by decide) (fun h9 => ?_) (fun h9 => ?_)
  · rw [if_pos ((i32_lt g1 (by unfold rng; omega)).mp h9)] at h
    exact a_X12_give_17 K hQ hX hTh _ _ _ _ _ _ _ g1 g2 h hGσ hYσ hE hth _ _ _ hH (lv_sub (l' := [(0, .ref th), (1, .int (i32 v1)), (2, .int (i32 v2)), (3, .long v3), (5, .long v5), (7, .long v7), (9, .long v9)]) hl [0, 1, 2, 3, 4, 5, 6] rfl) hc
  · rw [if_neg (fun q => h9 ((i32_lt g1 (by unfold rng; omega)).mpr q))] at h
    exact a_X12_give_9 K hQ hX hTh _ h hGσ hYσ hE hth _ _ _ hH (lv_sub (l' := [(0, .ref th)]) hl [0] rfl) hc
set_option maxRecDepth 20000 in
theorem a_X12_give_0 {Q : Sg → Int → Prop} {X : Sg → String → Prop} {th : Nat} (K : MD l R p s m args c cX12_give 14 RX12 D cA tys A n0 s0 6 90 []) (hQ : CQI p l e R s m args below meth c cX12_give D cA A n0 s0 QM σi Q) (hX : CX p l e R s m args below meth c 14 D cA A n0 s0 QM σi X) (hTh : CT p l e R s m args below meth c cX12_give 14 D cA A n0 s0 QM σi RX12 X) : ∀ (σ : Sg) (v1 : Int) (v2 : Int) (v3 : Int64) (v5 : Int64) (v7 : Int64) (v9 : Int64) (g1 : rng v1) (g2 : rng v2), w_X12_give_0 th Q X σ v1 v2 v3 v5 v7 v9 → RG σ → TY σ → Ext σi σ → kO σ th 12 → JJ p l e R s m args below meth c 14 D cA A n0 s0 QM σ 0 [(0, .ref th), (1, .int (i32 v1)), (2, .int (i32 v2)), (3, .long v3), (5, .long v5), (7, .long v7), (9, .long v9)] [] := by
  intro σ v1 v2 v3 v5 v7 v9 g1 g2 h hGσ hYσ hE hth H locs ls hH hl hc
  have B := K.1
  have hl9 := K.2.2.2.2.2.2
  unfold w_X12_give_0 at h
  refine lv_iload_n B.1 B.2.1 dX12_give_0 rfl (lv_at hl 1 rfl) ?_
  refine lv_if_lt (tgt := 9) B.1 B.2.1 dX12_give_1 (by decide) (fun h9 => ?_) (fun h9 => ?_)
  · rw [if_pos ((z_lt g1).mp h9)] at h
    exact a_X12_give_9 K hQ hX hTh _ h hGσ hYσ hE hth _ _ _ hH (lv_sub (l' := [(0, .ref th)]) hl [0] rfl) hc
  · rw [if_neg (fun q => h9 ((z_lt g1).mpr q))] at h
    exact a_X12_give_4 K hQ hX hTh _ _ _ _ _ _ _ g1 g2 h hGσ hYσ hE hth _ _ _ hH (lv_sub (l' := [(0, .ref th), (1, .int (i32 v1)), (2, .int (i32 v2)), (3, .long v3), (5, .long v5), (7, .long v7), (9, .long v9)]) hl [0, 1, 2, 3, 4, 5, 6] rfl) hc
theorem ok_X12_give (hl0 : l.stackTraces = false) (hT : TyC cA tys) {Q : Sg → Int → Prop} {X : Sg → String → Prop} (σ : Sg) (th : Nat) (v1 : Int) (v2 : Int) (v3 : Int64) (v5 : Int64) (v7 : Int64) (v9 : Int64) (g1 : rng v1) (g2 : rng v2) (hth : kO σ th 12) (hG : RG σ) (hY : TY σ) (h : wp_X12_give th v1 v2 v3 v5 v7 v9 σ Q X) : Ok l D cA tys A yX12_give (.code yX12_give cX12_give 14 (some .int)) 6 90 [.ref th, .int (i32 v1), .int (i32 v2), .long v3, .long v5, .long v7, .long v9] σ (QcI σ Q) (QxC σ X) := by
  unfold wp_X12_give at h
  exact oc_I hl0 (by decide) (by exact Nat.le_of_ble_eq_true rfl) hT (fun p e R s m args below meth c K hQ hX hTh H locs ls hH hl hc => a_X12_give_0 K hQ hX hTh σ v1 v2 v3 v5 v7 v9 g1 g2 h hG hY (Ext.rfl' σ) hth H locs ls hH (lv_sub (l' := [(0, .ref th), (1, .int (i32 v1)), (2, .int (i32 v2)), (3, .long v3), (5, .long v5), (7, .long v7), (9, .long v9)]) hl [0, 1, 2, 3, 4, 5, 6] rfl) hc)
theorem dX5_addColumn_0 : decode cX5_addColumn 0 = .ok (.aload_n 0, 1) := by decide +kernel
theorem dX5_addColumn_1 : decode cX5_addColumn 1 = .ok (.getfield 22, 3) := by decide +kernel
theorem dX5_addColumn_4 : decode cX5_addColumn 4 = .ok (.bipush 8, 2) := by decide +kernel
theorem dX5_addColumn_6 : decode cX5_addColumn 6 = .ok (.if_icmp .ge 23, 3) := by decide +kernel
theorem dX5_addColumn_9 : decode cX5_addColumn 9 = .ok (.aload_n 0, 1) := by decide +kernel
theorem dX5_addColumn_10 : decode cX5_addColumn 10 = .ok (.getfield 9, 3) := by decide +kernel
theorem dX5_addColumn_13 : decode cX5_addColumn 13 = .ok (.aload_n 0, 1) := by decide +kernel
theorem dX5_addColumn_14 : decode cX5_addColumn 14 = .ok (.getfield 22, 3) := by decide +kernel
theorem dX5_addColumn_17 : decode cX5_addColumn 17 = .ok (.lload_n 1, 1) := by decide +kernel
theorem dX5_addColumn_18 : decode cX5_addColumn 18 = .ok (.lastore, 1) := by decide +kernel
theorem dX5_addColumn_19 : decode cX5_addColumn 19 = .ok (.aload_n 0, 1) := by decide +kernel
theorem dX5_addColumn_20 : decode cX5_addColumn 20 = .ok (.dup, 1) := by decide +kernel
theorem dX5_addColumn_21 : decode cX5_addColumn 21 = .ok (.getfield 22, 3) := by decide +kernel
theorem dX5_addColumn_24 : decode cX5_addColumn 24 = .ok (.iconst 1, 1) := by decide +kernel
theorem dX5_addColumn_25 : decode cX5_addColumn 25 = .ok (.iadd, 1) := by decide +kernel
theorem dX5_addColumn_26 : decode cX5_addColumn 26 = .ok (.putfield 22, 3) := by decide +kernel
theorem dX5_addColumn_29 : decode cX5_addColumn 29 = .ok (.return_, 1) := by decide +kernel
set_option maxRecDepth 20000 in
theorem a_X5_addColumn_29 {Q : Sg → Unit → Prop} {X : Sg → String → Prop} {th : Nat} (K : MD l R p s m args c cX5_addColumn 3 RX5 D cA tys A n0 s0 0 0 []) (hQ : CQV p l e R s m args below meth c cX5_addColumn D cA A n0 s0 QM σi Q) (hX : CX p l e R s m args below meth c 3 D cA A n0 s0 QM σi X) (hTh : CT p l e R s m args below meth c cX5_addColumn 3 D cA A n0 s0 QM σi RX5 X) : ∀ (σ : Sg), w_X5_addColumn_29 th Q X σ → RG σ → TY σ → Ext σi σ → kO σ th 5 → JJ p l e R s m args below meth c 3 D cA A n0 s0 QM σ 29 [(0, .ref th)] [] := by
  intro σ h hGσ hYσ hE hth H locs ls hH hl hc
  have B := K.1
  have hl9 := K.2.2.2.2.2.2
  unfold w_X5_addColumn_29 at h
  exact hQ _ _ _ _ _ dX5_addColumn_29 hH hc h hGσ hYσ hE
set_option maxRecDepth 20000 in
theorem a_X5_addColumn_9 {Q : Sg → Unit → Prop} {X : Sg → String → Prop} {th : Nat} (K : MD l R p s m args c cX5_addColumn 3 RX5 D cA tys A n0 s0 0 0 []) (hQ : CQV p l e R s m args below meth c cX5_addColumn D cA A n0 s0 QM σi Q) (hX : CX p l e R s m args below meth c 3 D cA A n0 s0 QM σi X) (hTh : CT p l e R s m args below meth c cX5_addColumn 3 D cA A n0 s0 QM σi RX5 X) : ∀ (σ : Sg) (v1 : Int64), w_X5_addColumn_9 th Q X σ v1 → RG σ → TY σ → Ext σi σ → kO σ th 5 → JJ p l e R s m args below meth c 3 D cA A n0 s0 QM σ 9 [(0, .ref th), (1, .long v1)] [] := by
  intro σ v1 h hGσ hYσ hE hth H locs ls hH hl hc
  have B := K.1
  have hl9 := K.2.2.2.2.2.2
  unfold w_X5_addColumn_9 at h
  refine lv_aload_n B.1 B.2.1 dX5_addColumn_9 rfl (lv_at hl 0 rfl) ?_
  refine f_getp B hH hth (by decide) rfl wu_X5 0 (by decide) wf_X5_9 rfl rfl dX5_addColumn_10 ?_
  refine lv_aload_n B.1 B.2.1 dX5_addColumn_13 rfl (lv_at hl 0 rfl) ?_
  refine f_geti B hH hth (by decide) rfl wu_X5 3 (by decide) wf_X5_22 rfl rfl dX5_addColumn_14 ?_
  refine lv_lload_n B.1 B.2.1 dX5_addColumn_17 rfl (lv_at hl 1 rfl) ?_
  obtain ⟨a7, ea7, h⟩ := h
  have ka7 : kO σ a7 101 := (hYσ.get hth (by decide)) a7 ea7
  have h := h ka7
  obtain ⟨q1, h⟩ := h
  obtain ⟨σ8, eσ8⟩ : ∃ z, z = pJ σ a7 (gI σ th 3).toNat v1 := ⟨_, rfl⟩
  have h := h σ8 eσ8
  refine W.eq (g2 := F0 m 18 ls [.long v1, .int (i32 (gI σ th 3)), .ref a7]) (by rw [ea7]; rfl) ?_
  refine y_last B K.2.1 hH ka7 q1 dX5_addColumn_18 (hYσ.2 _) (fun H locs hH => ?_)
  have hH : Hd D cA A s (pJ σ a7 (gI σ th 3).toNat v1) H locs := hH
  rw [← eσ8] at hH
  have hGσ8 : RG σ8 := by rw [eσ8]; exact hGσ.pJ
  have hYσ8 : TY σ8 := by rw [eσ8]; exact hYσ.pJ
  have xσ8 : Ext σ σ8 := by rw [eσ8]; exact Ext.pJ
  have hc : CB n0 s0 σ8 := by rw [eσ8]; exact hc
  rw [show gc σ = gc σ8 by rw [eσ8]; try rfl, show gs σ = gs σ8 by rw [eσ8]; try rfl]
  refine lv_aload_n B.1 B.2.1 dX5_addColumn_19 rfl (lv_at hl 0 rfl) ?_
  refine lv_dup B.1 B.2.1 dX5_addColumn_20 rfl ?_
  refine f_geti B hH (hth.up xσ8) (by decide) rfl wu_X5 3 (by decide) wf_X5_22 rfl rfl dX5_addColumn_21 ?_
  refine lv_iconst (v := i32 1) B.1 B.2.1 dX5_addColumn_24 (by decide) ?_
  obtain ⟨q2, h⟩ := h
  refine lv_iadd B.1 B.2.1 dX5_addColumn_25 ?_
  rw [i32_add]
  obtain ⟨σ9, eσ9⟩ : ∃ z, z = pI σ8 th 3 (gI σ8 th 3 + 1) := ⟨_, rfl⟩
  have h := h σ9 eσ9
  refine f_puti B hH (hth.up xσ8) (by decide) rfl wu_X5 tyX5 tyX5_ok nmX5 3 (by decide) wf_X5_22 rfl (ty := .int) rfl rfl rfl rfl rfl dX5_addColumn_26 (fun H locs hH => ?_)
  have hH : Hd D cA A s (pI σ8 th 3 (gI σ8 th 3 + 1)) H locs := hH
  rw [← eσ9] at hH
  have hGσ9 : RG σ9 := by rw [eσ9]; exact hGσ8.pI q2
  have hYσ9 : TY σ9 := by rw [eσ9]; exact hYσ8.pI
  have xσ9 : Ext σ8 σ9 := by rw [eσ9]; exact Ext.pI
  have hc : CB n0 s0 σ9 := by rw [eσ9]; exact hc
  rw [show gc σ8 = gc σ9 by rw [eσ9]; try rfl, show gs σ8 = gs σ9 by rw [eσ9]; try rfl]
  exact a_X5_addColumn_29 K hQ hX hTh _ h hGσ9 hYσ9 ((hE.trans xσ8).trans xσ9) (hth.up (xσ8.trans xσ9)) _ _ _ hH (lv_sub (l' := [(0, .ref th)]) hl [0] rfl) hc
set_option maxRecDepth 20000 in
theorem a_X5_addColumn_0 {Q : Sg → Unit → Prop} {X : Sg → String → Prop} {th : Nat} (K : MD l R p s m args c cX5_addColumn 3 RX5 D cA tys A n0 s0 0 0 []) (hQ : CQV p l e R s m args below meth c cX5_addColumn D cA A n0 s0 QM σi Q) (hX : CX p l e R s m args below meth c 3 D cA A n0 s0 QM σi X) (hTh : CT p l e R s m args below meth c cX5_addColumn 3 D cA A n0 s0 QM σi RX5 X) : ∀ (σ : Sg) (v1 : Int64), w_X5_addColumn_0 th Q X σ v1 → RG σ → TY σ → Ext σi σ → kO σ th 5 → JJ p l e R s m args below meth c 3 D cA A n0 s0 QM σ 0 [(0, .ref th), (1, .long v1)] [] := by
  intro σ v1 h hGσ hYσ hE hth H locs ls hH hl hc
  have B := K.1
  have hl9 := K.2.2.2.2.2.2
  unfold w_X5_addColumn_0 at h
  refine lv_aload_n B.1 B.2.1 dX5_addColumn_0 rfl (lv_at hl 0 rfl) ?_
  refine f_geti B hH hth (by decide) rfl wu_X5 3 (by decide) wf_X5_22 rfl rfl dX5_addColumn_1 ?_
  refine lv_bipush (v := i32 8) B.1 B.2.1 dX5_addColumn_4 (by decide) ?_
  refine lv_icmp_ge (tgt := 29) B.1 B.2.1 dX5_addColumn_6 (by decide) (fun h9 => ?_) (fun h9 => ?_)
  · rw [if_pos ((i32_le (by unfold rng; omega) (hGσ _ _)).mp h9)] at h
    exact a_X5_addColumn_29 K hQ hX hTh _ h hGσ hYσ hE hth _ _ _ hH (lv_sub (l' := [(0, .ref th)]) hl [0] rfl) hc
  · rw [if_neg (fun q => h9 ((i32_le (by unfold rng; omega) (hGσ _ _)).mpr q))] at h
    exact a_X5_addColumn_9 K hQ hX hTh _ _ h hGσ hYσ hE hth _ _ _ hH (lv_sub (l' := [(0, .ref th), (1, .long v1)]) hl [0, 1] rfl) hc
theorem ok_X5_addColumn (hl0 : l.stackTraces = false) (hT : TyC cA tys) {Q : Sg → Unit → Prop} {X : Sg → String → Prop} (σ : Sg) (th : Nat) (v1 : Int64) (hth : kO σ th 5) (hG : RG σ) (hY : TY σ) (h : wp_X5_addColumn th v1 σ Q X) : Ok l D cA tys A yX5_addColumn (.code yX5_addColumn cX5_addColumn 3 none) 0 0 [.ref th, .long v1] σ (QcV σ Q) (QxC σ X) := by
  unfold wp_X5_addColumn at h
  exact oc_V hl0 (by decide) (by exact Nat.le_of_ble_eq_true rfl) hT (fun p e R s m args below meth c K hQ hX hTh hin9 H locs ls hH hl hc => a_X5_addColumn_0 K hQ hX hTh σ v1 h hG hY (Ext.rfl' σ) hth H locs ls hH (lv_sub (l' := [(0, .ref th), (1, .long v1)]) hl [0, 1] rfl) hc)
theorem dX6_newColumn_0 : decode cX6_newColumn 0 = .ok (.aload_n 0, 1) := by decide +kernel
theorem dX6_newColumn_1 : decode cX6_newColumn 1 = .ok (.getfield 43, 3) := by decide +kernel
theorem dX6_newColumn_4 : decode cX6_newColumn 4 = .ok (.iconst 1, 1) := by decide +kernel
theorem dX6_newColumn_5 : decode cX6_newColumn 5 = .ok (.if_icmp .eq 7, 3) := by decide +kernel
theorem dX6_newColumn_8 : decode cX6_newColumn 8 = .ok (.aload_n 0, 1) := by decide +kernel
theorem dX6_newColumn_9 : decode cX6_newColumn 9 = .ok (.invokevirtual 70, 3) := by decide +kernel
theorem dX6_newColumn_12 : decode cX6_newColumn 12 = .ok (.aload_n 0, 1) := by decide +kernel
theorem dX6_newColumn_13 : decode cX6_newColumn 13 = .ok (.getfield 88, 3) := by decide +kernel
theorem dX6_newColumn_16 : decode cX6_newColumn 16 = .ok (.aload_n 0, 1) := by decide +kernel
theorem dX6_newColumn_17 : decode cX6_newColumn 17 = .ok (.getfield 73, 3) := by decide +kernel
theorem dX6_newColumn_20 : decode cX6_newColumn 20 = .ok (.invokevirtual 235, 3) := by decide +kernel
theorem dX6_newColumn_23 : decode cX6_newColumn 23 = .ok (.iconst (-1), 1) := by decide +kernel
theorem dX6_newColumn_24 : decode cX6_newColumn 24 = .ok (.if_icmp .eq 9, 3) := by decide +kernel
theorem dX6_newColumn_27 : decode cX6_newColumn 27 = .ok (.aload_n 0, 1) := by decide +kernel
theorem dX6_newColumn_28 : decode cX6_newColumn 28 = .ok (.bipush 6, 2) := by decide +kernel
theorem dX6_newColumn_30 : decode cX6_newColumn 30 = .ok (.invokevirtual 81, 3) := by decide +kernel
theorem dX6_newColumn_33 : decode cX6_newColumn 33 = .ok (.aload_n 0, 1) := by decide +kernel
theorem dX6_newColumn_34 : decode cX6_newColumn 34 = .ok (.getfield 88, 3) := by decide +kernel
theorem dX6_newColumn_37 : decode cX6_newColumn 37 = .ok (.getfield 214, 3) := by decide +kernel
theorem dX6_newColumn_40 : decode cX6_newColumn 40 = .ok (.iload_n 1, 1) := by decide +kernel
theorem dX6_newColumn_41 : decode cX6_newColumn 41 = .ok (.if_icmp .lt 9, 3) := by decide +kernel
theorem dX6_newColumn_44 : decode cX6_newColumn 44 = .ok (.aload_n 0, 1) := by decide +kernel
theorem dX6_newColumn_45 : decode cX6_newColumn 45 = .ok (.bipush 8, 2) := by decide +kernel
theorem dX6_newColumn_47 : decode cX6_newColumn 47 = .ok (.invokevirtual 81, 3) := by decide +kernel
theorem dX6_newColumn_50 : decode cX6_newColumn 50 = .ok (.aload_n 0, 1) := by decide +kernel
theorem dX6_newColumn_51 : decode cX6_newColumn 51 = .ok (.getfield 88, 3) := by decide +kernel
theorem dX6_newColumn_54 : decode cX6_newColumn 54 = .ok (.aload_n 0, 1) := by decide +kernel
theorem dX6_newColumn_55 : decode cX6_newColumn 55 = .ok (.getfield 73, 3) := by decide +kernel
theorem dX6_newColumn_58 : decode cX6_newColumn 58 = .ok (.invokevirtual 192, 3) := by decide +kernel
theorem dX6_newColumn_61 : decode cX6_newColumn 61 = .ok (.aload_n 0, 1) := by decide +kernel
theorem dX6_newColumn_62 : decode cX6_newColumn 62 = .ok (.invokevirtual 40, 3) := by decide +kernel
theorem dX6_newColumn_65 : decode cX6_newColumn 65 = .ok (.return_, 1) := by decide +kernel
set_option maxRecDepth 20000 in
theorem a_X6_newColumn_50 {Q : Sg → Unit → Prop} {X : Sg → String → Prop} {th : Nat} (K : MD l R p s m args c cX6_newColumn 2 RX6 D cA tys A n0 s0 8 132 []) (hQ : CQV p l e R s m args below meth c cX6_newColumn D cA A n0 s0 QM σi Q) (hX : CX p l e R s m args below meth c 2 D cA A n0 s0 QM σi X) (hTh : CT p l e R s m args below meth c cX6_newColumn 2 D cA A n0 s0 QM σi RX6 X) : ∀ (σ : Sg), w_X6_newColumn_50 th Q X σ → RG σ → TY σ → Ext σi σ → kO σ th 6 → JJ p l e R s m args below meth c 2 D cA A n0 s0 QM σ 50 [(0, .ref th)] [] := by
  intro σ h hGσ hYσ hE hth H locs ls hH hl hc
  have B := K.1
  have hl9 := K.2.2.2.2.2.2
  unfold w_X6_newColumn_50 at h
  refine lv_aload_n B.1 B.2.1 dX6_newColumn_50 rfl (lv_at hl 0 rfl) ?_
  refine f_getp B hH hth (by decide) rfl wu_X6 8 (by decide) wf_X6_88 rfl rfl dX6_newColumn_51 ?_
  refine lv_aload_n B.1 B.2.1 dX6_newColumn_54 rfl (lv_at hl 0 rfl) ?_
  refine f_getl B hH hth (by decide) rfl wu_X6 4 (by decide) wf_X6_73 rfl rfl dX6_newColumn_55 ?_
  obtain ⟨a22, ea22, h⟩ := h
  have ka22 : kO σ a22 5 := (hYσ.get hth (by decide)) a22 ea22
  have h := h ka22
  refine W.eq (g2 := F0 m 58 ls [.long (gJ σ th 4), .ref a22]) (by rw [ea22]; rfl) ?_
  refine c_V B hH hl hc K.2.2.1 (C := RX5) (T := TX5) (N := 17) (ci := 5) (As := [.long (gJ σ th 4)]) (ok_X5_addColumn hl9 K.2.1 σ a22 (gJ σ th 4) ka22 hGσ hYσ h) wc_X6_192 1 hd_X5_addColumn ⟨Nat.le_trans (Nat.le_of_ble_eq_true rfl) K.2.2.2.1, Nat.le_trans (Nat.le_of_ble_eq_true rfl) K.2.2.2.2.1⟩ ka22.1 ka22.2 (by decide) rfl rfl (rest := []) rfl (Nat.le_of_ble_eq_true rfl) dX6_newColumn_58 (fun σ21 w hq => ?_) (fun σ9 E9 hx9 => hX σ9 E9 _ _ _ (tb_out K.2.2.2.2.2.1 rfl) hx9.1 hx9.2.1 hx9.2.2.1 (hE.trans hx9.2.2.2))
  obtain ⟨rfl, h, hGσ21, hYσ21, xσ21⟩ := hq
  have h := h xσ21
  intro H locs ls hH hl hc
  refine W.eq (g2 := F0 m 61 ls []) (rfl) ?_
  try dsimp only at h
  refine lv_aload_n B.1 B.2.1 dX6_newColumn_61 rfl (lv_at hl 0 rfl) ?_
  refine W.eq (g2 := F0 m 62 ls [.ref th]) (rfl) ?_
  refine c_V B hH hl hc K.2.2.1 (C := RX6) (T := TX6) (N := 9) (ci := 6) (As := []) (ok_X6_next hl9 K.2.1 σ21 th (hth.up xσ21) hGσ21 hYσ21 h) wc_X6_40 0 hd_X6_next ⟨Nat.le_trans (Nat.le_of_ble_eq_true rfl) K.2.2.2.1, Nat.le_trans (Nat.le_of_ble_eq_true rfl) K.2.2.2.2.1⟩ (hth.up xσ21).1 (hth.up xσ21).2 (by decide) rfl rfl (rest := []) rfl (Nat.le_of_ble_eq_true rfl) dX6_newColumn_62 (fun σ23 w hq => ?_) (fun σ9 E9 hx9 => hX σ9 E9 _ _ _ (tb_out K.2.2.2.2.2.1 rfl) hx9.1 hx9.2.1 hx9.2.2.1 ((hE.trans xσ21).trans hx9.2.2.2))
  obtain ⟨rfl, h, hGσ23, hYσ23, xσ23⟩ := hq
  have h := h xσ23
  intro H locs ls hH hl hc
  refine W.eq (g2 := F0 m 65 ls []) (rfl) ?_
  try dsimp only at h
  exact hQ _ _ _ _ _ dX6_newColumn_65 hH hc h hGσ23 hYσ23 ((hE.trans xσ21).trans xσ23)
set_option maxRecDepth 20000 in
theorem a_X6_newColumn_44 {Q : Sg → Unit → Prop} {X : Sg → String → Prop} {th : Nat} (K : MD l R p s m args c cX6_newColumn 2 RX6 D cA tys A n0 s0 8 132 []) (hQ : CQV p l e R s m args below meth c cX6_newColumn D cA A n0 s0 QM σi Q) (hX : CX p l e R s m args below meth c 2 D cA A n0 s0 QM σi X) (hTh : CT p l e R s m args below meth c cX6_newColumn 2 D cA A n0 s0 QM σi RX6 X) : ∀ (σ : Sg), w_X6_newColumn_44 th Q X σ → RG σ → TY σ → Ext σi σ → kO σ th 6 → JJ p l e R s m args below meth c 2 D cA A n0 s0 QM σ 44 [(0, .ref th)] [] := by
  intro σ h hGσ hYσ hE hth H locs ls hH hl hc
  have B := K.1
  have hl9 := K.2.2.2.2.2.2
  unfold w_X6_newColumn_44 at h
  refine lv_aload_n B.1 B.2.1 dX6_newColumn_44 rfl (lv_at hl 0 rfl) ?_
  refine lv_bipush (v := i32 8) B.1 B.2.1 dX6_newColumn_45 (by decide) ?_
  refine W.eq (g2 := F0 m 47 ls [.int (i32 8), .ref th]) (rfl) ?_
  refine c_V B hH hl hc K.2.2.1 (C := RX6) (T := TX6) (N := 9) (ci := 6) (As := [.int (i32 8)]) (ok_X6_refuse hl9 K.2.1 σ th 8 (by unfold rng; omega) hth hGσ hYσ h) wc_X6_81 1 hd_X6_refuse ⟨Nat.le_trans (Nat.le_of_ble_eq_true rfl) K.2.2.2.1, Nat.le_trans (Nat.le_of_ble_eq_true rfl) K.2.2.2.2.1⟩ hth.1 hth.2 (by decide) rfl rfl (rest := []) rfl (Nat.le_of_ble_eq_true rfl) dX6_newColumn_47 (fun σ24 w hq => ?_) (fun σ9 E9 hx9 => hX σ9 E9 _ _ _ (tb_out K.2.2.2.2.2.1 rfl) hx9.1 hx9.2.1 hx9.2.2.1 (hE.trans hx9.2.2.2))
  obtain ⟨rfl, h, hGσ24, hYσ24, xσ24⟩ := hq
  have h := h xσ24
  intro H locs ls hH hl hc
  refine W.eq (g2 := F0 m 50 ls []) (rfl) ?_
  try dsimp only at h
  exact a_X6_newColumn_50 K hQ hX hTh _ h hGσ24 hYσ24 (hE.trans xσ24) (hth.up xσ24) _ _ _ hH (lv_sub (l' := [(0, .ref th)]) hl [0] rfl) hc
set_option maxRecDepth 20000 in
theorem a_X6_newColumn_33 {Q : Sg → Unit → Prop} {X : Sg → String → Prop} {th : Nat} (K : MD l R p s m args c cX6_newColumn 2 RX6 D cA tys A n0 s0 8 132 []) (hQ : CQV p l e R s m args below meth c cX6_newColumn D cA A n0 s0 QM σi Q) (hX : CX p l e R s m args below meth c 2 D cA A n0 s0 QM σi X) (hTh : CT p l e R s m args below meth c cX6_newColumn 2 D cA A n0 s0 QM σi RX6 X) : ∀ (σ : Sg) (v1 : Int) (g1 : rng v1), w_X6_newColumn_33 th Q X σ v1 → RG σ → TY σ → Ext σi σ → kO σ th 6 → JJ p l e R s m args below meth c 2 D cA A n0 s0 QM σ 33 [(0, .ref th), (1, .int (i32 v1))] [] := by
  intro σ v1 g1 h hGσ hYσ hE hth H locs ls hH hl hc
  have B := K.1
  have hl9 := K.2.2.2.2.2.2
  unfold w_X6_newColumn_33 at h
  refine lv_aload_n B.1 B.2.1 dX6_newColumn_33 rfl (lv_at hl 0 rfl) ?_
  refine f_getp B hH hth (by decide) rfl wu_X6 8 (by decide) wf_X6_88 rfl rfl dX6_newColumn_34 ?_
  obtain ⟨a25, ea25, h⟩ := h
  have ka25 : kO σ a25 5 := (hYσ.get hth (by decide)) a25 ea25
  have h := h ka25
  refine W.eq (g2 := F0 m 37 ls [.ref a25]) (by rw [ea25]; rfl) ?_
  refine f_geti B hH ka25 (by decide) rfl wu_X5 3 (by decide) wf_X6_214 rfl rfl dX6_newColumn_37 ?_
  refine lv_iload_n B.1 B.2.1 dX6_newColumn_40 rfl (lv_at hl 1 rfl) ?_
  refine lv_icmp_lt (tgt := 50) B.1 B.2.1 dX6_newColumn_41 (by decide) (fun h9 => ?_) (fun h9 => ?_)
  · rw [if_pos ((i32_lt (hGσ _ _) g1).mp h9)] at h
    exact a_X6_newColumn_50 K hQ hX hTh _ h hGσ hYσ hE hth _ _ _ hH (lv_sub (l' := [(0, .ref th)]) hl [0] rfl) hc
  · rw [if_neg (fun q => h9 ((i32_lt (hGσ _ _) g1).mpr q))] at h
    exact a_X6_newColumn_44 K hQ hX hTh _ h hGσ hYσ hE hth _ _ _ hH (lv_sub (l' := [(0, .ref th)]) hl [0] rfl) hc
set_option maxRecDepth 20000 in
theorem a_X6_newColumn_27 {Q : Sg → Unit → Prop} {X : Sg → String → Prop} {th : Nat} (K : MD l R p s m args c cX6_newColumn 2 RX6 D cA tys A n0 s0 8 132 []) (hQ : CQV p l e R s m args below meth c cX6_newColumn D cA A n0 s0 QM σi Q) (hX : CX p l e R s m args below meth c 2 D cA A n0 s0 QM σi X) (hTh : CT p l e R s m args below meth c cX6_newColumn 2 D cA A n0 s0 QM σi RX6 X) : ∀ (σ : Sg) (v1 : Int) (g1 : rng v1), w_X6_newColumn_27 th Q X σ v1 → RG σ → TY σ → Ext σi σ → kO σ th 6 → JJ p l e R s m args below meth c 2 D cA A n0 s0 QM σ 27 [(0, .ref th), (1, .int (i32 v1))] [] := by
  intro σ v1 g1 h hGσ hYσ hE hth H locs ls hH hl hc
  have B := K.1
  have hl9 := K.2.2.2.2.2.2
  unfold w_X6_newColumn_27 at h
  refine lv_aload_n B.1 B.2.1 dX6_newColumn_27 rfl (lv_at hl 0 rfl) ?_
  refine lv_bipush (v := i32 6) B.1 B.2.1 dX6_newColumn_28 (by decide) ?_
  refine W.eq (g2 := F0 m 30 ls [.int (i32 6), .ref th]) (rfl) ?_
  refine c_V B hH hl hc K.2.2.1 (C := RX6) (T := TX6) (N := 9) (ci := 6) (As := [.int (i32 6)]) (ok_X6_refuse hl9 K.2.1 σ th 6 (by unfold rng; omega) hth hGσ hYσ h) wc_X6_81 1 hd_X6_refuse ⟨Nat.le_trans (Nat.le_of_ble_eq_true rfl) K.2.2.2.1, Nat.le_trans (Nat.le_of_ble_eq_true rfl) K.2.2.2.2.1⟩ hth.1 hth.2 (by decide) rfl rfl (rest := []) rfl (Nat.le_of_ble_eq_true rfl) dX6_newColumn_30 (fun σ26 w hq => ?_) (fun σ9 E9 hx9 => hX σ9 E9 _ _ _ (tb_out K.2.2.2.2.2.1 rfl) hx9.1 hx9.2.1 hx9.2.2.1 (hE.trans hx9.2.2.2))
  obtain ⟨rfl, h, hGσ26, hYσ26, xσ26⟩ := hq
  have h := h xσ26
  intro H locs ls hH hl hc
  refine W.eq (g2 := F0 m 33 ls []) (rfl) ?_
  try dsimp only at h
  exact a_X6_newColumn_33 K hQ hX hTh _ _ g1 h hGσ26 hYσ26 (hE.trans xσ26) (hth.up xσ26) _ _ _ hH (lv_sub (l' := [(0, .ref th), (1, .int (i32 v1))]) hl [0, 1] rfl) hc
set_option maxRecDepth 20000 in
theorem a_X6_newColumn_12 {Q : Sg → Unit → Prop} {X : Sg → String → Prop} {th : Nat} (K : MD l R p s m args c cX6_newColumn 2 RX6 D cA tys A n0 s0 8 132 []) (hQ : CQV p l e R s m args below meth c cX6_newColumn D cA A n0 s0 QM σi Q) (hX : CX p l e R s m args below meth c 2 D cA A n0 s0 QM σi X) (hTh : CT p l e R s m args below meth c cX6_newColumn 2 D cA A n0 s0 QM σi RX6 X) : ∀ (σ : Sg) (v1 : Int) (g1 : rng v1), w_X6_newColumn_12 th Q X σ v1 → RG σ → TY σ → Ext σi σ → kO σ th 6 → JJ p l e R s m args below meth c 2 D cA A n0 s0 QM σ 12 [(0, .ref th), (1, .int (i32 v1))] [] := by
  intro σ v1 g1 h hGσ hYσ hE hth H locs ls hH hl hc
  have B := K.1
  have hl9 := K.2.2.2.2.2.2
  unfold w_X6_newColumn_12 at h
  refine lv_aload_n B.1 B.2.1 dX6_newColumn_12 rfl (lv_at hl 0 rfl) ?_
  refine f_getp B hH hth (by decide) rfl wu_X6 8 (by decide) wf_X6_88 rfl rfl dX6_newColumn_13 ?_
  refine lv_aload_n B.1 B.2.1 dX6_newColumn_16 rfl (lv_at hl 0 rfl) ?_
  refine f_getl B hH hth (by decide) rfl wu_X6 4 (by decide) wf_X6_73 rfl rfl dX6_newColumn_17 ?_
  obtain ⟨a29, ea29, h⟩ := h
  have ka29 : kO σ a29 5 := (hYσ.get hth (by decide)) a29 ea29
  have h := h ka29
  refine W.eq (g2 := F0 m 20 ls [.long (gJ σ th 4), .ref a29]) (by rw [ea29]; rfl) ?_
  refine c_V B hH hl hc K.2.2.1 (C := RX5) (T := TX5) (N := 17) (ci := 5) (As := [.long (gJ σ th 4)]) (ok_X5_find hl9 K.2.1 σ a29 (gJ σ th 4) ka29 hGσ hYσ h) wc_X6_235 1 hd_X5_find ⟨Nat.le_trans (Nat.le_of_ble_eq_true rfl) K.2.2.2.1, Nat.le_trans (Nat.le_of_ble_eq_true rfl) K.2.2.2.2.1⟩ ka29.1 ka29.2 (by decide) rfl rfl (rest := []) rfl (Nat.le_of_ble_eq_true rfl) dX6_newColumn_20 (fun σ27 w hq => ?_) (fun σ9 E9 hx9 => hX σ9 E9 _ _ _ (tb_out K.2.2.2.2.2.1 rfl) hx9.1 hx9.2.1 hx9.2.2.1 (hE.trans hx9.2.2.2))
  obtain ⟨r28, rfl, gr28, h, hGσ27, hYσ27, xσ27⟩ := hq
  have h := h xσ27
  intro H locs ls hH hl hc
  refine W.eq (g2 := F0 m 23 ls [.int (i32 r28)]) (rfl) ?_
  try dsimp only at h
  refine lv_iconst (v := i32 (-1)) B.1 B.2.1 dX6_newColumn_23 (by decide) ?_
  refine lv_icmp_eq (tgt := 33) B.1 B.2.1 dX6_newColumn_24 (by decide) (fun h9 => ?_) (fun h9 => ?_)
  · rw [if_pos ((i32_eq gr28 (by unfold rng; omega)).mp h9)] at h
    exact a_X6_newColumn_33 K hQ hX hTh _ _ g1 h hGσ27 hYσ27 (hE.trans xσ27) (hth.up xσ27) _ _ _ hH (lv_sub (l' := [(0, .ref th), (1, .int (i32 v1))]) hl [0, 1] rfl) hc
  · rw [if_neg (fun q => h9 ((i32_eq gr28 (by unfold rng; omega)).mpr q))] at h
    exact a_X6_newColumn_27 K hQ hX hTh _ _ g1 h hGσ27 hYσ27 (hE.trans xσ27) (hth.up xσ27) _ _ _ hH (lv_sub (l' := [(0, .ref th), (1, .int (i32 v1))]) hl [0, 1] rfl) hc
set_option maxRecDepth 20000 in
theorem a_X6_newColumn_8 {Q : Sg → Unit → Prop} {X : Sg → String → Prop} {th : Nat} (K : MD l R p s m args c cX6_newColumn 2 RX6 D cA tys A n0 s0 8 132 []) (hQ : CQV p l e R s m args below meth c cX6_newColumn D cA A n0 s0 QM σi Q) (hX : CX p l e R s m args below meth c 2 D cA A n0 s0 QM σi X) (hTh : CT p l e R s m args below meth c cX6_newColumn 2 D cA A n0 s0 QM σi RX6 X) : ∀ (σ : Sg) (v1 : Int) (g1 : rng v1), w_X6_newColumn_8 th Q X σ v1 → RG σ → TY σ → Ext σi σ → kO σ th 6 → JJ p l e R s m args below meth c 2 D cA A n0 s0 QM σ 8 [(0, .ref th), (1, .int (i32 v1))] [] := by
  intro σ v1 g1 h hGσ hYσ hE hth H locs ls hH hl hc
  have B := K.1
  have hl9 := K.2.2.2.2.2.2
  unfold w_X6_newColumn_8 at h
  refine lv_aload_n B.1 B.2.1 dX6_newColumn_8 rfl (lv_at hl 0 rfl) ?_
  refine W.eq (g2 := F0 m 9 ls [.ref th]) (rfl) ?_
  refine c_V B hH hl hc K.2.2.1 (C := RX6) (T := TX6) (N := 9) (ci := 6) (As := []) (ok_X6_cannotStand hl9 K.2.1 σ th hth hGσ hYσ h) wc_X6_70 0 hd_X6_cannotStand ⟨Nat.le_trans (Nat.le_of_ble_eq_true rfl) K.2.2.2.1, Nat.le_trans (Nat.le_of_ble_eq_true rfl) K.2.2.2.2.1⟩ hth.1 hth.2 (by decide) rfl rfl (rest := []) rfl (Nat.le_of_ble_eq_true rfl) dX6_newColumn_9 (fun σ30 w hq => ?_) (fun σ9 E9 hx9 => hX σ9 E9 _ _ _ (tb_out K.2.2.2.2.2.1 rfl) hx9.1 hx9.2.1 hx9.2.2.1 (hE.trans hx9.2.2.2))
  obtain ⟨rfl, h, hGσ30, hYσ30, xσ30⟩ := hq
  have h := h xσ30
  intro H locs ls hH hl hc
  refine W.eq (g2 := F0 m 12 ls []) (rfl) ?_
  try dsimp only at h
  exact a_X6_newColumn_12 K hQ hX hTh _ _ g1 h hGσ30 hYσ30 (hE.trans xσ30) (hth.up xσ30) _ _ _ hH (lv_sub (l' := [(0, .ref th), (1, .int (i32 v1))]) hl [0, 1] rfl) hc
set_option maxRecDepth 20000 in
theorem a_X6_newColumn_0 {Q : Sg → Unit → Prop} {X : Sg → String → Prop} {th : Nat} (K : MD l R p s m args c cX6_newColumn 2 RX6 D cA tys A n0 s0 8 132 []) (hQ : CQV p l e R s m args below meth c cX6_newColumn D cA A n0 s0 QM σi Q) (hX : CX p l e R s m args below meth c 2 D cA A n0 s0 QM σi X) (hTh : CT p l e R s m args below meth c cX6_newColumn 2 D cA A n0 s0 QM σi RX6 X) : ∀ (σ : Sg) (v1 : Int) (g1 : rng v1), w_X6_newColumn_0 th Q X σ v1 → RG σ → TY σ → Ext σi σ → kO σ th 6 → JJ p l e R s m args below meth c 2 D cA A n0 s0 QM σ 0 [(0, .ref th), (1, .int (i32 v1))] [] := by
  intro σ v1 g1 h hGσ hYσ hE hth H locs ls hH hl hc
  have B := K.1
  have hl9 := K.2.2.2.2.2.2
  unfold w_X6_newColumn_0 at h
  refine lv_aload_n B.1 B.2.1 dX6_newColumn_0 rfl (lv_at hl 0 rfl) ?_
  refine f_geti B hH hth (by decide) rfl wu_X6 3 (by decide) wf_X6_43 rfl rfl dX6_newColumn_1 ?_
  refine lv_iconst (v := i32 1) B.1 B.2.1 dX6_newColumn_4 (by decide) ?_
  refine lv_icmp_eq (tgt := 12) B.1 B.2.1 dX6_newColumn_5 (by decide) (fun h9 => ?_) (fun h9 => ?_)
  · rw [if_pos ((i32_eq (hGσ _ _) (by unfold rng; omega)).mp h9)] at h
    exact a_X6_newColumn_12 K hQ hX hTh _ _ g1 h hGσ hYσ hE hth _ _ _ hH (lv_sub (l' := [(0, .ref th), (1, .int (i32 v1))]) hl [0, 1] rfl) hc
  · rw [if_neg (fun q => h9 ((i32_eq (hGσ _ _) (by unfold rng; omega)).mpr q))] at h
    exact a_X6_newColumn_8 K hQ hX hTh _ _ g1 h hGσ hYσ hE hth _ _ _ hH (lv_sub (l' := [(0, .ref th), (1, .int (i32 v1))]) hl [0, 1] rfl) hc
theorem ok_X6_newColumn (hl0 : l.stackTraces = false) (hT : TyC cA tys) {Q : Sg → Unit → Prop} {X : Sg → String → Prop} (σ : Sg) (th : Nat) (v1 : Int) (g1 : rng v1) (hth : kO σ th 6) (hG : RG σ) (hY : TY σ) (h : wp_X6_newColumn th v1 σ Q X) : Ok l D cA tys A yX6_newColumn (.code yX6_newColumn cX6_newColumn 2 none) 8 132 [.ref th, .int (i32 v1)] σ (QcV σ Q) (QxC σ X) := by
  unfold wp_X6_newColumn at h
  exact oc_V hl0 (by decide) (by exact Nat.le_of_ble_eq_true rfl) hT (fun p e R s m args below meth c K hQ hX hTh hin9 H locs ls hH hl hc => a_X6_newColumn_0 K hQ hX hTh σ v1 g1 h hG hY (Ext.rfl' σ) hth H locs ls hH (lv_sub (l' := [(0, .ref th), (1, .int (i32 v1))]) hl [0, 1] rfl) hc)
theorem dX6_newValue_0 : decode cX6_newValue 0 = .ok (.aload_n 0, 1) := by decide +kernel
theorem dX6_newValue_1 : decode cX6_newValue 1 = .ok (.getfield 88, 3) := by decide +kernel
theorem dX6_newValue_4 : decode cX6_newValue 4 = .ok (.getfield 239, 3) := by decide +kernel
theorem dX6_newValue_7 : decode cX6_newValue 7 = .ok (.aload_n 0, 1) := by decide +kernel
theorem dX6_newValue_8 : decode cX6_newValue 8 = .ok (.getfield 88, 3) := by decide +kernel
theorem dX6_newValue_11 : decode cX6_newValue 11 = .ok (.getfield 208, 3) := by decide +kernel
theorem dX6_newValue_14 : decode cX6_newValue 14 = .ok (.aload_n 0, 1) := by decide +kernel
theorem dX6_newValue_15 : decode cX6_newValue 15 = .ok (.getfield 31, 3) := by decide +kernel
theorem dX6_newValue_18 : decode cX6_newValue 18 = .ok (.getfield 242, 3) := by decide +kernel
theorem dX6_newValue_21 : decode cX6_newValue 21 = .ok (.iastore, 1) := by decide +kernel
theorem dX6_newValue_22 : decode cX6_newValue 22 = .ok (.aload_n 0, 1) := by decide +kernel
theorem dX6_newValue_23 : decode cX6_newValue 23 = .ok (.getfield 88, 3) := by decide +kernel
theorem dX6_newValue_26 : decode cX6_newValue 26 = .ok (.dup, 1) := by decide +kernel
theorem dX6_newValue_27 : decode cX6_newValue 27 = .ok (.getfield 208, 3) := by decide +kernel
theorem dX6_newValue_30 : decode cX6_newValue 30 = .ok (.iconst 1, 1) := by decide +kernel
theorem dX6_newValue_31 : decode cX6_newValue 31 = .ok (.iadd, 1) := by decide +kernel
theorem dX6_newValue_32 : decode cX6_newValue 32 = .ok (.putfield 208, 3) := by decide +kernel
theorem dX6_newValue_35 : decode cX6_newValue 35 = .ok (.return_, 1) := by decide +kernel
set_option maxRecDepth 20000 in
theorem a_X6_newValue_0 {Q : Sg → Unit → Prop} {X : Sg → String → Prop} {th : Nat} (K : MD l R p s m args c cX6_newValue 1 RX6 D cA tys A n0 s0 0 0 []) (hQ : CQV p l e R s m args below meth c cX6_newValue D cA A n0 s0 QM σi Q) (hX : CX p l e R s m args below meth c 1 D cA A n0 s0 QM σi X) (hTh : CT p l e R s m args below meth c cX6_newValue 1 D cA A n0 s0 QM σi RX6 X) : ∀ (σ : Sg), w_X6_newValue_0 th Q X σ → RG σ → TY σ → Ext σi σ → kO σ th 6 → JJ p l e R s m args below meth c 1 D cA A n0 s0 QM σ 0 [(0, .ref th)] [] := by
  intro σ h hGσ hYσ hE hth H locs ls hH hl hc
  have B := K.1
  have hl9 := K.2.2.2.2.2.2
  unfold w_X6_newValue_0 at h
  refine lv_aload_n B.1 B.2.1 dX6_newValue_0 rfl (lv_at hl 0 rfl) ?_
  refine f_getp B hH hth (by decide) rfl wu_X6 8 (by decide) wf_X6_88 rfl rfl dX6_newValue_1 ?_
  obtain ⟨a13, ea13, h⟩ := h
  have ka13 : kO σ a13 5 := (hYσ.get hth (by decide)) a13 ea13
  have h := h ka13
  refine W.eq (g2 := F0 m 4 ls [.ref a13]) (by rw [ea13]; rfl) ?_
  refine f_getp B hH ka13 (by decide) rfl wu_X5 1 (by decide) wf_X6_239 rfl rfl dX6_newValue_4 ?_
  refine lv_aload_n B.1 B.2.1 dX6_newValue_7 rfl (lv_at hl 0 rfl) ?_
  refine f_getp B hH hth (by decide) rfl wu_X6 8 (by decide) wf_X6_88 rfl rfl dX6_newValue_8 ?_
  refine W.eq (g2 := F0 m 11 ls [.ref a13, va_rf (gP σ a13 1)]) (by rw [ea13]; rfl) ?_
  refine f_geti B hH ka13 (by decide) rfl wu_X5 4 (by decide) wf_X6_208 rfl rfl dX6_newValue_11 ?_
  refine lv_aload_n B.1 B.2.1 dX6_newValue_14 rfl (lv_at hl 0 rfl) ?_
  refine f_getp B hH hth (by decide) rfl wu_X6 7 (by decide) wf_X6_31 rfl rfl dX6_newValue_15 ?_
  obtain ⟨a14, ea14, h⟩ := h
  have ka14 : kO σ a14 4 := (hYσ.get hth (by decide)) a14 ea14
  have h := h ka14
  refine W.eq (g2 := F0 m 18 ls [.ref a14, .int (i32 (gI σ a13 4)), va_rf (gP σ a13 1)]) (by rw [ea14]; rfl) ?_
  refine f_geti B hH ka14 (by decide) rfl wu_X4 7 (by decide) wf_X6_242 rfl rfl dX6_newValue_18 ?_
  obtain ⟨a15, ea15, h⟩ := h
  have ka15 : kO σ a15 100 := (hYσ.get ka13 (by decide)) a15 ea15
  have h := h ka15
  obtain ⟨q1, h⟩ := h
  obtain ⟨σ16, eσ16⟩ : ∃ z, z = pI σ a15 (gI σ a13 4).toNat (gI σ a14 7) := ⟨_, rfl⟩
  have h := h σ16 eσ16
  refine W.eq (g2 := F0 m 21 ls [.int (i32 (gI σ a14 7)), .int (i32 (gI σ a13 4)), .ref a15]) (by rw [ea15]; rfl) ?_
  refine y_iast B K.2.1 hH ka15 q1 dX6_newValue_21 (hYσ.2 _) (fun H locs hH => ?_)
  have hH : Hd D cA A s (pI σ a15 (gI σ a13 4).toNat (gI σ a14 7)) H locs := hH
  rw [← eσ16] at hH
  have hGσ16 : RG σ16 := by rw [eσ16]; exact hGσ.pI (hGσ _ _)
  have hYσ16 : TY σ16 := by rw [eσ16]; exact hYσ.pI
  have xσ16 : Ext σ σ16 := by rw [eσ16]; exact Ext.pI
  have hc : CB n0 s0 σ16 := by rw [eσ16]; exact hc
  rw [show gc σ = gc σ16 by rw [eσ16]; try rfl, show gs σ = gs σ16 by rw [eσ16]; try rfl]
  refine lv_aload_n B.1 B.2.1 dX6_newValue_22 rfl (lv_at hl 0 rfl) ?_
  refine f_getp B hH (hth.up xσ16) (by decide) rfl wu_X6 8 (by decide) wf_X6_88 rfl rfl dX6_newValue_23 ?_
  refine lv_dup B.1 B.2.1 dX6_newValue_26 (rf_cat _) ?_
  obtain ⟨a17, ea17, h⟩ := h
  have ka17 : kO σ16 a17 5 := (hYσ16.get (hth.up xσ16) (by decide)) a17 ea17
  have h := h ka17
  refine W.eq (g2 := F0 m 27 ls [.ref a17, va_rf (gP σ16 th 8)]) (by rw [ea17]; rfl) ?_
  refine f_geti B hH ka17 (by decide) rfl wu_X5 4 (by decide) wf_X6_208 rfl rfl dX6_newValue_27 ?_
  refine lv_iconst (v := i32 1) B.1 B.2.1 dX6_newValue_30 (by decide) ?_
  obtain ⟨q2, h⟩ := h
  refine lv_iadd B.1 B.2.1 dX6_newValue_31 ?_
  rw [i32_add]
  obtain ⟨σ18, eσ18⟩ : ∃ z, z = pI σ16 a17 4 (gI σ16 a17 4 + 1) := ⟨_, rfl⟩
  have h := h σ18 eσ18
  refine W.eq (g2 := F0 m 32 ls [.int (i32 (gI σ16 a17 4 + 1)), .ref a17]) (by rw [ea17]; rfl) ?_
  refine f_puti B hH ka17 (by decide) rfl wu_X5 tyX5 tyX5_ok nmX5 4 (by decide) wf_X6_208 rfl (ty := .int) rfl rfl rfl rfl rfl dX6_newValue_32 (fun H locs hH => ?_)
  have hH : Hd D cA A s (pI σ16 a17 4 (gI σ16 a17 4 + 1)) H locs := hH
  rw [← eσ18] at hH
  have hGσ18 : RG σ18 := by rw [eσ18]; exact hGσ16.pI q2
  have hYσ18 : TY σ18 := by rw [eσ18]; exact hYσ16.pI
  have xσ18 : Ext σ16 σ18 := by rw [eσ18]; exact Ext.pI
  have hc : CB n0 s0 σ18 := by rw [eσ18]; exact hc
  rw [show gc σ16 = gc σ18 by rw [eσ18]; try rfl, show gs σ16 = gs σ18 by rw [eσ18]; try rfl]
  exact hQ _ _ _ _ _ dX6_newValue_35 hH hc h hGσ18 hYσ18 ((hE.trans xσ16).trans xσ18)
theorem ok_X6_newValue (hl0 : l.stackTraces = false) (hT : TyC cA tys) {Q : Sg → Unit → Prop} {X : Sg → String → Prop} (σ : Sg) (th : Nat) (hth : kO σ th 6) (hG : RG σ) (hY : TY σ) (h : wp_X6_newValue th σ Q X) : Ok l D cA tys A yX6_newValue (.code yX6_newValue cX6_newValue 1 none) 0 0 [.ref th] σ (QcV σ Q) (QxC σ X) := by
  unfold wp_X6_newValue at h
  exact oc_V hl0 (by decide) (by exact Nat.le_of_ble_eq_true rfl) hT (fun p e R s m args below meth c K hQ hX hTh hin9 H locs ls hH hl hc => a_X6_newValue_0 K hQ hX hTh σ h hG hY (Ext.rfl' σ) hth H locs ls hH (lv_sub (l' := [(0, .ref th)]) hl [0] rfl) hc)
theorem dX6_aggregates_0 : decode cX6_aggregates 0 = .ok (.iconst 0, 1) := by decide +kernel
theorem dX6_aggregates_1 : decode cX6_aggregates 1 = .ok (.istore_n 1, 1) := by decide +kernel
theorem dX6_aggregates_2 : decode cX6_aggregates 2 = .ok (.iload_n 1, 1) := by decide +kernel
theorem dX6_aggregates_3 : decode cX6_aggregates 3 = .ok (.iconst 4, 1) := by decide +kernel
theorem dX6_aggregates_4 : decode cX6_aggregates 4 = .ok (.if_icmp .gt 122, 3) := by decide +kernel
theorem dX6_aggregates_7 : decode cX6_aggregates 7 = .ok (.aload_n 0, 1) := by decide +kernel
theorem dX6_aggregates_8 : decode cX6_aggregates 8 = .ok (.iconst 5, 1) := by decide +kernel
theorem dX6_aggregates_9 : decode cX6_aggregates 9 = .ok (.invokevirtual 143, 3) := by decide +kernel
theorem dX6_aggregates_12 : decode cX6_aggregates 12 = .ok (.aload_n 0, 1) := by decide +kernel
theorem dX6_aggregates_13 : decode cX6_aggregates 13 = .ok (.bipush 61, 2) := by decide +kernel
theorem dX6_aggregates_15 : decode cX6_aggregates 15 = .ok (.invokevirtual 57, 3) := by decide +kernel
theorem dX6_aggregates_18 : decode cX6_aggregates 18 = .ok (.aload_n 0, 1) := by decide +kernel
theorem dX6_aggregates_19 : decode cX6_aggregates 19 = .ok (.getfield 43, 3) := by decide +kernel
theorem dX6_aggregates_22 : decode cX6_aggregates 22 = .ok (.iconst 2, 1) := by decide +kernel
theorem dX6_aggregates_23 : decode cX6_aggregates 23 = .ok (.if_icmp .ne 25, 3) := by decide +kernel
theorem dX6_aggregates_26 : decode cX6_aggregates 26 = .ok (.aload_n 0, 1) := by decide +kernel
theorem dX6_aggregates_27 : decode cX6_aggregates 27 = .ok (.getfield 73, 3) := by decide +kernel
theorem dX6_aggregates_30 : decode cX6_aggregates 30 = .ok (.ldc2_w 202, 3) := by decide +kernel
theorem dX6_aggregates_33 : decode cX6_aggregates 33 = .ok (.lcmp, 1) := by decide +kernel
theorem dX6_aggregates_34 : decode cX6_aggregates 34 = .ok (.ifCond .lt 14, 3) := by decide +kernel
theorem dX6_aggregates_37 : decode cX6_aggregates 37 = .ok (.aload_n 0, 1) := by decide +kernel
theorem dX6_aggregates_38 : decode cX6_aggregates 38 = .ok (.getfield 73, 3) := by decide +kernel
theorem dX6_aggregates_41 : decode cX6_aggregates 41 = .ok (.ldc2_w 204, 3) := by decide +kernel
theorem dX6_aggregates_44 : decode cX6_aggregates 44 = .ok (.lcmp, 1) := by decide +kernel
theorem dX6_aggregates_45 : decode cX6_aggregates 45 = .ok (.ifCond .le 7, 3) := by decide +kernel
theorem dX6_aggregates_48 : decode cX6_aggregates 48 = .ok (.aload_n 0, 1) := by decide +kernel
theorem dX6_aggregates_49 : decode cX6_aggregates 49 = .ok (.invokevirtual 70, 3) := by decide +kernel
theorem dX6_aggregates_52 : decode cX6_aggregates 52 = .ok (.iconst 0, 1) := by decide +kernel
theorem dX6_aggregates_53 : decode cX6_aggregates 53 = .ok (.aload_n 0, 1) := by decide +kernel
theorem dX6_aggregates_54 : decode cX6_aggregates 54 = .ok (.getfield 73, 3) := by decide +kernel
theorem dX6_aggregates_57 : decode cX6_aggregates 57 = .ok (.l2i, 1) := by decide +kernel
theorem dX6_aggregates_58 : decode cX6_aggregates 58 = .ok (.iadd, 1) := by decide +kernel
theorem dX6_aggregates_59 : decode cX6_aggregates 59 = .ok (.bipush 18, 2) := by decide +kernel
theorem dX6_aggregates_61 : decode cX6_aggregates 61 = .ok (.isub, 1) := by decide +kernel
theorem dX6_aggregates_62 : decode cX6_aggregates 62 = .ok (.istore_n 2, 1) := by decide +kernel
theorem dX6_aggregates_63 : decode cX6_aggregates 63 = .ok (.aload_n 0, 1) := by decide +kernel
theorem dX6_aggregates_64 : decode cX6_aggregates 64 = .ok (.getfield 88, 3) := by decide +kernel
theorem dX6_aggregates_67 : decode cX6_aggregates 67 = .ok (.getfield 206, 3) := by decide +kernel
theorem dX6_aggregates_70 : decode cX6_aggregates 70 = .ok (.aload_n 0, 1) := by decide +kernel
theorem dX6_aggregates_71 : decode cX6_aggregates 71 = .ok (.getfield 88, 3) := by decide +kernel
theorem dX6_aggregates_74 : decode cX6_aggregates 74 = .ok (.getfield 208, 3) := by decide +kernel
theorem dX6_aggregates_77 : decode cX6_aggregates 77 = .ok (.iload_n 2, 1) := by decide +kernel
theorem dX6_aggregates_78 : decode cX6_aggregates 78 = .ok (.iastore, 1) := by decide +kernel
theorem dX6_aggregates_79 : decode cX6_aggregates 79 = .ok (.aload_n 0, 1) := by decide +kernel
theorem dX6_aggregates_80 : decode cX6_aggregates 80 = .ok (.invokevirtual 40, 3) := by decide +kernel
theorem dX6_aggregates_83 : decode cX6_aggregates 83 = .ok (.aload_n 0, 1) := by decide +kernel
theorem dX6_aggregates_84 : decode cX6_aggregates 84 = .ok (.invokevirtual 162, 3) := by decide +kernel
theorem dX6_aggregates_87 : decode cX6_aggregates 87 = .ok (.iload_n 2, 1) := by decide +kernel
theorem dX6_aggregates_88 : decode cX6_aggregates 88 = .ok (.ifCond .eq 18, 3) := by decide +kernel
theorem dX6_aggregates_91 : decode cX6_aggregates 91 = .ok (.aload_n 0, 1) := by decide +kernel
theorem dX6_aggregates_92 : decode cX6_aggregates 92 = .ok (.iconst 0, 1) := by decide +kernel
theorem dX6_aggregates_93 : decode cX6_aggregates 93 = .ok (.invokevirtual 165, 3) := by decide +kernel
theorem dX6_aggregates_96 : decode cX6_aggregates 96 = .ok (.aload_n 0, 1) := by decide +kernel
theorem dX6_aggregates_97 : decode cX6_aggregates 97 = .ok (.getfield 31, 3) := by decide +kernel
theorem dX6_aggregates_100 : decode cX6_aggregates 100 = .ok (.iconst 0, 1) := by decide +kernel
theorem dX6_aggregates_101 : decode cX6_aggregates 101 = .ok (.lconst 0, 1) := by decide +kernel
theorem dX6_aggregates_102 : decode cX6_aggregates 102 = .ok (.invokevirtual 167, 3) := by decide +kernel
theorem dX6_aggregates_105 : decode cX6_aggregates 105 = .ok (.pop, 1) := by decide +kernel
theorem dX6_aggregates_106 : decode cX6_aggregates 106 = .ok (.aload_n 0, 1) := by decide +kernel
theorem dX6_aggregates_107 : decode cX6_aggregates 107 = .ok (.bipush 44, 2) := by decide +kernel
theorem dX6_aggregates_109 : decode cX6_aggregates 109 = .ok (.invokevirtual 171, 3) := by decide +kernel
theorem dX6_aggregates_112 : decode cX6_aggregates 112 = .ok (.ifCond .ne 4, 3) := by decide +kernel
theorem dX6_aggregates_115 : decode cX6_aggregates 115 = .ok (.return_, 1) := by decide +kernel
theorem dX6_aggregates_116 : decode cX6_aggregates 116 = .ok (.aload_n 0, 1) := by decide +kernel
theorem dX6_aggregates_117 : decode cX6_aggregates 117 = .ok (.invokevirtual 40, 3) := by decide +kernel
theorem dX6_aggregates_120 : decode cX6_aggregates 120 = .ok (.iinc 1 1, 3) := by decide +kernel
theorem dX6_aggregates_123 : decode cX6_aggregates 123 = .ok (.goto (-121), 3) := by decide +kernel
theorem dX6_aggregates_126 : decode cX6_aggregates 126 = .ok (.return_, 1) := by decide +kernel
set_option maxRecDepth 20000 in
theorem a_X6_aggregates_126 {Q : Sg → Unit → Prop} {X : Sg → String → Prop} {th : Nat} (K : MD l R p s m args c cX6_aggregates 3 RX6 D cA tys A n0 s0 161 11223 []) (hQ : CQV p l e R s m args below meth c cX6_aggregates D cA A n0 s0 QM σi Q) (hX : CX p l e R s m args below meth c 3 D cA A n0 s0 QM σi X) (hTh : CT p l e R s m args below meth c cX6_aggregates 3 D cA A n0 s0 QM σi RX6 X) : ∀ (σ : Sg), w_X6_aggregates_126 th Q X σ → RG σ → TY σ → Ext σi σ → kO σ th 6 → JJ p l e R s m args below meth c 3 D cA A n0 s0 QM σ 126 [(0, .ref th)] [] := by
  intro σ h hGσ hYσ hE hth H locs ls hH hl hc
  have B := K.1
  have hl9 := K.2.2.2.2.2.2
  unfold w_X6_aggregates_126 at h
  exact hQ _ _ _ _ _ dX6_aggregates_126 hH hc h hGσ hYσ hE
set_option maxRecDepth 20000 in
theorem a_X6_aggregates_116 {Q : Sg → Unit → Prop} {X : Sg → String → Prop} {th : Nat} (K : MD l R p s m args c cX6_aggregates 3 RX6 D cA tys A n0 s0 161 11223 []) (hQ : CQV p l e R s m args below meth c cX6_aggregates D cA A n0 s0 QM σi Q) (hX : CX p l e R s m args below meth c 3 D cA A n0 s0 QM σi X) (hTh : CT p l e R s m args below meth c cX6_aggregates 3 D cA A n0 s0 QM σi RX6 X) {K2 : Sg → Int → Prop} (hK2 : ∀ (σ : Sg) (v1 : Int) (g1 : rng v1), K2 σ v1 → RG σ → TY σ → Ext σi σ → kO σ th 6 → JJ p l e R s m args below meth c 3 D cA A n0 s0 QM σ 2 [(0, .ref th), (1, .int (i32 v1))] []) : ∀ (σ : Sg) (v1 : Int) (g1 : rng v1), w_X6_aggregates_116 th K2 Q X σ v1 → RG σ → TY σ → Ext σi σ → kO σ th 6 → JJ p l e R s m args below meth c 3 D cA A n0 s0 QM σ 116 [(0, .ref th), (1, .int (i32 v1))] [] := by
  intro σ v1 g1 h hGσ hYσ hE hth H locs ls hH hl hc
  have B := K.1
  have hl9 := K.2.2.2.2.2.2
  unfold w_X6_aggregates_116 at h
  refine lv_aload_n B.1 B.2.1 dX6_aggregates_116 rfl (lv_at hl 0 rfl) ?_
  refine W.eq (g2 := F0 m 117 ls [.ref th]) (rfl) ?_
  refine c_V B hH hl hc K.2.2.1 (C := RX6) (T := TX6) (N := 9) (ci := 6) (As := []) (ok_X6_next hl9 K.2.1 σ th hth hGσ hYσ h) wc_X6_40 0 hd_X6_next ⟨Nat.le_trans (Nat.le_of_ble_eq_true rfl) K.2.2.2.1, Nat.le_trans (Nat.le_of_ble_eq_true rfl) K.2.2.2.2.1⟩ hth.1 hth.2 (by decide) rfl rfl (rest := []) rfl (Nat.le_of_ble_eq_true rfl) dX6_aggregates_117 (fun σ31 w hq => ?_) (fun σ9 E9 hx9 => hX σ9 E9 _ _ _ (tb_out K.2.2.2.2.2.1 rfl) hx9.1 hx9.2.1 hx9.2.2.1 (hE.trans hx9.2.2.2))
  obtain ⟨rfl, h, hGσ31, hYσ31, xσ31⟩ := hq
  have h := h xσ31
  intro H locs ls hH hl hc
  refine W.eq (g2 := F0 m 120 ls []) (rfl) ?_
  try dsimp only at h
  obtain ⟨q1, h⟩ := h
  refine lv_iinc (k := 1) (v := i32 (v1 + 1)) (lv' := [(1, .int (i32 (v1 + 1))), (0, .ref th)]) B.1 B.2.1 dX6_aggregates_120 hl rfl (i32_add _ _) (by decide) rfl (fun ls hl => ?_)
  refine lv_goto (tgt := 2) B.1 B.2.1 dX6_aggregates_123 (by decide) ?_
  exact hK2 _ _ q1 h hGσ31 hYσ31 (hE.trans xσ31) (hth.up xσ31) _ _ _ hH (lv_sub (l' := [(0, .ref th), (1, .int (i32 (v1 + 1)))]) hl [1, 0] rfl) hc
set_option maxRecDepth 20000 in
theorem a_X6_aggregates_115 {Q : Sg → Unit → Prop} {X : Sg → String → Prop} {th : Nat} (K : MD l R p s m args c cX6_aggregates 3 RX6 D cA tys A n0 s0 161 11223 []) (hQ : CQV p l e R s m args below meth c cX6_aggregates D cA A n0 s0 QM σi Q) (hX : CX p l e R s m args below meth c 3 D cA A n0 s0 QM σi X) (hTh : CT p l e R s m args below meth c cX6_aggregates 3 D cA A n0 s0 QM σi RX6 X) : ∀ (σ : Sg), w_X6_aggregates_115 th Q X σ → RG σ → TY σ → Ext σi σ → kO σ th 6 → JJ p l e R s m args below meth c 3 D cA A n0 s0 QM σ 115 [(0, .ref th)] [] := by
  intro σ h hGσ hYσ hE hth H locs ls hH hl hc
  have B := K.1
  have hl9 := K.2.2.2.2.2.2
  unfold w_X6_aggregates_115 at h
  exact hQ _ _ _ _ _ dX6_aggregates_115 hH hc h hGσ hYσ hE
set_option maxRecDepth 20000 in
theorem a_X6_aggregates_106 {Q : Sg → Unit → Prop} {X : Sg → String → Prop} {th : Nat} (K : MD l R p s m args c cX6_aggregates 3 RX6 D cA tys A n0 s0 161 11223 []) (hQ : CQV p l e R s m args below meth c cX6_aggregates D cA A n0 s0 QM σi Q) (hX : CX p l e R s m args below meth c 3 D cA A n0 s0 QM σi X) (hTh : CT p l e R s m args below meth c cX6_aggregates 3 D cA A n0 s0 QM σi RX6 X) {K2 : Sg → Int → Prop} (hK2 : ∀ (σ : Sg) (v1 : Int) (g1 : rng v1), K2 σ v1 → RG σ → TY σ → Ext σi σ → kO σ th 6 → JJ p l e R s m args below meth c 3 D cA A n0 s0 QM σ 2 [(0, .ref th), (1, .int (i32 v1))] []) : ∀ (σ : Sg) (v1 : Int) (g1 : rng v1), w_X6_aggregates_106 th K2 Q X σ v1 → RG σ → TY σ → Ext σi σ → kO σ th 6 → JJ p l e R s m args below meth c 3 D cA A n0 s0 QM σ 106 [(0, .ref th), (1, .int (i32 v1))] [] := by
  intro σ v1 g1 h hGσ hYσ hE hth H locs ls hH hl hc
  have B := K.1
  have hl9 := K.2.2.2.2.2.2
  unfold w_X6_aggregates_106 at h
  refine lv_aload_n B.1 B.2.1 dX6_aggregates_106 rfl (lv_at hl 0 rfl) ?_
  refine lv_bipush (v := i32 44) B.1 B.2.1 dX6_aggregates_107 (by decide) ?_
  refine W.eq (g2 := F0 m 109 ls [.int (i32 44), .ref th]) (rfl) ?_
  refine c_V B hH hl hc K.2.2.1 (C := RX6) (T := TX6) (N := 9) (ci := 6) (As := [.int (i32 44)]) (ok_X6_isSign hl9 K.2.1 σ th 44 (by unfold rng; omega) hth hGσ hYσ h) wc_X6_171 1 hd_X6_isSign ⟨Nat.le_trans (Nat.le_of_ble_eq_true rfl) K.2.2.2.1, Nat.le_trans (Nat.le_of_ble_eq_true rfl) K.2.2.2.2.1⟩ hth.1 hth.2 (by decide) rfl rfl (rest := []) rfl (Nat.le_of_ble_eq_true rfl) dX6_aggregates_109 (fun σ32 w hq => ?_) (fun σ9 E9 hx9 => hX σ9 E9 _ _ _ (tb_out K.2.2.2.2.2.1 rfl) hx9.1 hx9.2.1 hx9.2.2.1 (hE.trans hx9.2.2.2))
  obtain ⟨r33, rfl, ⟨gr33, gzr33⟩, h, hGσ32, hYσ32, xσ32⟩ := hq
  have h := h xσ32
  intro H locs ls hH hl hc
  refine W.eq (g2 := F0 m 112 ls [.int (i32 r33)]) (rfl) ?_
  try dsimp only at h
  refine lv_if_ne (tgt := 116) B.1 B.2.1 dX6_aggregates_112 (by decide) (fun h9 => ?_) (fun h9 => ?_)
  · rw [if_pos (fun q => h9 ((z_eq gr33).mpr q))] at h
    exact a_X6_aggregates_116 K hQ hX hTh hK2 _ _ g1 h hGσ32 hYσ32 (hE.trans xσ32) (hth.up xσ32) _ _ _ hH (lv_sub (l' := [(0, .ref th), (1, .int (i32 v1))]) hl [0, 1] rfl) hc
  · rw [if_neg (fun q => q ((z_eq gr33).mp h9))] at h
    exact a_X6_aggregates_115 K hQ hX hTh _ h hGσ32 hYσ32 (hE.trans xσ32) (hth.up xσ32) _ _ _ hH (lv_sub (l' := [(0, .ref th)]) hl [0] rfl) hc
set_option maxRecDepth 20000 in
theorem a_X6_aggregates_91 {Q : Sg → Unit → Prop} {X : Sg → String → Prop} {th : Nat} (K : MD l R p s m args c cX6_aggregates 3 RX6 D cA tys A n0 s0 161 11223 []) (hQ : CQV p l e R s m args below meth c cX6_aggregates D cA A n0 s0 QM σi Q) (hX : CX p l e R s m args below meth c 3 D cA A n0 s0 QM σi X) (hTh : CT p l e R s m args below meth c cX6_aggregates 3 D cA A n0 s0 QM σi RX6 X) {K2 : Sg → Int → Prop} (hK2 : ∀ (σ : Sg) (v1 : Int) (g1 : rng v1), K2 σ v1 → RG σ → TY σ → Ext σi σ → kO σ th 6 → JJ p l e R s m args below meth c 3 D cA A n0 s0 QM σ 2 [(0, .ref th), (1, .int (i32 v1))] []) : ∀ (σ : Sg) (v1 : Int) (g1 : rng v1), w_X6_aggregates_91 th K2 Q X σ v1 → RG σ → TY σ → Ext σi σ → kO σ th 6 → JJ p l e R s m args below meth c 3 D cA A n0 s0 QM σ 91 [(0, .ref th), (1, .int (i32 v1))] [] := by
  intro σ v1 g1 h hGσ hYσ hE hth H locs ls hH hl hc
  have B := K.1
  have hl9 := K.2.2.2.2.2.2
  unfold w_X6_aggregates_91 at h
  refine lv_aload_n B.1 B.2.1 dX6_aggregates_91 rfl (lv_at hl 0 rfl) ?_
  refine lv_iconst (v := i32 0) B.1 B.2.1 dX6_aggregates_92 (by decide) ?_
  refine W.eq (g2 := F0 m 93 ls [.int (i32 0), .ref th]) (rfl) ?_
  refine c_V B hH hl hc K.2.2.1 (C := RX6) (T := TX6) (N := 9) (ci := 6) (As := [.int (i32 0)]) (ok_X6_value hl9 K.2.1 σ th 0 (by unfold rng; omega) hth hGσ hYσ h) wc_X6_165 1 hd_X6_value ⟨Nat.le_trans (Nat.le_of_ble_eq_true rfl) K.2.2.2.1, Nat.le_trans (Nat.le_of_ble_eq_true rfl) K.2.2.2.2.1⟩ hth.1 hth.2 (by decide) rfl rfl (rest := []) rfl (Nat.le_of_ble_eq_true rfl) dX6_aggregates_93 (fun σ34 w hq => ?_) (fun σ9 E9 hx9 => hX σ9 E9 _ _ _ (tb_out K.2.2.2.2.2.1 rfl) hx9.1 hx9.2.1 hx9.2.2.1 (hE.trans hx9.2.2.2))
  obtain ⟨rfl, h, hGσ34, hYσ34, xσ34⟩ := hq
  have h := h xσ34
  intro H locs ls hH hl hc
  refine W.eq (g2 := F0 m 96 ls []) (rfl) ?_
  try dsimp only at h
  refine lv_aload_n B.1 B.2.1 dX6_aggregates_96 rfl (lv_at hl 0 rfl) ?_
  refine f_getp B hH (hth.up xσ34) (by decide) rfl wu_X6 7 (by decide) wf_X6_31 rfl rfl dX6_aggregates_97 ?_
  refine lv_iconst (v := i32 0) B.1 B.2.1 dX6_aggregates_100 (by decide) ?_
  refine lv_lconst (v := 0) B.1 B.2.1 dX6_aggregates_101 (by decide) ?_
  obtain ⟨a37, ea37, h⟩ := h
  have ka37 : kO σ34 a37 4 := (hYσ34.get (hth.up xσ34) (by decide)) a37 ea37
  have h := h ka37
  refine W.eq (g2 := F0 m 102 ls [.long 0, .int (i32 0), .ref a37]) (by rw [ea37]; rfl) ?_
  refine c_V B hH hl hc K.2.2.1 (C := RX4) (T := TX4) (N := 14) (ci := 4) (As := [.int (i32 0), .long 0]) (ok_X4_emit hl9 K.2.1 σ34 a37 0 0 (by unfold rng; omega) ka37 hGσ34 hYσ34 h) wc_X6_167 2 hd_X4_emit ⟨Nat.le_trans (Nat.le_of_ble_eq_true rfl) K.2.2.2.1, Nat.le_trans (Nat.le_of_ble_eq_true rfl) K.2.2.2.2.1⟩ ka37.1 ka37.2 (by decide) rfl rfl (rest := []) rfl (Nat.le_of_ble_eq_true rfl) dX6_aggregates_102 (fun σ35 w hq => ?_) (fun σ9 E9 hx9 => hX σ9 E9 _ _ _ (tb_out K.2.2.2.2.2.1 rfl) hx9.1 hx9.2.1 hx9.2.2.1 ((hE.trans xσ34).trans hx9.2.2.2))
  obtain ⟨r36, rfl, gr36, h, hGσ35, hYσ35, xσ35⟩ := hq
  have h := h xσ35
  intro H locs ls hH hl hc
  refine W.eq (g2 := F0 m 105 ls [.int (i32 r36)]) (rfl) ?_
  try dsimp only at h
  refine lv_pop B.1 B.2.1 dX6_aggregates_105 rfl ?_
  exact a_X6_aggregates_106 K hQ hX hTh hK2 _ _ g1 h hGσ35 hYσ35 ((hE.trans xσ34).trans xσ35) (hth.up (xσ34.trans xσ35)) _ _ _ hH (lv_sub (l' := [(0, .ref th), (1, .int (i32 v1))]) hl [0, 1] rfl) hc
set_option maxRecDepth 20000 in
theorem a_X6_aggregates_52 {Q : Sg → Unit → Prop} {X : Sg → String → Prop} {th : Nat} (K : MD l R p s m args c cX6_aggregates 3 RX6 D cA tys A n0 s0 161 11223 []) (hQ : CQV p l e R s m args below meth c cX6_aggregates D cA A n0 s0 QM σi Q) (hX : CX p l e R s m args below meth c 3 D cA A n0 s0 QM σi X) (hTh : CT p l e R s m args below meth c cX6_aggregates 3 D cA A n0 s0 QM σi RX6 X) {K2 : Sg → Int → Prop} (hK2 : ∀ (σ : Sg) (v1 : Int) (g1 : rng v1), K2 σ v1 → RG σ → TY σ → Ext σi σ → kO σ th 6 → JJ p l e R s m args below meth c 3 D cA A n0 s0 QM σ 2 [(0, .ref th), (1, .int (i32 v1))] []) : ∀ (σ : Sg) (v1 : Int) (g1 : rng v1), w_X6_aggregates_52 th K2 Q X σ v1 → RG σ → TY σ → Ext σi σ → kO σ th 6 → JJ p l e R s m args below meth c 3 D cA A n0 s0 QM σ 52 [(0, .ref th), (1, .int (i32 v1))] [] := by
  intro σ v1 g1 h hGσ hYσ hE hth H locs ls hH hl hc
  have B := K.1
  have hl9 := K.2.2.2.2.2.2
  unfold w_X6_aggregates_52 at h
  refine lv_iconst (v := i32 0) B.1 B.2.1 dX6_aggregates_52 (by decide) ?_
  refine lv_aload_n B.1 B.2.1 dX6_aggregates_53 rfl (lv_at hl 0 rfl) ?_
  refine f_getl B hH hth (by decide) rfl wu_X6 4 (by decide) wf_X6_73 rfl rfl dX6_aggregates_54 ?_
  refine lv_l2i B.1 B.2.1 dX6_aggregates_57 rfl ?_
  refine W.eq (g2 := F0 m 58 ls [.int (i32 ((gJ σ th 4).toInt32.toInt)), .int (i32 0)]) (by simp only [i32_self]) ?_
  refine lv_iadd B.1 B.2.1 dX6_aggregates_58 ?_
  rw [i32_add]
  refine W.eq (g2 := F0 m 59 ls [.int (i32 (wr (0 + (gJ σ th 4).toInt32.toInt)))]) (by rw [i32_wr]) ?_
  refine lv_bipush (v := i32 18) B.1 B.2.1 dX6_aggregates_59 (by decide) ?_
  refine lv_isub B.1 B.2.1 dX6_aggregates_61 ?_
  rw [i32_sub]
  refine W.eq (g2 := F0 m 62 ls [.int (i32 (wr ((wr (0 + (gJ σ th 4).toInt32.toInt)) - 18)))]) (by rw [i32_wr]) ?_
  refine lv_istore_n (lv' := [(2, .int (i32 (wr ((wr (0 + (gJ σ th 4).toInt32.toInt)) - 18)))), (0, .ref th), (1, .int (i32 v1))]) B.1 B.2.1 dX6_aggregates_62 rfl hl (by decide) rfl (fun ls hl => ?_)
  refine lv_aload_n B.1 B.2.1 dX6_aggregates_63 rfl (lv_at hl 1 rfl) ?_
  refine f_getp B hH hth (by decide) rfl wu_X6 8 (by decide) wf_X6_88 rfl rfl dX6_aggregates_64 ?_
  obtain ⟨a38, ea38, h⟩ := h
  have ka38 : kO σ a38 5 := (hYσ.get hth (by decide)) a38 ea38
  have h := h ka38
  refine W.eq (g2 := F0 m 67 ls [.ref a38]) (by rw [ea38]; rfl) ?_
  refine f_getp B hH ka38 (by decide) rfl wu_X5 2 (by decide) wf_X6_206 rfl rfl dX6_aggregates_67 ?_
  refine lv_aload_n B.1 B.2.1 dX6_aggregates_70 rfl (lv_at hl 1 rfl) ?_
  refine f_getp B hH hth (by decide) rfl wu_X6 8 (by decide) wf_X6_88 rfl rfl dX6_aggregates_71 ?_
  refine W.eq (g2 := F0 m 74 ls [.ref a38, va_rf (gP σ a38 2)]) (by rw [ea38]; rfl) ?_
  refine f_geti B hH ka38 (by decide) rfl wu_X5 4 (by decide) wf_X6_208 rfl rfl dX6_aggregates_74 ?_
  refine lv_iload_n B.1 B.2.1 dX6_aggregates_77 rfl (lv_at hl 0 rfl) ?_
  obtain ⟨a39, ea39, h⟩ := h
  have ka39 : kO σ a39 100 := (hYσ.get ka38 (by decide)) a39 ea39
  have h := h ka39
  obtain ⟨q1, h⟩ := h
  obtain ⟨σ40, eσ40⟩ : ∃ z, z = pI σ a39 (gI σ a38 4).toNat (wr ((wr (0 + (gJ σ th 4).toInt32.toInt)) - 18)) := ⟨_, rfl⟩
  have h := h σ40 eσ40
  refine W.eq (g2 := F0 m 78 ls [.int (i32 (wr ((wr (0 + (gJ σ th 4).toInt32.toInt)) - 18))), .int (i32 (gI σ a38 4)), .ref a39]) (by rw [ea39]; rfl) ?_
  refine y_iast B K.2.1 hH ka39 q1 dX6_aggregates_78 (hYσ.2 _) (fun H locs hH => ?_)
  have hH : Hd D cA A s (pI σ a39 (gI σ a38 4).toNat (wr ((wr (0 + (gJ σ th 4).toInt32.toInt)) - 18))) H locs := hH
  rw [← eσ40] at hH
  have hGσ40 : RG σ40 := by rw [eσ40]; exact hGσ.pI (rng_wr _)
  have hYσ40 : TY σ40 := by rw [eσ40]; exact hYσ.pI
  have xσ40 : Ext σ σ40 := by rw [eσ40]; exact Ext.pI
  have hc : CB n0 s0 σ40 := by rw [eσ40]; exact hc
  rw [show gc σ = gc σ40 by rw [eσ40]; try rfl, show gs σ = gs σ40 by rw [eσ40]; try rfl]
  refine lv_aload_n B.1 B.2.1 dX6_aggregates_79 rfl (lv_at hl 1 rfl) ?_
  refine W.eq (g2 := F0 m 80 ls [.ref th]) (rfl) ?_
  refine c_V B hH hl hc K.2.2.1 (C := RX6) (T := TX6) (N := 9) (ci := 6) (As := []) (ok_X6_next hl9 K.2.1 σ40 th (hth.up xσ40) hGσ40 hYσ40 h) wc_X6_40 0 hd_X6_next ⟨Nat.le_trans (Nat.le_of_ble_eq_true rfl) K.2.2.2.1, Nat.le_trans (Nat.le_of_ble_eq_true rfl) K.2.2.2.2.1⟩ (hth.up xσ40).1 (hth.up xσ40).2 (by decide) rfl rfl (rest := []) rfl (Nat.le_of_ble_eq_true rfl) dX6_aggregates_80 (fun σ41 w hq => ?_) (fun σ9 E9 hx9 => hX σ9 E9 _ _ _ (tb_out K.2.2.2.2.2.1 rfl) hx9.1 hx9.2.1 hx9.2.2.1 ((hE.trans xσ40).trans hx9.2.2.2))
  obtain ⟨rfl, h, hGσ41, hYσ41, xσ41⟩ := hq
  have h := h xσ41
  intro H locs ls hH hl hc
  refine W.eq (g2 := F0 m 83 ls []) (rfl) ?_
  try dsimp only at h
  refine lv_aload_n B.1 B.2.1 dX6_aggregates_83 rfl (lv_at hl 1 rfl) ?_
  refine W.eq (g2 := F0 m 84 ls [.ref th]) (rfl) ?_
  refine c_V B hH hl hc K.2.2.1 (C := RX6) (T := TX6) (N := 9) (ci := 6) (As := []) (ok_X6_newValue hl9 K.2.1 σ41 th (hth.up (xσ40.trans xσ41)) hGσ41 hYσ41 h) wc_X6_162 0 hd_X6_newValue ⟨Nat.le_trans (Nat.le_of_ble_eq_true rfl) K.2.2.2.1, Nat.le_trans (Nat.le_of_ble_eq_true rfl) K.2.2.2.2.1⟩ (hth.up (xσ40.trans xσ41)).1 (hth.up (xσ40.trans xσ41)).2 (by decide) rfl rfl (rest := []) rfl (Nat.le_of_ble_eq_true rfl) dX6_aggregates_84 (fun σ42 w hq => ?_) (fun σ9 E9 hx9 => hX σ9 E9 _ _ _ (tb_out K.2.2.2.2.2.1 rfl) hx9.1 hx9.2.1 hx9.2.2.1 (((hE.trans xσ40).trans xσ41).trans hx9.2.2.2))
  obtain ⟨rfl, h, hGσ42, hYσ42, xσ42⟩ := hq
  have h := h xσ42
  intro H locs ls hH hl hc
  refine W.eq (g2 := F0 m 87 ls []) (rfl) ?_
  try dsimp only at h
  refine lv_iload_n B.1 B.2.1 dX6_aggregates_87 rfl (lv_at hl 0 rfl) ?_
  refine lv_if_eq (tgt := 106) B.1 B.2.1 dX6_aggregates_88 (by decide) (fun h9 => ?_) (fun h9 => ?_)
  · rw [if_pos ((z_eq (rng_wr _)).mp h9)] at h
    exact a_X6_aggregates_106 K hQ hX hTh hK2 _ _ g1 h hGσ42 hYσ42 (((hE.trans xσ40).trans xσ41).trans xσ42) (hth.up (xσ40.trans (xσ41.trans xσ42))) _ _ _ hH (lv_sub (l' := [(0, .ref th), (1, .int (i32 v1))]) hl [1, 2] rfl) hc
  · rw [if_neg (fun q => h9 ((z_eq (rng_wr _)).mpr q))] at h
    exact a_X6_aggregates_91 K hQ hX hTh hK2 _ _ g1 h hGσ42 hYσ42 (((hE.trans xσ40).trans xσ41).trans xσ42) (hth.up (xσ40.trans (xσ41.trans xσ42))) _ _ _ hH (lv_sub (l' := [(0, .ref th), (1, .int (i32 v1))]) hl [1, 2] rfl) hc
set_option maxRecDepth 20000 in
theorem a_X6_aggregates_48 {Q : Sg → Unit → Prop} {X : Sg → String → Prop} {th : Nat} (K : MD l R p s m args c cX6_aggregates 3 RX6 D cA tys A n0 s0 161 11223 []) (hQ : CQV p l e R s m args below meth c cX6_aggregates D cA A n0 s0 QM σi Q) (hX : CX p l e R s m args below meth c 3 D cA A n0 s0 QM σi X) (hTh : CT p l e R s m args below meth c cX6_aggregates 3 D cA A n0 s0 QM σi RX6 X) {K2 : Sg → Int → Prop} (hK2 : ∀ (σ : Sg) (v1 : Int) (g1 : rng v1), K2 σ v1 → RG σ → TY σ → Ext σi σ → kO σ th 6 → JJ p l e R s m args below meth c 3 D cA A n0 s0 QM σ 2 [(0, .ref th), (1, .int (i32 v1))] []) : ∀ (σ : Sg) (v1 : Int) (g1 : rng v1), w_X6_aggregates_48 th K2 Q X σ v1 → RG σ → TY σ → Ext σi σ → kO σ th 6 → JJ p l e R s m args below meth c 3 D cA A n0 s0 QM σ 48 [(0, .ref th), (1, .int (i32 v1))] [] := by
  intro σ v1 g1 h hGσ hYσ hE hth H locs ls hH hl hc
  have B := K.1
  have hl9 := K.2.2.2.2.2.2
  unfold w_X6_aggregates_48 at h
  refine lv_aload_n B.1 B.2.1 dX6_aggregates_48 rfl (lv_at hl 0 rfl) ?_
  refine W.eq (g2 := F0 m 49 ls [.ref th]) (rfl) ?_
  refine c_V B hH hl hc K.2.2.1 (C := RX6) (T := TX6) (N := 9) (ci := 6) (As := []) (ok_X6_cannotStand hl9 K.2.1 σ th hth hGσ hYσ h) wc_X6_70 0 hd_X6_cannotStand ⟨Nat.le_trans (Nat.le_of_ble_eq_true rfl) K.2.2.2.1, Nat.le_trans (Nat.le_of_ble_eq_true rfl) K.2.2.2.2.1⟩ hth.1 hth.2 (by decide) rfl rfl (rest := []) rfl (Nat.le_of_ble_eq_true rfl) dX6_aggregates_49 (fun σ43 w hq => ?_) (fun σ9 E9 hx9 => hX σ9 E9 _ _ _ (tb_out K.2.2.2.2.2.1 rfl) hx9.1 hx9.2.1 hx9.2.2.1 (hE.trans hx9.2.2.2))
  obtain ⟨rfl, h, hGσ43, hYσ43, xσ43⟩ := hq
  have h := h xσ43
  intro H locs ls hH hl hc
  refine W.eq (g2 := F0 m 52 ls []) (rfl) ?_
  try dsimp only at h
  exact a_X6_aggregates_52 K hQ hX hTh hK2 _ _ g1 h hGσ43 hYσ43 (hE.trans xσ43) (hth.up xσ43) _ _ _ hH (lv_sub (l' := [(0, .ref th), (1, .int (i32 v1))]) hl [0, 1] rfl) hc
set_option maxRecDepth 20000 in
theorem a_X6_aggregates_37 {Q : Sg → Unit → Prop} {X : Sg → String → Prop} {th : Nat} (K : MD l R p s m args c cX6_aggregates 3 RX6 D cA tys A n0 s0 161 11223 []) (hQ : CQV p l e R s m args below meth c cX6_aggregates D cA A n0 s0 QM σi Q) (hX : CX p l e R s m args below meth c 3 D cA A n0 s0 QM σi X) (hTh : CT p l e R s m args below meth c cX6_aggregates 3 D cA A n0 s0 QM σi RX6 X) {K2 : Sg → Int → Prop} (hK2 : ∀ (σ : Sg) (v1 : Int) (g1 : rng v1), K2 σ v1 → RG σ → TY σ → Ext σi σ → kO σ th 6 → JJ p l e R s m args below meth c 3 D cA A n0 s0 QM σ 2 [(0, .ref th), (1, .int (i32 v1))] []) : ∀ (σ : Sg) (v1 : Int) (g1 : rng v1), w_X6_aggregates_37 th K2 Q X σ v1 → RG σ → TY σ → Ext σi σ → kO σ th 6 → JJ p l e R s m args below meth c 3 D cA A n0 s0 QM σ 37 [(0, .ref th), (1, .int (i32 v1))] [] := by
  intro σ v1 g1 h hGσ hYσ hE hth H locs ls hH hl hc
  have B := K.1
  have hl9 := K.2.2.2.2.2.2
  unfold w_X6_aggregates_37 at h
  refine lv_aload_n B.1 B.2.1 dX6_aggregates_37 rfl (lv_at hl 0 rfl) ?_
  refine f_getl B hH hth (by decide) rfl wu_X6 4 (by decide) wf_X6_73 rfl rfl dX6_aggregates_38 ?_
  refine lv_ldc2 B.1 B.2.1 B.2.2.1 (B.2.2.2.1 _ (wk_X6_204)) dX6_aggregates_41 ?_
  refine W.lcmp B.1 B.2.1 dX6_aggregates_44 ?_
  refine lv_if_le (tgt := 52) B.1 B.2.1 dX6_aggregates_45 (by decide) (fun h9 => ?_) (fun h9 => ?_)
  · rw [if_pos ((lg_cmp_le _ _).mp h9)] at h
    exact a_X6_aggregates_52 K hQ hX hTh hK2 _ _ g1 h hGσ hYσ hE hth _ _ _ hH (lv_sub (l' := [(0, .ref th), (1, .int (i32 v1))]) hl [0, 1] rfl) hc
  · rw [if_neg (fun q => h9 ((lg_cmp_le _ _).mpr q))] at h
    exact a_X6_aggregates_48 K hQ hX hTh hK2 _ _ g1 h hGσ hYσ hE hth _ _ _ hH (lv_sub (l' := [(0, .ref th), (1, .int (i32 v1))]) hl [0, 1] rfl) hc
set_option maxRecDepth 20000 in
theorem a_X6_aggregates_26 {Q : Sg → Unit → Prop} {X : Sg → String → Prop} {th : Nat} (K : MD l R p s m args c cX6_aggregates 3 RX6 D cA tys A n0 s0 161 11223 []) (hQ : CQV p l e R s m args below meth c cX6_aggregates D cA A n0 s0 QM σi Q) (hX : CX p l e R s m args below meth c 3 D cA A n0 s0 QM σi X) (hTh : CT p l e R s m args below meth c cX6_aggregates 3 D cA A n0 s0 QM σi RX6 X) {K2 : Sg → Int → Prop} (hK2 : ∀ (σ : Sg) (v1 : Int) (g1 : rng v1), K2 σ v1 → RG σ → TY σ → Ext σi σ → kO σ th 6 → JJ p l e R s m args below meth c 3 D cA A n0 s0 QM σ 2 [(0, .ref th), (1, .int (i32 v1))] []) : ∀ (σ : Sg) (v1 : Int) (g1 : rng v1), w_X6_aggregates_26 th K2 Q X σ v1 → RG σ → TY σ → Ext σi σ → kO σ th 6 → JJ p l e R s m args below meth c 3 D cA A n0 s0 QM σ 26 [(0, .ref th), (1, .int (i32 v1))] [] := by
  intro σ v1 g1 h hGσ hYσ hE hth H locs ls hH hl hc
  have B := K.1
  have hl9 := K.2.2.2.2.2.2
  unfold w_X6_aggregates_26 at h
  refine lv_aload_n B.1 B.2.1 dX6_aggregates_26 rfl (lv_at hl 0 rfl) ?_
  refine f_getl B hH hth (by decide) rfl wu_X6 4 (by decide) wf_X6_73 rfl rfl dX6_aggregates_27 ?_
  refine lv_ldc2 B.1 B.2.1 B.2.2.1 (B.2.2.2.1 _ (wk_X6_202)) dX6_aggregates_30 ?_
  refine W.lcmp B.1 B.2.1 dX6_aggregates_33 ?_
  refine lv_if_lt (tgt := 48) B.1 B.2.1 dX6_aggregates_34 (by decide) (fun h9 => ?_) (fun h9 => ?_)
  · rw [if_pos ((lg_cmp_lt _ _).mp h9)] at h
    exact a_X6_aggregates_48 K hQ hX hTh hK2 _ _ g1 h hGσ hYσ hE hth _ _ _ hH (lv_sub (l' := [(0, .ref th), (1, .int (i32 v1))]) hl [0, 1] rfl) hc
  · rw [if_neg (fun q => h9 ((lg_cmp_lt _ _).mpr q))] at h
    exact a_X6_aggregates_37 K hQ hX hTh hK2 _ _ g1 h hGσ hYσ hE hth _ _ _ hH (lv_sub (l' := [(0, .ref th), (1, .int (i32 v1))]) hl [0, 1] rfl) hc
set_option maxRecDepth 20000 in
theorem a_X6_aggregates_7 {Q : Sg → Unit → Prop} {X : Sg → String → Prop} {th : Nat} (K : MD l R p s m args c cX6_aggregates 3 RX6 D cA tys A n0 s0 161 11223 []) (hQ : CQV p l e R s m args below meth c cX6_aggregates D cA A n0 s0 QM σi Q) (hX : CX p l e R s m args below meth c 3 D cA A n0 s0 QM σi X) (hTh : CT p l e R s m args below meth c cX6_aggregates 3 D cA A n0 s0 QM σi RX6 X) {K2 : Sg → Int → Prop} (hK2 : ∀ (σ : Sg) (v1 : Int) (g1 : rng v1), K2 σ v1 → RG σ → TY σ → Ext σi σ → kO σ th 6 → JJ p l e R s m args below meth c 3 D cA A n0 s0 QM σ 2 [(0, .ref th), (1, .int (i32 v1))] []) : ∀ (σ : Sg) (v1 : Int) (g1 : rng v1), w_X6_aggregates_7 th K2 Q X σ v1 → RG σ → TY σ → Ext σi σ → kO σ th 6 → JJ p l e R s m args below meth c 3 D cA A n0 s0 QM σ 7 [(0, .ref th), (1, .int (i32 v1))] [] := by
  intro σ v1 g1 h hGσ hYσ hE hth H locs ls hH hl hc
  have B := K.1
  have hl9 := K.2.2.2.2.2.2
  unfold w_X6_aggregates_7 at h
  refine lv_aload_n B.1 B.2.1 dX6_aggregates_7 rfl (lv_at hl 0 rfl) ?_
  refine lv_iconst (v := i32 5) B.1 B.2.1 dX6_aggregates_8 (by decide) ?_
  refine W.eq (g2 := F0 m 9 ls [.int (i32 5), .ref th]) (rfl) ?_
  refine c_V B hH hl hc K.2.2.1 (C := RX6) (T := TX6) (N := 9) (ci := 6) (As := [.int (i32 5)]) (ok_X6_newColumn hl9 K.2.1 σ th 5 (by unfold rng; omega) hth hGσ hYσ h) wc_X6_143 1 hd_X6_newColumn ⟨Nat.le_trans (Nat.le_of_ble_eq_true rfl) K.2.2.2.1, Nat.le_trans (Nat.le_of_ble_eq_true rfl) K.2.2.2.2.1⟩ hth.1 hth.2 (by decide) rfl rfl (rest := []) rfl (Nat.le_of_ble_eq_true rfl) dX6_aggregates_9 (fun σ44 w hq => ?_) (fun σ9 E9 hx9 => hX σ9 E9 _ _ _ (tb_out K.2.2.2.2.2.1 rfl) hx9.1 hx9.2.1 hx9.2.2.1 (hE.trans hx9.2.2.2))
  obtain ⟨rfl, h, hGσ44, hYσ44, xσ44⟩ := hq
  have h := h xσ44
  intro H locs ls hH hl hc
  refine W.eq (g2 := F0 m 12 ls []) (rfl) ?_
  try dsimp only at h
  refine lv_aload_n B.1 B.2.1 dX6_aggregates_12 rfl (lv_at hl 0 rfl) ?_
  refine lv_bipush (v := i32 61) B.1 B.2.1 dX6_aggregates_13 (by decide) ?_
  refine W.eq (g2 := F0 m 15 ls [.int (i32 61), .ref th]) (rfl) ?_
  refine c_V B hH hl hc K.2.2.1 (C := RX6) (T := TX6) (N := 9) (ci := 6) (As := [.int (i32 61)]) (ok_X6_wantSign hl9 K.2.1 σ44 th 61 (by unfold rng; omega) (hth.up xσ44) hGσ44 hYσ44 h) wc_X6_57 1 hd_X6_wantSign ⟨Nat.le_trans (Nat.le_of_ble_eq_true rfl) K.2.2.2.1, Nat.le_trans (Nat.le_of_ble_eq_true rfl) K.2.2.2.2.1⟩ (hth.up xσ44).1 (hth.up xσ44).2 (by decide) rfl rfl (rest := []) rfl (Nat.le_of_ble_eq_true rfl) dX6_aggregates_15 (fun σ45 w hq => ?_) (fun σ9 E9 hx9 => hX σ9 E9 _ _ _ (tb_out K.2.2.2.2.2.1 rfl) hx9.1 hx9.2.1 hx9.2.2.1 ((hE.trans xσ44).trans hx9.2.2.2))
  obtain ⟨rfl, h, hGσ45, hYσ45, xσ45⟩ := hq
  have h := h xσ45
  intro H locs ls hH hl hc
  refine W.eq (g2 := F0 m 18 ls []) (rfl) ?_
  try dsimp only at h
  refine lv_aload_n B.1 B.2.1 dX6_aggregates_18 rfl (lv_at hl 0 rfl) ?_
  refine f_geti B hH (hth.up (xσ44.trans xσ45)) (by decide) rfl wu_X6 3 (by decide) wf_X6_43 rfl rfl dX6_aggregates_19 ?_
  refine lv_iconst (v := i32 2) B.1 B.2.1 dX6_aggregates_22 (by decide) ?_
  refine lv_icmp_ne (tgt := 48) B.1 B.2.1 dX6_aggregates_23 (by decide) (fun h9 => ?_) (fun h9 => ?_)
  · rw [if_pos (fun q => h9 ((i32_eq (hGσ45 _ _) (by unfold rng; omega)).mpr q))] at h
    exact a_X6_aggregates_48 K hQ hX hTh hK2 _ _ g1 h hGσ45 hYσ45 ((hE.trans xσ44).trans xσ45) (hth.up (xσ44.trans xσ45)) _ _ _ hH (lv_sub (l' := [(0, .ref th), (1, .int (i32 v1))]) hl [0, 1] rfl) hc
  · rw [if_neg (fun q => q ((i32_eq (hGσ45 _ _) (by unfold rng; omega)).mp h9))] at h
    exact a_X6_aggregates_26 K hQ hX hTh hK2 _ _ g1 h hGσ45 hYσ45 ((hE.trans xσ44).trans xσ45) (hth.up (xσ44.trans xσ45)) _ _ _ hH (lv_sub (l' := [(0, .ref th), (1, .int (i32 v1))]) hl [0, 1] rfl) hc
set_option maxRecDepth 20000 in
theorem a_X6_aggregates_2 {Q : Sg → Unit → Prop} {X : Sg → String → Prop} {th : Nat} (K : MD l R p s m args c cX6_aggregates 3 RX6 D cA tys A n0 s0 161 11223 []) (hQ : CQV p l e R s m args below meth c cX6_aggregates D cA A n0 s0 QM σi Q) (hX : CX p l e R s m args below meth c 3 D cA A n0 s0 QM σi X) (hTh : CT p l e R s m args below meth c cX6_aggregates 3 D cA A n0 s0 QM σi RX6 X) {K2 : Sg → Int → Prop} (hK2 : ∀ (σ : Sg) (v1 : Int) (g1 : rng v1), K2 σ v1 → RG σ → TY σ → Ext σi σ → kO σ th 6 → JJ p l e R s m args below meth c 3 D cA A n0 s0 QM σ 2 [(0, .ref th), (1, .int (i32 v1))] []) : ∀ (σ : Sg) (v1 : Int) (g1 : rng v1), w_X6_aggregates_2 th K2 Q X σ v1 → RG σ → TY σ → Ext σi σ → kO σ th 6 → JJ p l e R s m args below meth c 3 D cA A n0 s0 QM σ 2 [(0, .ref th), (1, .int (i32 v1))] [] := by
  intro σ v1 g1 h hGσ hYσ hE hth H locs ls hH hl hc
  have B := K.1
  have hl9 := K.2.2.2.2.2.2
  unfold w_X6_aggregates_2 at h
  refine lv_iload_n B.1 B.2.1 dX6_aggregates_2 rfl (lv_at hl 1 rfl) ?_
  refine lv_iconst (v := i32 4) B.1 B.2.1 dX6_aggregates_3 (by decide) ?_
  refine lv_icmp_gt (tgt := 126) B.1 B.2.1 dX6_aggregates_4 (by decide) (fun h9 => ?_) (fun h9 => ?_)
  · rw [if_pos ((i32_lt (by unfold rng; omega) g1).mp h9)] at h
    exact a_X6_aggregates_126 K hQ hX hTh _ h hGσ hYσ hE hth _ _ _ hH (lv_sub (l' := [(0, .ref th)]) hl [0] rfl) hc
  · rw [if_neg (fun q => h9 ((i32_lt (by unfold rng; omega) g1).mpr q))] at h
    exact a_X6_aggregates_7 K hQ hX hTh hK2 _ _ g1 h hGσ hYσ hE hth _ _ _ hH (lv_sub (l' := [(0, .ref th), (1, .int (i32 v1))]) hl [0, 1] rfl) hc
theorem al_X6_aggregates_2 {Q : Sg → Unit → Prop} {X : Sg → String → Prop} {th : Nat} (K : MD l R p s m args c cX6_aggregates 3 RX6 D cA tys A n0 s0 161 11223 []) (hQ : CQV p l e R s m args below meth c cX6_aggregates D cA A n0 s0 QM σi Q) (hX : CX p l e R s m args below meth c 3 D cA A n0 s0 QM σi X) (hTh : CT p l e R s m args below meth c cX6_aggregates 3 D cA A n0 s0 QM σi RX6 X) : ∀ (n : Nat), ∀ (σ : Sg) (v1 : Int) (g1 : rng v1), wl_X6_aggregates_2 th Q X n σ v1 → RG σ → TY σ → Ext σi σ → kO σ th 6 → JJ p l e R s m args below meth c 3 D cA A n0 s0 QM σ 2 [(0, .ref th), (1, .int (i32 v1))] [] := by
  intro n
  induction n with
  | zero => intro σ v1 g1 h; exact h.elim
  | succ n ih => exact fun σ v1 g1 h => a_X6_aggregates_2 K hQ hX hTh ih σ v1 g1 h
set_option maxRecDepth 20000 in
theorem a_X6_aggregates_0 {Q : Sg → Unit → Prop} {X : Sg → String → Prop} {th : Nat} (K : MD l R p s m args c cX6_aggregates 3 RX6 D cA tys A n0 s0 161 11223 []) (hQ : CQV p l e R s m args below meth c cX6_aggregates D cA A n0 s0 QM σi Q) (hX : CX p l e R s m args below meth c 3 D cA A n0 s0 QM σi X) (hTh : CT p l e R s m args below meth c cX6_aggregates 3 D cA A n0 s0 QM σi RX6 X) : ∀ (σ : Sg), w_X6_aggregates_0 th Q X σ → RG σ → TY σ → Ext σi σ → kO σ th 6 → JJ p l e R s m args below meth c 3 D cA A n0 s0 QM σ 0 [(0, .ref th)] [] := by
  intro σ h hGσ hYσ hE hth H locs ls hH hl hc
  have B := K.1
  have hl9 := K.2.2.2.2.2.2
  unfold w_X6_aggregates_0 at h
  refine lv_iconst (v := i32 0) B.1 B.2.1 dX6_aggregates_0 (by decide) ?_
  refine lv_istore_n (lv' := [(1, .int (i32 0)), (0, .ref th)]) B.1 B.2.1 dX6_aggregates_1 rfl hl (by decide) rfl (fun ls hl => ?_)
  obtain ⟨n9, h⟩ := h
  exact al_X6_aggregates_2 K hQ hX hTh n9 _ _ (by unfold rng; omega) h hGσ hYσ hE hth _ _ _ hH (lv_sub (l' := [(0, .ref th), (1, .int (i32 0))]) hl [1, 0] rfl) hc
theorem ok_X6_aggregates (hl0 : l.stackTraces = false) (hT : TyC cA tys) {Q : Sg → Unit → Prop} {X : Sg → String → Prop} (σ : Sg) (th : Nat) (hth : kO σ th 6) (hG : RG σ) (hY : TY σ) (h : wp_X6_aggregates th σ Q X) : Ok l D cA tys A yX6_aggregates (.code yX6_aggregates cX6_aggregates 3 none) 161 11223 [.ref th] σ (QcV σ Q) (QxC σ X) := by
  unfold wp_X6_aggregates at h
  exact oc_V hl0 (by decide) (by exact Nat.le_of_ble_eq_true rfl) hT (fun p e R s m args below meth c K hQ hX hTh hin9 H locs ls hH hl hc => a_X6_aggregates_0 K hQ hX hTh σ h hG hY (Ext.rfl' σ) hth H locs ls hH (lv_sub (l' := [(0, .ref th)]) hl [0] rfl) hc)
theorem dX5_addColumnsOf_0 : decode cX5_addColumnsOf 0 = .ok (.iconst 0, 1) := by decide +kernel
theorem dX5_addColumnsOf_1 : decode cX5_addColumnsOf 1 = .ok (.istore_n 2, 1) := by decide +kernel
theorem dX5_addColumnsOf_2 : decode cX5_addColumnsOf 2 = .ok (.iload_n 2, 1) := by decide +kernel
theorem dX5_addColumnsOf_3 : decode cX5_addColumnsOf 3 = .ok (.aload_n 1, 1) := by decide +kernel
theorem dX5_addColumnsOf_4 : decode cX5_addColumnsOf 4 = .ok (.getfield 22, 3) := by decide +kernel
theorem dX5_addColumnsOf_7 : decode cX5_addColumnsOf 7 = .ok (.if_icmp .ge 19, 3) := by decide +kernel
theorem dX5_addColumnsOf_10 : decode cX5_addColumnsOf 10 = .ok (.aload_n 0, 1) := by decide +kernel
theorem dX5_addColumnsOf_11 : decode cX5_addColumnsOf 11 = .ok (.aload_n 1, 1) := by decide +kernel
theorem dX5_addColumnsOf_12 : decode cX5_addColumnsOf 12 = .ok (.getfield 9, 3) := by decide +kernel
theorem dX5_addColumnsOf_15 : decode cX5_addColumnsOf 15 = .ok (.iload_n 2, 1) := by decide +kernel
theorem dX5_addColumnsOf_16 : decode cX5_addColumnsOf 16 = .ok (.laload, 1) := by decide +kernel
theorem dX5_addColumnsOf_17 : decode cX5_addColumnsOf 17 = .ok (.invokevirtual 66, 3) := by decide +kernel
theorem dX5_addColumnsOf_20 : decode cX5_addColumnsOf 20 = .ok (.iinc 2 1, 3) := by decide +kernel
theorem dX5_addColumnsOf_23 : decode cX5_addColumnsOf 23 = .ok (.goto (-21), 3) := by decide +kernel
theorem dX5_addColumnsOf_26 : decode cX5_addColumnsOf 26 = .ok (.return_, 1) := by decide +kernel
set_option maxRecDepth 20000 in
theorem a_X5_addColumnsOf_26 {Q : Sg → Unit → Prop} {X : Sg → String → Prop} {th : Nat} (K : MD l R p s m args c cX5_addColumnsOf 3 RX5 D cA tys A n0 s0 1 22 []) (hQ : CQV p l e R s m args below meth c cX5_addColumnsOf D cA A n0 s0 QM σi Q) (hX : CX p l e R s m args below meth c 3 D cA A n0 s0 QM σi X) (hTh : CT p l e R s m args below meth c cX5_addColumnsOf 3 D cA A n0 s0 QM σi RX5 X) : ∀ (σ : Sg), w_X5_addColumnsOf_26 th Q X σ → RG σ → TY σ → Ext σi σ → kO σ th 5 → JJ p l e R s m args below meth c 3 D cA A n0 s0 QM σ 26 [(0, .ref th)] [] := by
  intro σ h hGσ hYσ hE hth H locs ls hH hl hc
  have B := K.1
  have hl9 := K.2.2.2.2.2.2
  unfold w_X5_addColumnsOf_26 at h
  exact hQ _ _ _ _ _ dX5_addColumnsOf_26 hH hc h hGσ hYσ hE
set_option maxRecDepth 20000 in
theorem a_X5_addColumnsOf_10 {Q : Sg → Unit → Prop} {X : Sg → String → Prop} {th : Nat} (K : MD l R p s m args c cX5_addColumnsOf 3 RX5 D cA tys A n0 s0 1 22 []) (hQ : CQV p l e R s m args below meth c cX5_addColumnsOf D cA A n0 s0 QM σi Q) (hX : CX p l e R s m args below meth c 3 D cA A n0 s0 QM σi X) (hTh : CT p l e R s m args below meth c cX5_addColumnsOf 3 D cA A n0 s0 QM σi RX5 X) {K2 : Sg → Option Nat → Int → Prop} (hK2 : ∀ (σ : Sg) (v1 : Option Nat) (v2 : Int) (g1 : tyV σ 5 v1) (g2 : rng v2), K2 σ v1 v2 → RG σ → TY σ → Ext σi σ → kO σ th 5 → JJ p l e R s m args below meth c 3 D cA A n0 s0 QM σ 2 [(0, .ref th), (1, va_rf v1), (2, .int (i32 v2))] []) : ∀ (σ : Sg) (v1 : Option Nat) (v2 : Int) (g1 : tyV σ 5 v1) (g2 : rng v2), w_X5_addColumnsOf_10 th K2 Q X σ v1 v2 → RG σ → TY σ → Ext σi σ → kO σ th 5 → JJ p l e R s m args below meth c 3 D cA A n0 s0 QM σ 10 [(0, .ref th), (1, va_rf v1), (2, .int (i32 v2))] [] := by
  intro σ v1 v2 g1 g2 h hGσ hYσ hE hth H locs ls hH hl hc
  have B := K.1
  have hl9 := K.2.2.2.2.2.2
  unfold w_X5_addColumnsOf_10 at h
  refine lv_aload_n B.1 B.2.1 dX5_addColumnsOf_10 rfl (lv_at hl 0 rfl) ?_
  refine lv_aload_nQ B.1 B.2.1 dX5_addColumnsOf_11 rfl (lv_at hl 1 rfl) ?_
  obtain ⟨a9, ea9, h⟩ := h
  have ka9 : kO σ a9 5 := g1 a9 ea9
  have h := h ka9
  refine W.eq (g2 := F0 m 12 ls [.ref a9, .ref th]) (by rw [ea9]; rfl) ?_
  refine f_getp B hH ka9 (by decide) rfl wu_X5 0 (by decide) wf_X5_9 rfl rfl dX5_addColumnsOf_12 ?_
  refine lv_iload_n B.1 B.2.1 dX5_addColumnsOf_15 rfl (lv_at hl 2 rfl) ?_
  obtain ⟨a10, ea10, h⟩ := h
  have ka10 : kO σ a10 101 := (hYσ.get ka9 (by decide)) a10 ea10
  have h := h ka10
  obtain ⟨q1, h⟩ := h
  refine W.eq (g2 := F0 m 16 ls [.int (i32 v2), .ref a10, .ref th]) (by rw [ea10]; rfl) ?_
  refine y_lald B K.2.1 hH ka10 q1 dX5_addColumnsOf_16 (hYσ.2 _) ?_
  refine W.eq (g2 := F0 m 17 ls [.long (gJ σ a10 v2.toNat), .ref th]) (rfl) ?_
  refine c_V B hH hl hc K.2.2.1 (C := RX5) (T := TX5) (N := 17) (ci := 5) (As := [.long (gJ σ a10 v2.toNat)]) (ok_X5_addColumn hl9 K.2.1 σ th (gJ σ a10 v2.toNat) hth hGσ hYσ h) wc_X5_66 1 hd_X5_addColumn ⟨Nat.le_trans (Nat.le_of_ble_eq_true rfl) K.2.2.2.1, Nat.le_trans (Nat.le_of_ble_eq_true rfl) K.2.2.2.2.1⟩ hth.1 hth.2 (by decide) rfl rfl (rest := []) rfl (Nat.le_of_ble_eq_true rfl) dX5_addColumnsOf_17 (fun σ11 w hq => ?_) (fun σ9 E9 hx9 => hX σ9 E9 _ _ _ (tb_out K.2.2.2.2.2.1 rfl) hx9.1 hx9.2.1 hx9.2.2.1 (hE.trans hx9.2.2.2))
  obtain ⟨rfl, h, hGσ11, hYσ11, xσ11⟩ := hq
  have h := h xσ11
  intro H locs ls hH hl hc
  refine W.eq (g2 := F0 m 20 ls []) (rfl) ?_
  try dsimp only at h
  obtain ⟨q2, h⟩ := h
  refine lv_iinc (k := 2) (v := i32 (v2 + 1)) (lv' := [(2, .int (i32 (v2 + 1))), (0, .ref th), (1, va_rf v1)]) B.1 B.2.1 dX5_addColumnsOf_20 hl rfl (i32_add _ _) (by decide) (by generalize v1 = w9; cases w9 <;> rfl) (fun ls hl => ?_)
  refine lv_goto (tgt := 2) B.1 B.2.1 dX5_addColumnsOf_23 (by decide) ?_
  exact hK2 _ _ _ (g1.up xσ11) q2 h hGσ11 hYσ11 (hE.trans xσ11) (hth.up xσ11) _ _ _ hH (lv_sub (l' := [(0, .ref th), (1, va_rf v1), (2, .int (i32 (v2 + 1)))]) hl [1, 2, 0] rfl) hc
set_option maxRecDepth 20000 in
theorem a_X5_addColumnsOf_2 {Q : Sg → Unit → Prop} {X : Sg → String → Prop} {th : Nat} (K : MD l R p s m args c cX5_addColumnsOf 3 RX5 D cA tys A n0 s0 1 22 []) (hQ : CQV p l e R s m args below meth c cX5_addColumnsOf D cA A n0 s0 QM σi Q) (hX : CX p l e R s m args below meth c 3 D cA A n0 s0 QM σi X) (hTh : CT p l e R s m args below meth c cX5_addColumnsOf 3 D cA A n0 s0 QM σi RX5 X) {K2 : Sg → Option Nat → Int → Prop} (hK2 : ∀ (σ : Sg) (v1 : Option Nat) (v2 : Int) (g1 : tyV σ 5 v1) (g2 : rng v2), K2 σ v1 v2 → RG σ → TY σ → Ext σi σ → kO σ th 5 → JJ p l e R s m args below meth c 3 D cA A n0 s0 QM σ 2 [(0, .ref th), (1, va_rf v1), (2, .int (i32 v2))] []) : ∀ (σ : Sg) (v1 : Option Nat) (v2 : Int) (g1 : tyV σ 5 v1) (g2 : rng v2), w_X5_addColumnsOf_2 th K2 Q X σ v1 v2 → RG σ → TY σ → Ext σi σ → kO σ th 5 → JJ p l e R s m args below meth c 3 D cA A n0 s0 QM σ 2 [(0, .ref th), (1, va_rf v1), (2, .int (i32 v2))] [] := by
  intro σ v1 v2 g1 g2 h hGσ hYσ hE hth H locs ls hH hl hc
  have B := K.1
  have hl9 := K.2.2.2.2.2.2
  unfold w_X5_addColumnsOf_2 at h
  refine lv_iload_n B.1 B.2.1 dX5_addColumnsOf_2 rfl (lv_at hl 2 rfl) ?_
  refine lv_aload_nQ B.1 B.2.1 dX5_addColumnsOf_3 rfl (lv_at hl 1 rfl) ?_
  obtain ⟨a12, ea12, h⟩ := h
  have ka12 : kO σ a12 5 := g1 a12 ea12
  have h := h ka12
  refine W.eq (g2 := F0 m 4 ls [.ref a12, .int (i32 v2)]) (by rw [ea12]; rfl) ?_
  refine f_geti B hH ka12 (by decide) rfl wu_X5 3 (by decide) wf_X5_22 rfl rfl dX5_addColumnsOf_4 ?_
  refine lv_icmp_ge (tgt := 26) B.1 B.2.1 dX5_addColumnsOf_7 (by decide) (fun h9 => ?_) (fun h9 => ?_)
  · rw [if_pos ((i32_le (hGσ _ _) g2).mp h9)] at h
    exact a_X5_addColumnsOf_26 K hQ hX hTh _ h hGσ hYσ hE hth _ _ _ hH (lv_sub (l' := [(0, .ref th)]) hl [0] rfl) hc
  · rw [if_neg (fun q => h9 ((i32_le (hGσ _ _) g2).mpr q))] at h
    exact a_X5_addColumnsOf_10 K hQ hX hTh hK2 _ _ _ g1 g2 h hGσ hYσ hE hth _ _ _ hH (lv_sub (l' := [(0, .ref th), (1, va_rf v1), (2, .int (i32 v2))]) hl [0, 1, 2] rfl) hc
theorem al_X5_addColumnsOf_2 {Q : Sg → Unit → Prop} {X : Sg → String → Prop} {th : Nat} (K : MD l R p s m args c cX5_addColumnsOf 3 RX5 D cA tys A n0 s0 1 22 []) (hQ : CQV p l e R s m args below meth c cX5_addColumnsOf D cA A n0 s0 QM σi Q) (hX : CX p l e R s m args below meth c 3 D cA A n0 s0 QM σi X) (hTh : CT p l e R s m args below meth c cX5_addColumnsOf 3 D cA A n0 s0 QM σi RX5 X) : ∀ (n : Nat), ∀ (σ : Sg) (v1 : Option Nat) (v2 : Int) (g1 : tyV σ 5 v1) (g2 : rng v2), wl_X5_addColumnsOf_2 th Q X n σ v1 v2 → RG σ → TY σ → Ext σi σ → kO σ th 5 → JJ p l e R s m args below meth c 3 D cA A n0 s0 QM σ 2 [(0, .ref th), (1, va_rf v1), (2, .int (i32 v2))] [] := by
  intro n
  induction n with
  | zero => intro σ v1 v2 g1 g2 h; exact h.elim
  | succ n ih => exact fun σ v1 v2 g1 g2 h => a_X5_addColumnsOf_2 K hQ hX hTh ih σ v1 v2 g1 g2 h
set_option maxRecDepth 20000 in
theorem a_X5_addColumnsOf_0 {Q : Sg → Unit → Prop} {X : Sg → String → Prop} {th : Nat} (K : MD l R p s m args c cX5_addColumnsOf 3 RX5 D cA tys A n0 s0 1 22 []) (hQ : CQV p l e R s m args below meth c cX5_addColumnsOf D cA A n0 s0 QM σi Q) (hX : CX p l e R s m args below meth c 3 D cA A n0 s0 QM σi X) (hTh : CT p l e R s m args below meth c cX5_addColumnsOf 3 D cA A n0 s0 QM σi RX5 X) : ∀ (σ : Sg) (v1 : Option Nat) (g1 : tyV σ 5 v1), w_X5_addColumnsOf_0 th Q X σ v1 → RG σ → TY σ → Ext σi σ → kO σ th 5 → JJ p l e R s m args below meth c 3 D cA A n0 s0 QM σ 0 [(0, .ref th), (1, va_rf v1)] [] := by
  intro σ v1 g1 h hGσ hYσ hE hth H locs ls hH hl hc
  have B := K.1
  have hl9 := K.2.2.2.2.2.2
  unfold w_X5_addColumnsOf_0 at h
  refine lv_iconst (v := i32 0) B.1 B.2.1 dX5_addColumnsOf_0 (by decide) ?_
  refine lv_istore_n (lv' := [(2, .int (i32 0)), (0, .ref th), (1, va_rf v1)]) B.1 B.2.1 dX5_addColumnsOf_1 rfl hl (by decide) (by generalize v1 = w9; cases w9 <;> rfl) (fun ls hl => ?_)
  obtain ⟨n9, h⟩ := h
  exact al_X5_addColumnsOf_2 K hQ hX hTh n9 _ _ _ g1 (by unfold rng; omega) h hGσ hYσ hE hth _ _ _ hH (lv_sub (l' := [(0, .ref th), (1, va_rf v1), (2, .int (i32 0))]) hl [1, 2, 0] rfl) hc
theorem ok_X5_addColumnsOf (hl0 : l.stackTraces = false) (hT : TyC cA tys) {Q : Sg → Unit → Prop} {X : Sg → String → Prop} (σ : Sg) (th : Nat) (v1 : Option Nat) (g1 : tyV σ 5 v1) (hth : kO σ th 5) (hG : RG σ) (hY : TY σ) (h : wp_X5_addColumnsOf th v1 σ Q X) : Ok l D cA tys A yX5_addColumnsOf (.code yX5_addColumnsOf cX5_addColumnsOf 3 none) 1 22 [.ref th, va_rf v1] σ (QcV σ Q) (QxC σ X) := by
  unfold wp_X5_addColumnsOf at h
  exact oc_V hl0 (by decide) (by cases v1 <;> exact Nat.le_of_ble_eq_true rfl) hT (fun p e R s m args below meth c K hQ hX hTh hin9 H locs ls hH hl hc => a_X5_addColumnsOf_0 K hQ hX hTh σ v1 g1 h hG hY (Ext.rfl' σ) hth H locs ls hH (lv_sub (l' := [(0, .ref th), (1, va_rf v1)]) hl [0, 1] (by cases v1 <;> rfl)) hc)
theorem dX4_find_0 : decode cX4_find 0 = .ok (.iconst 0, 1) := by decide +kernel
theorem dX4_find_1 : decode cX4_find 1 = .ok (.istore_n 3, 1) := by decide +kernel
theorem dX4_find_2 : decode cX4_find 2 = .ok (.iload_n 3, 1) := by decide +kernel
theorem dX4_find_3 : decode cX4_find 3 = .ok (.aload_n 0, 1) := by decide +kernel
theorem dX4_find_4 : decode cX4_find 4 = .ok (.getfield 53, 3) := by decide +kernel
theorem dX4_find_7 : decode cX4_find 7 = .ok (.if_icmp .ge 39, 3) := by decide +kernel
theorem dX4_find_10 : decode cX4_find 10 = .ok (.aload_n 0, 1) := by decide +kernel
theorem dX4_find_11 : decode cX4_find 11 = .ok (.getfield 11, 3) := by decide +kernel
theorem dX4_find_14 : decode cX4_find 14 = .ok (.iload_n 3, 1) := by decide +kernel
theorem dX4_find_15 : decode cX4_find 15 = .ok (.aaload, 1) := by decide +kernel
theorem dX4_find_16 : decode cX4_find 16 = .ok (.getfield 63, 3) := by decide +kernel
theorem dX4_find_19 : decode cX4_find 19 = .ok (.bipush 11, 2) := by decide +kernel
theorem dX4_find_21 : decode cX4_find 21 = .ok (.if_icmp .eq 19, 3) := by decide +kernel
theorem dX4_find_24 : decode cX4_find 24 = .ok (.aload_n 0, 1) := by decide +kernel
theorem dX4_find_25 : decode cX4_find 25 = .ok (.getfield 11, 3) := by decide +kernel
theorem dX4_find_28 : decode cX4_find 28 = .ok (.iload_n 3, 1) := by decide +kernel
theorem dX4_find_29 : decode cX4_find 29 = .ok (.aaload, 1) := by decide +kernel
theorem dX4_find_30 : decode cX4_find 30 = .ok (.getfield 66, 3) := by decide +kernel
theorem dX4_find_33 : decode cX4_find 33 = .ok (.lload_n 1, 1) := by decide +kernel
theorem dX4_find_34 : decode cX4_find 34 = .ok (.lcmp, 1) := by decide +kernel
theorem dX4_find_35 : decode cX4_find 35 = .ok (.ifCond .ne 5, 3) := by decide +kernel
theorem dX4_find_38 : decode cX4_find 38 = .ok (.iload_n 3, 1) := by decide +kernel
theorem dX4_find_39 : decode cX4_find 39 = .ok (.ireturn, 1) := by decide +kernel
theorem dX4_find_40 : decode cX4_find 40 = .ok (.iinc 3 1, 3) := by decide +kernel
theorem dX4_find_43 : decode cX4_find 43 = .ok (.goto (-41), 3) := by decide +kernel
theorem dX4_find_46 : decode cX4_find 46 = .ok (.iconst (-1), 1) := by decide +kernel
theorem dX4_find_47 : decode cX4_find 47 = .ok (.ireturn, 1) := by decide +kernel
set_option maxRecDepth 20000 in
theorem a_X4_find_46 {Q : Sg → Int → Prop} {X : Sg → String → Prop} {th : Nat} (K : MD l R p s m args c cX4_find 4 RX4 D cA tys A n0 s0 0 0 []) (hQ : CQI p l e R s m args below meth c cX4_find D cA A n0 s0 QM σi Q) (hX : CX p l e R s m args below meth c 4 D cA A n0 s0 QM σi X) (hTh : CT p l e R s m args below meth c cX4_find 4 D cA A n0 s0 QM σi RX4 X) : ∀ (σ : Sg), w_X4_find_46 th Q X σ → RG σ → TY σ → Ext σi σ → kO σ th 4 → JJ p l e R s m args below meth c 4 D cA A n0 s0 QM σ 46 [(0, .ref th)] [] := by
  intro σ h hGσ hYσ hE hth H locs ls hH hl hc
  have B := K.1
  have hl9 := K.2.2.2.2.2.2
  unfold w_X4_find_46 at h
  refine lv_iconst (v := i32 (-1)) B.1 B.2.1 dX4_find_46 (by decide) ?_
  exact hQ _ _ _ _ _ _ (by unfold rng; omega) dX4_find_47 hH hc h hGσ hYσ hE
set_option maxRecDepth 20000 in
theorem a_X4_find_40 {Q : Sg → Int → Prop} {X : Sg → String → Prop} {th : Nat} (K : MD l R p s m args c cX4_find 4 RX4 D cA tys A n0 s0 0 0 []) (hQ : CQI p l e R s m args below meth c cX4_find D cA A n0 s0 QM σi Q) (hX : CX p l e R s m args below meth c 4 D cA A n0 s0 QM σi X) (hTh : CT p l e R s m args below meth c cX4_find 4 D cA A n0 s0 QM σi RX4 X) {K2 : Sg → Int64 → Int → Prop} (hK2 : ∀ (σ : Sg) (v1 : Int64) (v3 : Int) (g3 : rng v3), K2 σ v1 v3 → RG σ → TY σ → Ext σi σ → kO σ th 4 → JJ p l e R s m args below meth c 4 D cA A n0 s0 QM σ 2 [(0, .ref th), (1, .long v1), (3, .int (i32 v3))] []) : ∀ (σ : Sg) (v1 : Int64) (v3 : Int) (g3 : rng v3), w_X4_find_40 th K2 Q X σ v1 v3 → RG σ → TY σ → Ext σi σ → kO σ th 4 → JJ p l e R s m args below meth c 4 D cA A n0 s0 QM σ 40 [(0, .ref th), (1, .long v1), (3, .int (i32 v3))] [] := by
  intro σ v1 v3 g3 h hGσ hYσ hE hth H locs ls hH hl hc
  have B := K.1
  have hl9 := K.2.2.2.2.2.2
  unfold w_X4_find_40 at h
  obtain ⟨q1, h⟩ := h
  refine lv_iinc (k := 2) (v := i32 (v3 + 1)) (lv' := [(3, .int (i32 (v3 + 1))), (0, .ref th), (1, .long v1)]) B.1 B.2.1 dX4_find_40 hl rfl (i32_add _ _) (by decide) rfl (fun ls hl => ?_)
  refine lv_goto (tgt := 2) B.1 B.2.1 dX4_find_43 (by decide) ?_
  exact hK2 _ _ _ q1 h hGσ hYσ hE hth _ _ _ hH (lv_sub (l' := [(0, .ref th), (1, .long v1), (3, .int (i32 (v3 + 1)))]) hl [1, 2, 0] rfl) hc
set_option maxRecDepth 20000 in
theorem a_X4_find_38 {Q : Sg → Int → Prop} {X : Sg → String → Prop} {th : Nat} (K : MD l R p s m args c cX4_find 4 RX4 D cA tys A n0 s0 0 0 []) (hQ : CQI p l e R s m args below meth c cX4_find D cA A n0 s0 QM σi Q) (hX : CX p l e R s m args below meth c 4 D cA A n0 s0 QM σi X) (hTh : CT p l e R s m args below meth c cX4_find 4 D cA A n0 s0 QM σi RX4 X) : ∀ (σ : Sg) (v3 : Int) (g3 : rng v3), w_X4_find_38 th Q X σ v3 → RG σ → TY σ → Ext σi σ → kO σ th 4 → JJ p l e R s m args below meth c 4 D cA A n0 s0 QM σ 38 [(0, .ref th), (3, .int (i32 v3))] [] := by
  intro σ v3 g3 h hGσ hYσ hE hth H locs ls hH hl hc
  have B := K.1
  have hl9 := K.2.2.2.2.2.2
  unfold w_X4_find_38 at h
  refine lv_iload_n B.1 B.2.1 dX4_find_38 rfl (lv_at hl 1 rfl) ?_
  exact hQ _ _ _ _ _ _ g3 dX4_find_39 hH hc h hGσ hYσ hE
set_option maxRecDepth 20000 in
theorem a_X4_find_24 {Q : Sg → Int → Prop} {X : Sg → String → Prop} {th : Nat} (K : MD l R p s m args c cX4_find 4 RX4 D cA tys A n0 s0 0 0 []) (hQ : CQI p l e R s m args below meth c cX4_find D cA A n0 s0 QM σi Q) (hX : CX p l e R s m args below meth c 4 D cA A n0 s0 QM σi X) (hTh : CT p l e R s m args below meth c cX4_find 4 D cA A n0 s0 QM σi RX4 X) {K2 : Sg → Int64 → Int → Prop} (hK2 : ∀ (σ : Sg) (v1 : Int64) (v3 : Int) (g3 : rng v3), K2 σ v1 v3 → RG σ → TY σ → Ext σi σ → kO σ th 4 → JJ p l e R s m args below meth c 4 D cA A n0 s0 QM σ 2 [(0, .ref th), (1, .long v1), (3, .int (i32 v3))] []) : ∀ (σ : Sg) (v1 : Int64) (v3 : Int) (g3 : rng v3), w_X4_find_24 th K2 Q X σ v1 v3 → RG σ → TY σ → Ext σi σ → kO σ th 4 → JJ p l e R s m args below meth c 4 D cA A n0 s0 QM σ 24 [(0, .ref th), (1, .long v1), (3, .int (i32 v3))] [] := by
  intro σ v1 v3 g3 h hGσ hYσ hE hth H locs ls hH hl hc
  have B := K.1
  have hl9 := K.2.2.2.2.2.2
  unfold w_X4_find_24 at h
  refine lv_aload_n B.1 B.2.1 dX4_find_24 rfl (lv_at hl 0 rfl) ?_
  refine f_getp B hH hth (by decide) rfl wu_X4 0 (by decide) wf_X4_11 rfl rfl dX4_find_25 ?_
  refine lv_iload_n B.1 B.2.1 dX4_find_28 rfl (lv_at hl 2 rfl) ?_
  obtain ⟨a9, ea9, h⟩ := h
  have ka9 : kO σ a9 115 := (hYσ.get hth (by decide)) a9 ea9
  have h := h ka9
  obtain ⟨q1, h⟩ := h
  refine W.eq (g2 := F0 m 29 ls [.int (i32 v3), .ref a9]) (by rw [ea9]; rfl) ?_
  refine y_aald B hH (t0 := 6) ka9 (by decide) K.2.1.2.2.2.1 q1 (hYσ.2 _) dX4_find_29 ?_
  obtain ⟨a10, ea10, h⟩ := h
  have ka10 : kO σ a10 5 := (hYσ.get ka9 rfl) a10 ea10
  have h := h ka10
  refine W.eq (g2 := F0 m 30 ls [.ref a10]) (by rw [ea10]; rfl) ?_
  refine f_getl B hH ka10 (by decide) rfl wu_X5 5 (by decide) wf_X4_66 rfl rfl dX4_find_30 ?_
  refine lv_lload_n B.1 B.2.1 dX4_find_33 rfl (lv_at hl 1 rfl) ?_
  refine W.lcmp B.1 B.2.1 dX4_find_34 ?_
  refine lv_if_ne (tgt := 40) B.1 B.2.1 dX4_find_35 (by decide) (fun h9 => ?_) (fun h9 => ?_)
  · rw [if_pos (fun q => h9 ((lg_cmp_eq _ _).mpr q))] at h
    exact a_X4_find_40 K hQ hX hTh hK2 _ _ _ g3 h hGσ hYσ hE hth _ _ _ hH (lv_sub (l' := [(0, .ref th), (1, .long v1), (3, .int (i32 v3))]) hl [0, 1, 2] rfl) hc
  · rw [if_neg (fun q => q ((lg_cmp_eq _ _).mp h9))] at h
    exact a_X4_find_38 K hQ hX hTh _ _ g3 h hGσ hYσ hE hth _ _ _ hH (lv_sub (l' := [(0, .ref th), (3, .int (i32 v3))]) hl [0, 2] rfl) hc
set_option maxRecDepth 20000 in
theorem a_X4_find_10 {Q : Sg → Int → Prop} {X : Sg → String → Prop} {th : Nat} (K : MD l R p s m args c cX4_find 4 RX4 D cA tys A n0 s0 0 0 []) (hQ : CQI p l e R s m args below meth c cX4_find D cA A n0 s0 QM σi Q) (hX : CX p l e R s m args below meth c 4 D cA A n0 s0 QM σi X) (hTh : CT p l e R s m args below meth c cX4_find 4 D cA A n0 s0 QM σi RX4 X) {K2 : Sg → Int64 → Int → Prop} (hK2 : ∀ (σ : Sg) (v1 : Int64) (v3 : Int) (g3 : rng v3), K2 σ v1 v3 → RG σ → TY σ → Ext σi σ → kO σ th 4 → JJ p l e R s m args below meth c 4 D cA A n0 s0 QM σ 2 [(0, .ref th), (1, .long v1), (3, .int (i32 v3))] []) : ∀ (σ : Sg) (v1 : Int64) (v3 : Int) (g3 : rng v3), w_X4_find_10 th K2 Q X σ v1 v3 → RG σ → TY σ → Ext σi σ → kO σ th 4 → JJ p l e R s m args below meth c 4 D cA A n0 s0 QM σ 10 [(0, .ref th), (1, .long v1), (3, .int (i32 v3))] [] := by
  intro σ v1 v3 g3 h hGσ hYσ hE hth H locs ls hH hl hc
  have B := K.1
  have hl9 := K.2.2.2.2.2.2
  unfold w_X4_find_10 at h
  refine lv_aload_n B.1 B.2.1 dX4_find_10 rfl (lv_at hl 0 rfl) ?_
  refine f_getp B hH hth (by decide) rfl wu_X4 0 (by decide) wf_X4_11 rfl rfl dX4_find_11 ?_
  refine lv_iload_n B.1 B.2.1 dX4_find_14 rfl (lv_at hl 2 rfl) ?_
  obtain ⟨a11, ea11, h⟩ := h
  have ka11 : kO σ a11 115 := (hYσ.get hth (by decide)) a11 ea11
  have h := h ka11
  obtain ⟨q1, h⟩ := h
  refine W.eq (g2 := F0 m 15 ls [.int (i32 v3), .ref a11]) (by rw [ea11]; rfl) ?_
  refine y_aald B hH (t0 := 6) ka11 (by decide) K.2.1.2.2.2.1 q1 (hYσ.2 _) dX4_find_15 ?_
  obtain ⟨a12, ea12, h⟩ := h
  have ka12 : kO σ a12 5 := (hYσ.get ka11 rfl) a12 ea12
  have h := h ka12
  refine W.eq (g2 := F0 m 16 ls [.ref a12]) (by rw [ea12]; rfl) ?_
  refine f_geti B hH ka12 (by decide) rfl wu_X5 6 (by decide) wf_X4_63 rfl rfl dX4_find_16 ?_
  refine lv_bipush (v := i32 11) B.1 B.2.1 dX4_find_19 (by decide) ?_
  refine lv_icmp_eq (tgt := 40) B.1 B.2.1 dX4_find_21 (by decide) (fun h9 => ?_) (fun h9 => ?_)
  · rw [if_pos ((i32_eq (hGσ _ _) (by unfold rng; omega)).mp h9)] at h
    exact a_X4_find_40 K hQ hX hTh hK2 _ _ _ g3 h hGσ hYσ hE hth _ _ _ hH (lv_sub (l' := [(0, .ref th), (1, .long v1), (3, .int (i32 v3))]) hl [0, 1, 2] rfl) hc
  · rw [if_neg (fun q => h9 ((i32_eq (hGσ _ _) (by unfold rng; omega)).mpr q))] at h
    exact a_X4_find_24 K hQ hX hTh hK2 _ _ _ g3 h hGσ hYσ hE hth _ _ _ hH (lv_sub (l' := [(0, .ref th), (1, .long v1), (3, .int (i32 v3))]) hl [0, 1, 2] rfl) hc
set_option maxRecDepth 20000 in
theorem a_X4_find_2 {Q : Sg → Int → Prop} {X : Sg → String → Prop} {th : Nat} (K : MD l R p s m args c cX4_find 4 RX4 D cA tys A n0 s0 0 0 []) (hQ : CQI p l e R s m args below meth c cX4_find D cA A n0 s0 QM σi Q) (hX : CX p l e R s m args below meth c 4 D cA A n0 s0 QM σi X) (hTh : CT p l e R s m args below meth c cX4_find 4 D cA A n0 s0 QM σi RX4 X) {K2 : Sg → Int64 → Int → Prop} (hK2 : ∀ (σ : Sg) (v1 : Int64) (v3 : Int) (g3 : rng v3), K2 σ v1 v3 → RG σ → TY σ → Ext σi σ → kO σ th 4 → JJ p l e R s m args below meth c 4 D cA A n0 s0 QM σ 2 [(0, .ref th), (1, .long v1), (3, .int (i32 v3))] []) : ∀ (σ : Sg) (v1 : Int64) (v3 : Int) (g3 : rng v3), w_X4_find_2 th K2 Q X σ v1 v3 → RG σ → TY σ → Ext σi σ → kO σ th 4 → JJ p l e R s m args below meth c 4 D cA A n0 s0 QM σ 2 [(0, .ref th), (1, .long v1), (3, .int (i32 v3))] [] := by
  intro σ v1 v3 g3 h hGσ hYσ hE hth H locs ls hH hl hc
  have B := K.1
  have hl9 := K.2.2.2.2.2.2
  unfold w_X4_find_2 at h
  refine lv_iload_n B.1 B.2.1 dX4_find_2 rfl (lv_at hl 2 rfl) ?_
  refine lv_aload_n B.1 B.2.1 dX4_find_3 rfl (lv_at hl 0 rfl) ?_
  refine f_geti B hH hth (by decide) rfl wu_X4 1 (by decide) wf_X4_53 rfl rfl dX4_find_4 ?_
  refine lv_icmp_ge (tgt := 46) B.1 B.2.1 dX4_find_7 (by decide) (fun h9 => ?_) (fun h9 => ?_)
  · rw [if_pos ((i32_le (hGσ _ _) g3).mp h9)] at h
    exact a_X4_find_46 K hQ hX hTh _ h hGσ hYσ hE hth _ _ _ hH (lv_sub (l' := [(0, .ref th)]) hl [0] rfl) hc
  · rw [if_neg (fun q => h9 ((i32_le (hGσ _ _) g3).mpr q))] at h
    exact a_X4_find_10 K hQ hX hTh hK2 _ _ _ g3 h hGσ hYσ hE hth _ _ _ hH (lv_sub (l' := [(0, .ref th), (1, .long v1), (3, .int (i32 v3))]) hl [0, 1, 2] rfl) hc
theorem al_X4_find_2 {Q : Sg → Int → Prop} {X : Sg → String → Prop} {th : Nat} (K : MD l R p s m args c cX4_find 4 RX4 D cA tys A n0 s0 0 0 []) (hQ : CQI p l e R s m args below meth c cX4_find D cA A n0 s0 QM σi Q) (hX : CX p l e R s m args below meth c 4 D cA A n0 s0 QM σi X) (hTh : CT p l e R s m args below meth c cX4_find 4 D cA A n0 s0 QM σi RX4 X) : ∀ (n : Nat), ∀ (σ : Sg) (v1 : Int64) (v3 : Int) (g3 : rng v3), wl_X4_find_2 th Q X n σ v1 v3 → RG σ → TY σ → Ext σi σ → kO σ th 4 → JJ p l e R s m args below meth c 4 D cA A n0 s0 QM σ 2 [(0, .ref th), (1, .long v1), (3, .int (i32 v3))] [] := by
  intro n
  induction n with
  | zero => intro σ v1 v3 g3 h; exact h.elim
  | succ n ih => exact fun σ v1 v3 g3 h => a_X4_find_2 K hQ hX hTh ih σ v1 v3 g3 h
set_option maxRecDepth 20000 in
theorem a_X4_find_0 {Q : Sg → Int → Prop} {X : Sg → String → Prop} {th : Nat} (K : MD l R p s m args c cX4_find 4 RX4 D cA tys A n0 s0 0 0 []) (hQ : CQI p l e R s m args below meth c cX4_find D cA A n0 s0 QM σi Q) (hX : CX p l e R s m args below meth c 4 D cA A n0 s0 QM σi X) (hTh : CT p l e R s m args below meth c cX4_find 4 D cA A n0 s0 QM σi RX4 X) : ∀ (σ : Sg) (v1 : Int64), w_X4_find_0 th Q X σ v1 → RG σ → TY σ → Ext σi σ → kO σ th 4 → JJ p l e R s m args below meth c 4 D cA A n0 s0 QM σ 0 [(0, .ref th), (1, .long v1)] [] := by
  intro σ v1 h hGσ hYσ hE hth H locs ls hH hl hc
  have B := K.1
  have hl9 := K.2.2.2.2.2.2
  unfold w_X4_find_0 at h
  refine lv_iconst (v := i32 0) B.1 B.2.1 dX4_find_0 (by decide) ?_
  refine lv_istore_n (lv' := [(3, .int (i32 0)), (0, .ref th), (1, .long v1)]) B.1 B.2.1 dX4_find_1 rfl hl (by decide) rfl (fun ls hl => ?_)
  obtain ⟨n9, h⟩ := h
  exact al_X4_find_2 K hQ hX hTh n9 _ _ _ (by unfold rng; omega) h hGσ hYσ hE hth _ _ _ hH (lv_sub (l' := [(0, .ref th), (1, .long v1), (3, .int (i32 0))]) hl [1, 2, 0] rfl) hc
theorem ok_X4_find (hl0 : l.stackTraces = false) (hT : TyC cA tys) {Q : Sg → Int → Prop} {X : Sg → String → Prop} (σ : Sg) (th : Nat) (v1 : Int64) (hth : kO σ th 4) (hG : RG σ) (hY : TY σ) (h : wp_X4_find th v1 σ Q X) : Ok l D cA tys A yX4_find (.code yX4_find cX4_find 4 (some .int)) 0 0 [.ref th, .long v1] σ (QcI σ Q) (QxC σ X) := by
  unfold wp_X4_find at h
  exact oc_I hl0 (by decide) (by exact Nat.le_of_ble_eq_true rfl) hT (fun p e R s m args below meth c K hQ hX hTh H locs ls hH hl hc => a_X4_find_0 K hQ hX hTh σ v1 h hG hY (Ext.rfl' σ) hth H locs ls hH (lv_sub (l' := [(0, .ref th), (1, .long v1)]) hl [0, 1] rfl) hc)
theorem dX6_input_0 : decode cX6_input 0 = .ok (.aload_n 0, 1) := by decide +kernel
theorem dX6_input_1 : decode cX6_input 1 = .ok (.getfield 43, 3) := by decide +kernel
theorem dX6_input_4 : decode cX6_input 4 = .ok (.iconst 1, 1) := by decide +kernel
theorem dX6_input_5 : decode cX6_input 5 = .ok (.if_icmp .eq 7, 3) := by decide +kernel
theorem dX6_input_8 : decode cX6_input 8 = .ok (.aload_n 0, 1) := by decide +kernel
theorem dX6_input_9 : decode cX6_input 9 = .ok (.invokevirtual 70, 3) := by decide +kernel
theorem dX6_input_12 : decode cX6_input 12 = .ok (.aload_n 0, 1) := by decide +kernel
theorem dX6_input_13 : decode cX6_input 13 = .ok (.getfield 31, 3) := by decide +kernel
theorem dX6_input_16 : decode cX6_input 16 = .ok (.aload_n 0, 1) := by decide +kernel
theorem dX6_input_17 : decode cX6_input 17 = .ok (.getfield 73, 3) := by decide +kernel
theorem dX6_input_20 : decode cX6_input 20 = .ok (.invokevirtual 77, 3) := by decide +kernel
theorem dX6_input_23 : decode cX6_input 23 = .ok (.istore_n 1, 1) := by decide +kernel
theorem dX6_input_24 : decode cX6_input 24 = .ok (.iload_n 1, 1) := by decide +kernel
theorem dX6_input_25 : decode cX6_input 25 = .ok (.iconst (-1), 1) := by decide +kernel
theorem dX6_input_26 : decode cX6_input 26 = .ok (.if_icmp .ne 8, 3) := by decide +kernel
theorem dX6_input_29 : decode cX6_input 29 = .ok (.aload_n 0, 1) := by decide +kernel
theorem dX6_input_30 : decode cX6_input 30 = .ok (.iconst 5, 1) := by decide +kernel
theorem dX6_input_31 : decode cX6_input 31 = .ok (.invokevirtual 81, 3) := by decide +kernel
theorem dX6_input_34 : decode cX6_input 34 = .ok (.iload_n 1, 1) := by decide +kernel
theorem dX6_input_35 : decode cX6_input 35 = .ok (.ireturn, 1) := by decide +kernel
set_option maxRecDepth 20000 in
theorem a_X6_input_34 {Q : Sg → Int → Prop} {X : Sg → String → Prop} {th : Nat} (K : MD l R p s m args c cX6_input 2 RX6 D cA tys A n0 s0 8 131 []) (hQ : CQI p l e R s m args below meth c cX6_input D cA A n0 s0 QM σi Q) (hX : CX p l e R s m args below meth c 2 D cA A n0 s0 QM σi X) (hTh : CT p l e R s m args below meth c cX6_input 2 D cA A n0 s0 QM σi RX6 X) : ∀ (σ : Sg) (v1 : Int) (g1 : rng v1), w_X6_input_34 th Q X σ v1 → RG σ → TY σ → Ext σi σ → kO σ th 6 → JJ p l e R s m args below meth c 2 D cA A n0 s0 QM σ 34 [(0, .ref th), (1, .int (i32 v1))] [] := by
  intro σ v1 g1 h hGσ hYσ hE hth H locs ls hH hl hc
  have B := K.1
  have hl9 := K.2.2.2.2.2.2
  unfold w_X6_input_34 at h
  refine lv_iload_n B.1 B.2.1 dX6_input_34 rfl (lv_at hl 1 rfl) ?_
  exact hQ _ _ _ _ _ _ g1 dX6_input_35 hH hc h hGσ hYσ hE
set_option maxRecDepth 20000 in
theorem a_X6_input_29 {Q : Sg → Int → Prop} {X : Sg → String → Prop} {th : Nat} (K : MD l R p s m args c cX6_input 2 RX6 D cA tys A n0 s0 8 131 []) (hQ : CQI p l e R s m args below meth c cX6_input D cA A n0 s0 QM σi Q) (hX : CX p l e R s m args below meth c 2 D cA A n0 s0 QM σi X) (hTh : CT p l e R s m args below meth c cX6_input 2 D cA A n0 s0 QM σi RX6 X) : ∀ (σ : Sg) (v1 : Int) (g1 : rng v1), w_X6_input_29 th Q X σ v1 → RG σ → TY σ → Ext σi σ → kO σ th 6 → JJ p l e R s m args below meth c 2 D cA A n0 s0 QM σ 29 [(0, .ref th), (1, .int (i32 v1))] [] := by
  intro σ v1 g1 h hGσ hYσ hE hth H locs ls hH hl hc
  have B := K.1
  have hl9 := K.2.2.2.2.2.2
  unfold w_X6_input_29 at h
  refine lv_aload_n B.1 B.2.1 dX6_input_29 rfl (lv_at hl 0 rfl) ?_
  refine lv_iconst (v := i32 5) B.1 B.2.1 dX6_input_30 (by decide) ?_
  refine W.eq (g2 := F0 m 31 ls [.int (i32 5), .ref th]) (rfl) ?_
  refine c_V B hH hl hc K.2.2.1 (C := RX6) (T := TX6) (N := 9) (ci := 6) (As := [.int (i32 5)]) (ok_X6_refuse hl9 K.2.1 σ th 5 (by unfold rng; omega) hth hGσ hYσ h) wc_X6_81 1 hd_X6_refuse ⟨Nat.le_trans (Nat.le_of_ble_eq_true rfl) K.2.2.2.1, Nat.le_trans (Nat.le_of_ble_eq_true rfl) K.2.2.2.2.1⟩ hth.1 hth.2 (by decide) rfl rfl (rest := []) rfl (Nat.le_of_ble_eq_true rfl) dX6_input_31 (fun σ11 w hq => ?_) (fun σ9 E9 hx9 => hX σ9 E9 _ _ _ (tb_out K.2.2.2.2.2.1 rfl) hx9.1 hx9.2.1 hx9.2.2.1 (hE.trans hx9.2.2.2))
  obtain ⟨rfl, h, hGσ11, hYσ11, xσ11⟩ := hq
  have h := h xσ11
  intro H locs ls hH hl hc
  refine W.eq (g2 := F0 m 34 ls []) (rfl) ?_
  try dsimp only at h
  exact a_X6_input_34 K hQ hX hTh _ _ g1 h hGσ11 hYσ11 (hE.trans xσ11) (hth.up xσ11) _ _ _ hH (lv_sub (l' := [(0, .ref th), (1, .int (i32 v1))]) hl [0, 1] rfl) hc
set_option maxRecDepth 20000 in
theorem a_X6_input_12 {Q : Sg → Int → Prop} {X : Sg → String → Prop} {th : Nat} (K : MD l R p s m args c cX6_input 2 RX6 D cA tys A n0 s0 8 131 []) (hQ : CQI p l e R s m args below meth c cX6_input D cA A n0 s0 QM σi Q) (hX : CX p l e R s m args below meth c 2 D cA A n0 s0 QM σi X) (hTh : CT p l e R s m args below meth c cX6_input 2 D cA A n0 s0 QM σi RX6 X) : ∀ (σ : Sg), w_X6_input_12 th Q X σ → RG σ → TY σ → Ext σi σ → kO σ th 6 → JJ p l e R s m args below meth c 2 D cA A n0 s0 QM σ 12 [(0, .ref th)] [] := by
  intro σ h hGσ hYσ hE hth H locs ls hH hl hc
  have B := K.1
  have hl9 := K.2.2.2.2.2.2
  unfold w_X6_input_12 at h
  refine lv_aload_n B.1 B.2.1 dX6_input_12 rfl (lv_at hl 0 rfl) ?_
  refine f_getp B hH hth (by decide) rfl wu_X6 7 (by decide) wf_X6_31 rfl rfl dX6_input_13 ?_
  refine lv_aload_n B.1 B.2.1 dX6_input_16 rfl (lv_at hl 0 rfl) ?_
  refine f_getl B hH hth (by decide) rfl wu_X6 4 (by decide) wf_X6_73 rfl rfl dX6_input_17 ?_
  obtain ⟨a14, ea14, h⟩ := h
  have ka14 : kO σ a14 4 := (hYσ.get hth (by decide)) a14 ea14
  have h := h ka14
  refine W.eq (g2 := F0 m 20 ls [.long (gJ σ th 4), .ref a14]) (by rw [ea14]; rfl) ?_
  refine c_V B hH hl hc K.2.2.1 (C := RX4) (T := TX4) (N := 14) (ci := 4) (As := [.long (gJ σ th 4)]) (ok_X4_find hl9 K.2.1 σ a14 (gJ σ th 4) ka14 hGσ hYσ h) wc_X6_77 1 hd_X4_find ⟨Nat.le_trans (Nat.le_of_ble_eq_true rfl) K.2.2.2.1, Nat.le_trans (Nat.le_of_ble_eq_true rfl) K.2.2.2.2.1⟩ ka14.1 ka14.2 (by decide) rfl rfl (rest := []) rfl (Nat.le_of_ble_eq_true rfl) dX6_input_20 (fun σ12 w hq => ?_) (fun σ9 E9 hx9 => hX σ9 E9 _ _ _ (tb_out K.2.2.2.2.2.1 rfl) hx9.1 hx9.2.1 hx9.2.2.1 (hE.trans hx9.2.2.2))
  obtain ⟨r13, rfl, gr13, h, hGσ12, hYσ12, xσ12⟩ := hq
  have h := h xσ12
  intro H locs ls hH hl hc
  refine W.eq (g2 := F0 m 23 ls [.int (i32 r13)]) (rfl) ?_
  try dsimp only at h
  refine lv_istore_n (lv' := [(1, .int (i32 r13)), (0, .ref th)]) B.1 B.2.1 dX6_input_23 rfl hl (by decide) rfl (fun ls hl => ?_)
  refine lv_iload_n B.1 B.2.1 dX6_input_24 rfl (lv_at hl 0 rfl) ?_
  refine lv_iconst (v := i32 (-1)) B.1 B.2.1 dX6_input_25 (by decide) ?_
  refine lv_icmp_ne (tgt := 34) B.1 B.2.1 dX6_input_26 (by decide) (fun h9 => ?_) (fun h9 => ?_)
  · rw [if_pos (fun q => h9 ((i32_eq gr13 (by unfold rng; omega)).mpr q))] at h
    exact a_X6_input_34 K hQ hX hTh _ _ gr13 h hGσ12 hYσ12 (hE.trans xσ12) (hth.up xσ12) _ _ _ hH (lv_sub (l' := [(0, .ref th), (1, .int (i32 r13))]) hl [1, 0] rfl) hc
  · rw [if_neg (fun q => q ((i32_eq gr13 (by unfold rng; omega)).mp h9))] at h
    exact a_X6_input_29 K hQ hX hTh _ _ gr13 h hGσ12 hYσ12 (hE.trans xσ12) (hth.up xσ12) _ _ _ hH (lv_sub (l' := [(0, .ref th), (1, .int (i32 r13))]) hl [1, 0] rfl) hc
set_option maxRecDepth 20000 in
theorem a_X6_input_8 {Q : Sg → Int → Prop} {X : Sg → String → Prop} {th : Nat} (K : MD l R p s m args c cX6_input 2 RX6 D cA tys A n0 s0 8 131 []) (hQ : CQI p l e R s m args below meth c cX6_input D cA A n0 s0 QM σi Q) (hX : CX p l e R s m args below meth c 2 D cA A n0 s0 QM σi X) (hTh : CT p l e R s m args below meth c cX6_input 2 D cA A n0 s0 QM σi RX6 X) : ∀ (σ : Sg), w_X6_input_8 th Q X σ → RG σ → TY σ → Ext σi σ → kO σ th 6 → JJ p l e R s m args below meth c 2 D cA A n0 s0 QM σ 8 [(0, .ref th)] [] := by
  intro σ h hGσ hYσ hE hth H locs ls hH hl hc
  have B := K.1
  have hl9 := K.2.2.2.2.2.2
  unfold w_X6_input_8 at h
  refine lv_aload_n B.1 B.2.1 dX6_input_8 rfl (lv_at hl 0 rfl) ?_
  refine W.eq (g2 := F0 m 9 ls [.ref th]) (rfl) ?_
  refine c_V B hH hl hc K.2.2.1 (C := RX6) (T := TX6) (N := 9) (ci := 6) (As := []) (ok_X6_cannotStand hl9 K.2.1 σ th hth hGσ hYσ h) wc_X6_70 0 hd_X6_cannotStand ⟨Nat.le_trans (Nat.le_of_ble_eq_true rfl) K.2.2.2.1, Nat.le_trans (Nat.le_of_ble_eq_true rfl) K.2.2.2.2.1⟩ hth.1 hth.2 (by decide) rfl rfl (rest := []) rfl (Nat.le_of_ble_eq_true rfl) dX6_input_9 (fun σ15 w hq => ?_) (fun σ9 E9 hx9 => hX σ9 E9 _ _ _ (tb_out K.2.2.2.2.2.1 rfl) hx9.1 hx9.2.1 hx9.2.2.1 (hE.trans hx9.2.2.2))
  obtain ⟨rfl, h, hGσ15, hYσ15, xσ15⟩ := hq
  have h := h xσ15
  intro H locs ls hH hl hc
  refine W.eq (g2 := F0 m 12 ls []) (rfl) ?_
  try dsimp only at h
  exact a_X6_input_12 K hQ hX hTh _ h hGσ15 hYσ15 (hE.trans xσ15) (hth.up xσ15) _ _ _ hH (lv_sub (l' := [(0, .ref th)]) hl [0] rfl) hc
set_option maxRecDepth 20000 in
theorem a_X6_input_0 {Q : Sg → Int → Prop} {X : Sg → String → Prop} {th : Nat} (K : MD l R p s m args c cX6_input 2 RX6 D cA tys A n0 s0 8 131 []) (hQ : CQI p l e R s m args below meth c cX6_input D cA A n0 s0 QM σi Q) (hX : CX p l e R s m args below meth c 2 D cA A n0 s0 QM σi X) (hTh : CT p l e R s m args below meth c cX6_input 2 D cA A n0 s0 QM σi RX6 X) : ∀ (σ : Sg), w_X6_input_0 th Q X σ → RG σ → TY σ → Ext σi σ → kO σ th 6 → JJ p l e R s m args below meth c 2 D cA A n0 s0 QM σ 0 [(0, .ref th)] [] := by
  intro σ h hGσ hYσ hE hth H locs ls hH hl hc
  have B := K.1
  have hl9 := K.2.2.2.2.2.2
  unfold w_X6_input_0 at h
  refine lv_aload_n B.1 B.2.1 dX6_input_0 rfl (lv_at hl 0 rfl) ?_
  refine f_geti B hH hth (by decide) rfl wu_X6 3 (by decide) wf_X6_43 rfl rfl dX6_input_1 ?_
  refine lv_iconst (v := i32 1) B.1 B.2.1 dX6_input_4 (by decide) ?_
  refine lv_icmp_eq (tgt := 12) B.1 B.2.1 dX6_input_5 (by decide) (fun h9 => ?_) (fun h9 => ?_)
  · rw [if_pos ((i32_eq (hGσ _ _) (by unfold rng; omega)).mp h9)] at h
    exact a_X6_input_12 K hQ hX hTh _ h hGσ hYσ hE hth _ _ _ hH (lv_sub (l' := [(0, .ref th)]) hl [0] rfl) hc
  · rw [if_neg (fun q => h9 ((i32_eq (hGσ _ _) (by unfold rng; omega)).mpr q))] at h
    exact a_X6_input_8 K hQ hX hTh _ h hGσ hYσ hE hth _ _ _ hH (lv_sub (l' := [(0, .ref th)]) hl [0] rfl) hc
theorem ok_X6_input (hl0 : l.stackTraces = false) (hT : TyC cA tys) {Q : Sg → Int → Prop} {X : Sg → String → Prop} (σ : Sg) (th : Nat) (hth : kO σ th 6) (hG : RG σ) (hY : TY σ) (h : wp_X6_input th σ Q X) : Ok l D cA tys A yX6_input (.code yX6_input cX6_input 2 (some .int)) 8 131 [.ref th] σ (QcI σ Q) (QxC σ X) := by
  unfold wp_X6_input at h
  exact oc_I hl0 (by decide) (by exact Nat.le_of_ble_eq_true rfl) hT (fun p e R s m args below meth c K hQ hX hTh H locs ls hH hl hc => a_X6_input_0 K hQ hX hTh σ h hG hY (Ext.rfl' σ) hth H locs ls hH (lv_sub (l' := [(0, .ref th)]) hl [0] rfl) hc)
theorem dX6_firstInput_0 : decode cX6_firstInput 0 = .ok (.aload_n 0, 1) := by decide +kernel
theorem dX6_firstInput_1 : decode cX6_firstInput 1 = .ok (.getfield 88, 3) := by decide +kernel
theorem dX6_firstInput_4 : decode cX6_firstInput 4 = .ok (.iload_n 1, 1) := by decide +kernel
theorem dX6_firstInput_5 : decode cX6_firstInput 5 = .ok (.putfield 131, 3) := by decide +kernel
theorem dX6_firstInput_8 : decode cX6_firstInput 8 = .ok (.aload_n 0, 1) := by decide +kernel
theorem dX6_firstInput_9 : decode cX6_firstInput 9 = .ok (.getfield 88, 3) := by decide +kernel
theorem dX6_firstInput_12 : decode cX6_firstInput 12 = .ok (.aload_n 0, 1) := by decide +kernel
theorem dX6_firstInput_13 : decode cX6_firstInput 13 = .ok (.invokevirtual 174, 3) := by decide +kernel
theorem dX6_firstInput_16 : decode cX6_firstInput 16 = .ok (.putfield 155, 3) := by decide +kernel
theorem dX6_firstInput_19 : decode cX6_firstInput 19 = .ok (.return_, 1) := by decide +kernel
set_option maxRecDepth 20000 in
theorem a_X6_firstInput_0 {Q : Sg → Unit → Prop} {X : Sg → String → Prop} {th : Nat} (K : MD l R p s m args c cX6_firstInput 2 RX6 D cA tys A n0 s0 9 152 []) (hQ : CQV p l e R s m args below meth c cX6_firstInput D cA A n0 s0 QM σi Q) (hX : CX p l e R s m args below meth c 2 D cA A n0 s0 QM σi X) (hTh : CT p l e R s m args below meth c cX6_firstInput 2 D cA A n0 s0 QM σi RX6 X) : ∀ (σ : Sg) (v1 : Int) (g1 : rng v1), w_X6_firstInput_0 th Q X σ v1 → RG σ → TY σ → Ext σi σ → kO σ th 6 → JJ p l e R s m args below meth c 2 D cA A n0 s0 QM σ 0 [(0, .ref th), (1, .int (i32 v1))] [] := by
  intro σ v1 g1 h hGσ hYσ hE hth H locs ls hH hl hc
  have B := K.1
  have hl9 := K.2.2.2.2.2.2
  unfold w_X6_firstInput_0 at h
  refine lv_aload_n B.1 B.2.1 dX6_firstInput_0 rfl (lv_at hl 0 rfl) ?_
  refine f_getp B hH hth (by decide) rfl wu_X6 8 (by decide) wf_X6_88 rfl rfl dX6_firstInput_1 ?_
  refine lv_iload_n B.1 B.2.1 dX6_firstInput_4 rfl (lv_at hl 1 rfl) ?_
  obtain ⟨a13, ea13, h⟩ := h
  have ka13 : kO σ a13 5 := (hYσ.get hth (by decide)) a13 ea13
  have h := h ka13
  obtain ⟨σ14, eσ14⟩ : ∃ z, z = pI σ a13 6 v1 := ⟨_, rfl⟩
  have h := h σ14 eσ14
  refine W.eq (g2 := F0 m 5 ls [.int (i32 v1), .ref a13]) (by rw [ea13]; rfl) ?_
  refine f_puti B hH ka13 (by decide) rfl wu_X5 tyX5 tyX5_ok nmX5 6 (by decide) wf_X6_131 rfl (ty := .int) rfl rfl rfl rfl rfl dX6_firstInput_5 (fun H locs hH => ?_)
  have hH : Hd D cA A s (pI σ a13 6 v1) H locs := hH
  rw [← eσ14] at hH
  have hGσ14 : RG σ14 := by rw [eσ14]; exact hGσ.pI g1
  have hYσ14 : TY σ14 := by rw [eσ14]; exact hYσ.pI
  have xσ14 : Ext σ σ14 := by rw [eσ14]; exact Ext.pI
  have hc : CB n0 s0 σ14 := by rw [eσ14]; exact hc
  rw [show gc σ = gc σ14 by rw [eσ14]; try rfl, show gs σ = gs σ14 by rw [eσ14]; try rfl]
  refine lv_aload_n B.1 B.2.1 dX6_firstInput_8 rfl (lv_at hl 0 rfl) ?_
  refine f_getp B hH (hth.up xσ14) (by decide) rfl wu_X6 8 (by decide) wf_X6_88 rfl rfl dX6_firstInput_9 ?_
  refine lv_aload_n B.1 B.2.1 dX6_firstInput_12 rfl (lv_at hl 0 rfl) ?_
  refine W.eq (g2 := F0 m 13 ls [.ref th, va_rf (gP σ14 th 8)]) (rfl) ?_
  refine c_V B hH hl hc K.2.2.1 (C := RX6) (T := TX6) (N := 9) (ci := 6) (As := []) (ok_X6_input hl9 K.2.1 σ14 th (hth.up xσ14) hGσ14 hYσ14 h) wc_X6_174 0 hd_X6_input ⟨Nat.le_trans (Nat.le_of_ble_eq_true rfl) K.2.2.2.1, Nat.le_trans (Nat.le_of_ble_eq_true rfl) K.2.2.2.2.1⟩ (hth.up xσ14).1 (hth.up xσ14).2 (by decide) rfl rfl (rest := [va_rf (gP σ14 th 8)]) rfl (by simp only [List.map_cons, List.map_nil, rf_cat]; exact Nat.le_of_ble_eq_true rfl) dX6_firstInput_13 (fun σ15 w hq => ?_) (fun σ9 E9 hx9 => hX σ9 E9 _ _ _ (tb_out K.2.2.2.2.2.1 rfl) hx9.1 hx9.2.1 hx9.2.2.1 ((hE.trans xσ14).trans hx9.2.2.2))
  obtain ⟨r16, rfl, gr16, h, hGσ15, hYσ15, xσ15⟩ := hq
  have h := h xσ15
  intro H locs ls hH hl hc
  refine W.eq (g2 := F0 m 16 ls [.int (i32 r16), va_rf (gP σ14 th 8)]) (rfl) ?_
  try dsimp only at h
  obtain ⟨a17, ea17, h⟩ := h
  have ka17 : kO σ15 a17 5 := ((hYσ14.get (hth.up xσ14) (by decide)).up xσ15) a17 ea17
  have h := h ka17
  obtain ⟨σ18, eσ18⟩ : ∃ z, z = pI σ15 a17 7 r16 := ⟨_, rfl⟩
  have h := h σ18 eσ18
  refine W.eq (g2 := F0 m 16 ls [.int (i32 r16), .ref a17]) (by rw [ea17]; rfl) ?_
  refine f_puti B hH ka17 (by decide) rfl wu_X5 tyX5 tyX5_ok nmX5 7 (by decide) wf_X6_155 rfl (ty := .int) rfl rfl rfl rfl rfl dX6_firstInput_16 (fun H locs hH => ?_)
  have hH : Hd D cA A s (pI σ15 a17 7 r16) H locs := hH
  rw [← eσ18] at hH
  have hGσ18 : RG σ18 := by rw [eσ18]; exact hGσ15.pI gr16
  have hYσ18 : TY σ18 := by rw [eσ18]; exact hYσ15.pI
  have xσ18 : Ext σ15 σ18 := by rw [eσ18]; exact Ext.pI
  have hc : CB n0 s0 σ18 := by rw [eσ18]; exact hc
  rw [show gc σ15 = gc σ18 by rw [eσ18]; try rfl, show gs σ15 = gs σ18 by rw [eσ18]; try rfl]
  exact hQ _ _ _ _ _ dX6_firstInput_19 hH hc h hGσ18 hYσ18 (((hE.trans xσ14).trans xσ15).trans xσ18)
theorem ok_X6_firstInput (hl0 : l.stackTraces = false) (hT : TyC cA tys) {Q : Sg → Unit → Prop} {X : Sg → String → Prop} (σ : Sg) (th : Nat) (v1 : Int) (g1 : rng v1) (hth : kO σ th 6) (hG : RG σ) (hY : TY σ) (h : wp_X6_firstInput th v1 σ Q X) : Ok l D cA tys A yX6_firstInput (.code yX6_firstInput cX6_firstInput 2 none) 9 152 [.ref th, .int (i32 v1)] σ (QcV σ Q) (QxC σ X) := by
  unfold wp_X6_firstInput at h
  exact oc_V hl0 (by decide) (by exact Nat.le_of_ble_eq_true rfl) hT (fun p e R s m args below meth c K hQ hX hTh hin9 H locs ls hH hl hc => a_X6_firstInput_0 K hQ hX hTh σ v1 g1 h hG hY (Ext.rfl' σ) hth H locs ls hH (lv_sub (l' := [(0, .ref th), (1, .int (i32 v1))]) hl [0, 1] rfl) hc)
theorem dX6_filterText_0 : decode cX6_filterText 0 = .ok (.aload_n 0, 1) := by decide +kernel
theorem dX6_filterText_1 : decode cX6_filterText 1 = .ok (.invokevirtual 40, 3) := by decide +kernel
theorem dX6_filterText_4 : decode cX6_filterText 4 = .ok (.aload_n 0, 1) := by decide +kernel
theorem dX6_filterText_5 : decode cX6_filterText 5 = .ok (.iconst 1, 1) := by decide +kernel
theorem dX6_filterText_6 : decode cX6_filterText 6 = .ok (.invokevirtual 152, 3) := by decide +kernel
theorem dX6_filterText_9 : decode cX6_filterText 9 = .ok (.aload_n 0, 1) := by decide +kernel
theorem dX6_filterText_10 : decode cX6_filterText 10 = .ok (.invokevirtual 40, 3) := by decide +kernel
theorem dX6_filterText_13 : decode cX6_filterText 13 = .ok (.aload_n 0, 1) := by decide +kernel
theorem dX6_filterText_14 : decode cX6_filterText 14 = .ok (.getfield 88, 3) := by decide +kernel
theorem dX6_filterText_17 : decode cX6_filterText 17 = .ok (.aload_n 0, 1) := by decide +kernel
theorem dX6_filterText_18 : decode cX6_filterText 18 = .ok (.getfield 31, 3) := by decide +kernel
theorem dX6_filterText_21 : decode cX6_filterText 21 = .ok (.getfield 84, 3) := by decide +kernel
theorem dX6_filterText_24 : decode cX6_filterText 24 = .ok (.aload_n 0, 1) := by decide +kernel
theorem dX6_filterText_25 : decode cX6_filterText 25 = .ok (.getfield 88, 3) := by decide +kernel
theorem dX6_filterText_28 : decode cX6_filterText 28 = .ok (.getfield 155, 3) := by decide +kernel
theorem dX6_filterText_31 : decode cX6_filterText 31 = .ok (.aaload, 1) := by decide +kernel
theorem dX6_filterText_32 : decode cX6_filterText 32 = .ok (.invokevirtual 158, 3) := by decide +kernel
theorem dX6_filterText_35 : decode cX6_filterText 35 = .ok (.aload_n 0, 1) := by decide +kernel
theorem dX6_filterText_36 : decode cX6_filterText 36 = .ok (.bipush 58, 2) := by decide +kernel
theorem dX6_filterText_38 : decode cX6_filterText 38 = .ok (.invokevirtual 57, 3) := by decide +kernel
theorem dX6_filterText_41 : decode cX6_filterText 41 = .ok (.aload_n 0, 1) := by decide +kernel
theorem dX6_filterText_42 : decode cX6_filterText 42 = .ok (.invokevirtual 162, 3) := by decide +kernel
theorem dX6_filterText_45 : decode cX6_filterText 45 = .ok (.aload_n 0, 1) := by decide +kernel
theorem dX6_filterText_46 : decode cX6_filterText 46 = .ok (.iconst 0, 1) := by decide +kernel
theorem dX6_filterText_47 : decode cX6_filterText 47 = .ok (.invokevirtual 165, 3) := by decide +kernel
theorem dX6_filterText_50 : decode cX6_filterText 50 = .ok (.aload_n 0, 1) := by decide +kernel
theorem dX6_filterText_51 : decode cX6_filterText 51 = .ok (.getfield 31, 3) := by decide +kernel
theorem dX6_filterText_54 : decode cX6_filterText 54 = .ok (.iconst 0, 1) := by decide +kernel
theorem dX6_filterText_55 : decode cX6_filterText 55 = .ok (.lconst 0, 1) := by decide +kernel
theorem dX6_filterText_56 : decode cX6_filterText 56 = .ok (.invokevirtual 167, 3) := by decide +kernel
theorem dX6_filterText_59 : decode cX6_filterText 59 = .ok (.pop, 1) := by decide +kernel
theorem dX6_filterText_60 : decode cX6_filterText 60 = .ok (.return_, 1) := by decide +kernel
set_option maxRecDepth 20000 in
theorem a_X6_filterText_0 {Q : Sg → Unit → Prop} {X : Sg → String → Prop} {th : Nat} (K : MD l R p s m args c cX6_filterText 1 RX6 D cA tys A n0 s0 161 11223 []) (hQ : CQV p l e R s m args below meth c cX6_filterText D cA A n0 s0 QM σi Q) (hX : CX p l e R s m args below meth c 1 D cA A n0 s0 QM σi X) (hTh : CT p l e R s m args below meth c cX6_filterText 1 D cA A n0 s0 QM σi RX6 X) : ∀ (σ : Sg), w_X6_filterText_0 th Q X σ → RG σ → TY σ → Ext σi σ → kO σ th 6 → JJ p l e R s m args below meth c 1 D cA A n0 s0 QM σ 0 [(0, .ref th)] [] := by
  intro σ h hGσ hYσ hE hth H locs ls hH hl hc
  have B := K.1
  have hl9 := K.2.2.2.2.2.2
  unfold w_X6_filterText_0 at h
  refine lv_aload_n B.1 B.2.1 dX6_filterText_0 rfl (lv_at hl 0 rfl) ?_
  refine W.eq (g2 := F0 m 1 ls [.ref th]) (rfl) ?_
  refine c_V B hH hl hc K.2.2.1 (C := RX6) (T := TX6) (N := 9) (ci := 6) (As := []) (ok_X6_next hl9 K.2.1 σ th hth hGσ hYσ h) wc_X6_40 0 hd_X6_next ⟨Nat.le_trans (Nat.le_of_ble_eq_true rfl) K.2.2.2.1, Nat.le_trans (Nat.le_of_ble_eq_true rfl) K.2.2.2.2.1⟩ hth.1 hth.2 (by decide) rfl rfl (rest := []) rfl (Nat.le_of_ble_eq_true rfl) dX6_filterText_1 (fun σ27 w hq => ?_) (fun σ9 E9 hx9 => hX σ9 E9 _ _ _ (tb_out K.2.2.2.2.2.1 rfl) hx9.1 hx9.2.1 hx9.2.2.1 (hE.trans hx9.2.2.2))
  obtain ⟨rfl, h, hGσ27, hYσ27, xσ27⟩ := hq
  have h := h xσ27
  intro H locs ls hH hl hc
  refine W.eq (g2 := F0 m 4 ls []) (rfl) ?_
  try dsimp only at h
  refine lv_aload_n B.1 B.2.1 dX6_filterText_4 rfl (lv_at hl 0 rfl) ?_
  refine lv_iconst (v := i32 1) B.1 B.2.1 dX6_filterText_5 (by decide) ?_
  refine W.eq (g2 := F0 m 6 ls [.int (i32 1), .ref th]) (rfl) ?_
  refine c_V B hH hl hc K.2.2.1 (C := RX6) (T := TX6) (N := 9) (ci := 6) (As := [.int (i32 1)]) (ok_X6_firstInput hl9 K.2.1 σ27 th 1 (by unfold rng; omega) (hth.up xσ27) hGσ27 hYσ27 h) wc_X6_152 1 hd_X6_firstInput ⟨Nat.le_trans (Nat.le_of_ble_eq_true rfl) K.2.2.2.1, Nat.le_trans (Nat.le_of_ble_eq_true rfl) K.2.2.2.2.1⟩ (hth.up xσ27).1 (hth.up xσ27).2 (by decide) rfl rfl (rest := []) rfl (Nat.le_of_ble_eq_true rfl) dX6_filterText_6 (fun σ28 w hq => ?_) (fun σ9 E9 hx9 => hX σ9 E9 _ _ _ (tb_out K.2.2.2.2.2.1 rfl) hx9.1 hx9.2.1 hx9.2.2.1 ((hE.trans xσ27).trans hx9.2.2.2))
  obtain ⟨rfl, h, hGσ28, hYσ28, xσ28⟩ := hq
  have h := h xσ28
  intro H locs ls hH hl hc
  refine W.eq (g2 := F0 m 9 ls []) (rfl) ?_
  try dsimp only at h
  refine lv_aload_n B.1 B.2.1 dX6_filterText_9 rfl (lv_at hl 0 rfl) ?_
  refine W.eq (g2 := F0 m 10 ls [.ref th]) (rfl) ?_
  refine c_V B hH hl hc K.2.2.1 (C := RX6) (T := TX6) (N := 9) (ci := 6) (As := []) (ok_X6_next hl9 K.2.1 σ28 th (hth.up (xσ27.trans xσ28)) hGσ28 hYσ28 h) wc_X6_40 0 hd_X6_next ⟨Nat.le_trans (Nat.le_of_ble_eq_true rfl) K.2.2.2.1, Nat.le_trans (Nat.le_of_ble_eq_true rfl) K.2.2.2.2.1⟩ (hth.up (xσ27.trans xσ28)).1 (hth.up (xσ27.trans xσ28)).2 (by decide) rfl rfl (rest := []) rfl (Nat.le_of_ble_eq_true rfl) dX6_filterText_10 (fun σ29 w hq => ?_) (fun σ9 E9 hx9 => hX σ9 E9 _ _ _ (tb_out K.2.2.2.2.2.1 rfl) hx9.1 hx9.2.1 hx9.2.2.1 (((hE.trans xσ27).trans xσ28).trans hx9.2.2.2))
  obtain ⟨rfl, h, hGσ29, hYσ29, xσ29⟩ := hq
  have h := h xσ29
  intro H locs ls hH hl hc
  refine W.eq (g2 := F0 m 13 ls []) (rfl) ?_
  try dsimp only at h
  refine lv_aload_n B.1 B.2.1 dX6_filterText_13 rfl (lv_at hl 0 rfl) ?_
  refine f_getp B hH (hth.up (xσ27.trans (xσ28.trans xσ29))) (by decide) rfl wu_X6 8 (by decide) wf_X6_88 rfl rfl dX6_filterText_14 ?_
  refine lv_aload_n B.1 B.2.1 dX6_filterText_17 rfl (lv_at hl 0 rfl) ?_
  refine f_getp B hH (hth.up (xσ27.trans (xσ28.trans xσ29))) (by decide) rfl wu_X6 7 (by decide) wf_X6_31 rfl rfl dX6_filterText_18 ?_
  obtain ⟨a30, ea30, h⟩ := h
  have ka30 : kO σ29 a30 4 := (hYσ29.get (hth.up (xσ27.trans (xσ28.trans xσ29))) (by decide)) a30 ea30
  have h := h ka30
  refine W.eq (g2 := F0 m 21 ls [.ref a30, va_rf (gP σ29 th 8)]) (by rw [ea30]; rfl) ?_
  refine f_getp B hH ka30 (by decide) rfl wu_X4 0 (by decide) wf_X6_84 rfl rfl dX6_filterText_21 ?_
  refine lv_aload_n B.1 B.2.1 dX6_filterText_24 rfl (lv_at hl 0 rfl) ?_
  refine f_getp B hH (hth.up (xσ27.trans (xσ28.trans xσ29))) (by decide) rfl wu_X6 8 (by decide) wf_X6_88 rfl rfl dX6_filterText_25 ?_
  obtain ⟨a31, ea31, h⟩ := h
  have ka31 : kO σ29 a31 5 := (hYσ29.get (hth.up (xσ27.trans (xσ28.trans xσ29))) (by decide)) a31 ea31
  have h := h ka31
  refine W.eq (g2 := F0 m 28 ls [.ref a31, va_rf (gP σ29 a30 0), va_rf (gP σ29 th 8)]) (by rw [ea31]; rfl) ?_
  refine f_geti B hH ka31 (by decide) rfl wu_X5 7 (by decide) wf_X6_155 rfl rfl dX6_filterText_28 ?_
  obtain ⟨a32, ea32, h⟩ := h
  have ka32 : kO σ29 a32 115 := (hYσ29.get ka30 (by decide)) a32 ea32
  have h := h ka32
  obtain ⟨q1, h⟩ := h
  refine W.eq (g2 := F0 m 31 ls [.int (i32 (gI σ29 a31 7)), .ref a32, va_rf (gP σ29 th 8)]) (by rw [ea32]; rfl) ?_
  refine y_aald B hH (t0 := 6) ka32 (by decide) K.2.1.2.2.2.1 q1 (hYσ29.2 _) dX6_filterText_31 ?_
  refine W.eq (g2 := F0 m 32 ls [va_rf (gP σ29 a32 (gI σ29 a31 7).toNat), .ref a31]) (by rw [ea31]; rfl) ?_
  refine c_V B hH hl hc K.2.2.1 (C := RX5) (T := TX5) (N := 17) (ci := 5) (As := [va_rf (gP σ29 a32 (gI σ29 a31 7).toNat)]) (ok_X5_addColumnsOf hl9 K.2.1 σ29 a31 (gP σ29 a32 (gI σ29 a31 7).toNat) (hYσ29.get ka32 rfl) ka31 hGσ29 hYσ29 h) wc_X6_158 1 hd_X5_addColumnsOf ⟨Nat.le_trans (Nat.le_of_ble_eq_true rfl) K.2.2.2.1, Nat.le_trans (Nat.le_of_ble_eq_true rfl) K.2.2.2.2.1⟩ ka31.1 ka31.2 (by decide) rfl rfl (rest := []) rfl (Nat.le_of_ble_eq_true rfl) dX6_filterText_32 (fun σ33 w hq => ?_) (fun σ9 E9 hx9 => hX σ9 E9 _ _ _ (tb_out K.2.2.2.2.2.1 rfl) hx9.1 hx9.2.1 hx9.2.2.1 ((((hE.trans xσ27).trans xσ28).trans xσ29).trans hx9.2.2.2))
  obtain ⟨rfl, h, hGσ33, hYσ33, xσ33⟩ := hq
  have h := h xσ33
  intro H locs ls hH hl hc
  refine W.eq (g2 := F0 m 35 ls []) (rfl) ?_
  try dsimp only at h
  refine lv_aload_n B.1 B.2.1 dX6_filterText_35 rfl (lv_at hl 0 rfl) ?_
  refine lv_bipush (v := i32 58) B.1 B.2.1 dX6_filterText_36 (by decide) ?_
  refine W.eq (g2 := F0 m 38 ls [.int (i32 58), .ref th]) (rfl) ?_
  refine c_V B hH hl hc K.2.2.1 (C := RX6) (T := TX6) (N := 9) (ci := 6) (As := [.int (i32 58)]) (ok_X6_wantSign hl9 K.2.1 σ33 th 58 (by unfold rng; omega) (hth.up (xσ27.trans (xσ28.trans (xσ29.trans xσ33)))) hGσ33 hYσ33 h) wc_X6_57 1 hd_X6_wantSign ⟨Nat.le_trans (Nat.le_of_ble_eq_true rfl) K.2.2.2.1, Nat.le_trans (Nat.le_of_ble_eq_true rfl) K.2.2.2.2.1⟩ (hth.up (xσ27.trans (xσ28.trans (xσ29.trans xσ33)))).1 (hth.up (xσ27.trans (xσ28.trans (xσ29.trans xσ33)))).2 (by decide) rfl rfl (rest := []) rfl (Nat.le_of_ble_eq_true rfl) dX6_filterText_38 (fun σ34 w hq => ?_) (fun σ9 E9 hx9 => hX σ9 E9 _ _ _ (tb_out K.2.2.2.2.2.1 rfl) hx9.1 hx9.2.1 hx9.2.2.1 (((((hE.trans xσ27).trans xσ28).trans xσ29).trans xσ33).trans hx9.2.2.2))
  obtain ⟨rfl, h, hGσ34, hYσ34, xσ34⟩ := hq
  have h := h xσ34
  intro H locs ls hH hl hc
  refine W.eq (g2 := F0 m 41 ls []) (rfl) ?_
  try dsimp only at h
  refine lv_aload_n B.1 B.2.1 dX6_filterText_41 rfl (lv_at hl 0 rfl) ?_
  refine W.eq (g2 := F0 m 42 ls [.ref th]) (rfl) ?_
  refine c_V B hH hl hc K.2.2.1 (C := RX6) (T := TX6) (N := 9) (ci := 6) (As := []) (ok_X6_newValue hl9 K.2.1 σ34 th (hth.up (xσ27.trans (xσ28.trans (xσ29.trans (xσ33.trans xσ34))))) hGσ34 hYσ34 h) wc_X6_162 0 hd_X6_newValue ⟨Nat.le_trans (Nat.le_of_ble_eq_true rfl) K.2.2.2.1, Nat.le_trans (Nat.le_of_ble_eq_true rfl) K.2.2.2.2.1⟩ (hth.up (xσ27.trans (xσ28.trans (xσ29.trans (xσ33.trans xσ34))))).1 (hth.up (xσ27.trans (xσ28.trans (xσ29.trans (xσ33.trans xσ34))))).2 (by decide) rfl rfl (rest := []) rfl (Nat.le_of_ble_eq_true rfl) dX6_filterText_42 (fun σ35 w hq => ?_) (fun σ9 E9 hx9 => hX σ9 E9 _ _ _ (tb_out K.2.2.2.2.2.1 rfl) hx9.1 hx9.2.1 hx9.2.2.1 ((((((hE.trans xσ27).trans xσ28).trans xσ29).trans xσ33).trans xσ34).trans hx9.2.2.2))
  obtain ⟨rfl, h, hGσ35, hYσ35, xσ35⟩ := hq
  have h := h xσ35
  intro H locs ls hH hl hc
  refine W.eq (g2 := F0 m 45 ls []) (rfl) ?_
  try dsimp only at h
  refine lv_aload_n B.1 B.2.1 dX6_filterText_45 rfl (lv_at hl 0 rfl) ?_
  refine lv_iconst (v := i32 0) B.1 B.2.1 dX6_filterText_46 (by decide) ?_
  refine W.eq (g2 := F0 m 47 ls [.int (i32 0), .ref th]) (rfl) ?_
  refine c_V B hH hl hc K.2.2.1 (C := RX6) (T := TX6) (N := 9) (ci := 6) (As := [.int (i32 0)]) (ok_X6_value hl9 K.2.1 σ35 th 0 (by unfold rng; omega) (hth.up (xσ27.trans (xσ28.trans (xσ29.trans (xσ33.trans (xσ34.trans xσ35)))))) hGσ35 hYσ35 h) wc_X6_165 1 hd_X6_value ⟨Nat.le_trans (Nat.le_of_ble_eq_true rfl) K.2.2.2.1, Nat.le_trans (Nat.le_of_ble_eq_true rfl) K.2.2.2.2.1⟩ (hth.up (xσ27.trans (xσ28.trans (xσ29.trans (xσ33.trans (xσ34.trans xσ35)))))).1 (hth.up (xσ27.trans (xσ28.trans (xσ29.trans (xσ33.trans (xσ34.trans xσ35)))))).2 (by decide) rfl rfl (rest := []) rfl (Nat.le_of_ble_eq_true rfl) dX6_filterText_47 (fun σ36 w hq => ?_) (fun σ9 E9 hx9 => hX σ9 E9 _ _ _ (tb_out K.2.2.2.2.2.1 rfl) hx9.1 hx9.2.1 hx9.2.2.1 (((((((hE.trans xσ27).trans xσ28).trans xσ29).trans xσ33).trans xσ34).trans xσ35).trans hx9.2.2.2))
  obtain ⟨rfl, h, hGσ36, hYσ36, xσ36⟩ := hq
  have h := h xσ36
  intro H locs ls hH hl hc
  refine W.eq (g2 := F0 m 50 ls []) (rfl) ?_
  try dsimp only at h
  refine lv_aload_n B.1 B.2.1 dX6_filterText_50 rfl (lv_at hl 0 rfl) ?_
  refine f_getp B hH (hth.up (xσ27.trans (xσ28.trans (xσ29.trans (xσ33.trans (xσ34.trans (xσ35.trans xσ36))))))) (by decide) rfl wu_X6 7 (by decide) wf_X6_31 rfl rfl dX6_filterText_51 ?_
  refine lv_iconst (v := i32 0) B.1 B.2.1 dX6_filterText_54 (by decide) ?_
  refine lv_lconst (v := 0) B.1 B.2.1 dX6_filterText_55 (by decide) ?_
  obtain ⟨a39, ea39, h⟩ := h
  have ka39 : kO σ36 a39 4 := (hYσ36.get (hth.up (xσ27.trans (xσ28.trans (xσ29.trans (xσ33.trans (xσ34.trans (xσ35.trans xσ36))))))) (by decide)) a39 ea39
  have h := h ka39
  refine W.eq (g2 := F0 m 56 ls [.long 0, .int (i32 0), .ref a39]) (by rw [ea39]; rfl) ?_
  refine c_V B hH hl hc K.2.2.1 (C := RX4) (T := TX4) (N := 14) (ci := 4) (As := [.int (i32 0), .long 0]) (ok_X4_emit hl9 K.2.1 σ36 a39 0 0 (by unfold rng; omega) ka39 hGσ36 hYσ36 h) wc_X6_167 2 hd_X4_emit ⟨Nat.le_trans (Nat.le_of_ble_eq_true rfl) K.2.2.2.1, Nat.le_trans (Nat.le_of_ble_eq_true rfl) K.2.2.2.2.1⟩ ka39.1 ka39.2 (by decide) rfl rfl (rest := []) rfl (Nat.le_of_ble_eq_true rfl) dX6_filterText_56 (fun σ37 w hq => ?_) (fun σ9 E9 hx9 => hX σ9 E9 _ _ _ (tb_out K.2.2.2.2.2.1 rfl) hx9.1 hx9.2.1 hx9.2.2.1 ((((((((hE.trans xσ27).trans xσ28).trans xσ29).trans xσ33).trans xσ34).trans xσ35).trans xσ36).trans hx9.2.2.2))
  obtain ⟨r38, rfl, gr38, h, hGσ37, hYσ37, xσ37⟩ := hq
  have h := h xσ37
  intro H locs ls hH hl hc
  refine W.eq (g2 := F0 m 59 ls [.int (i32 r38)]) (rfl) ?_
  try dsimp only at h
  refine lv_pop B.1 B.2.1 dX6_filterText_59 rfl ?_
  exact hQ _ _ _ _ _ dX6_filterText_60 hH hc h hGσ37 hYσ37 ((((((((hE.trans xσ27).trans xσ28).trans xσ29).trans xσ33).trans xσ34).trans xσ35).trans xσ36).trans xσ37)
theorem ok_X6_filterText (hl0 : l.stackTraces = false) (hT : TyC cA tys) {Q : Sg → Unit → Prop} {X : Sg → String → Prop} (σ : Sg) (th : Nat) (hth : kO σ th 6) (hG : RG σ) (hY : TY σ) (h : wp_X6_filterText th σ Q X) : Ok l D cA tys A yX6_filterText (.code yX6_filterText cX6_filterText 1 none) 161 11223 [.ref th] σ (QcV σ Q) (QxC σ X) := by
  unfold wp_X6_filterText at h
  exact oc_V hl0 (by decide) (by exact Nat.le_of_ble_eq_true rfl) hT (fun p e R s m args below meth c K hQ hX hTh hin9 H locs ls hH hl hc => a_X6_filterText_0 K hQ hX hTh σ h hG hY (Ext.rfl' σ) hth H locs ls hH (lv_sub (l' := [(0, .ref th)]) hl [0] rfl) hc)
theorem dX6_number_0 : decode cX6_number 0 = .ok (.aload_n 0, 1) := by decide +kernel
theorem dX6_number_1 : decode cX6_number 1 = .ok (.getfield 43, 3) := by decide +kernel
theorem dX6_number_4 : decode cX6_number 4 = .ok (.iconst 4, 1) := by decide +kernel
theorem dX6_number_5 : decode cX6_number 5 = .ok (.if_icmp .eq 7, 3) := by decide +kernel
theorem dX6_number_8 : decode cX6_number 8 = .ok (.aload_n 0, 1) := by decide +kernel
theorem dX6_number_9 : decode cX6_number 9 = .ok (.invokevirtual 70, 3) := by decide +kernel
theorem dX6_number_12 : decode cX6_number 12 = .ok (.aload_n 0, 1) := by decide +kernel
theorem dX6_number_13 : decode cX6_number 13 = .ok (.getfield 73, 3) := by decide +kernel
theorem dX6_number_16 : decode cX6_number 16 = .ok (.iload_n 1, 1) := by decide +kernel
theorem dX6_number_17 : decode cX6_number 17 = .ok (.i2l, 1) := by decide +kernel
theorem dX6_number_18 : decode cX6_number 18 = .ok (.lcmp, 1) := by decide +kernel
theorem dX6_number_19 : decode cX6_number 19 = .ok (.ifCond .lt 13, 3) := by decide +kernel
theorem dX6_number_22 : decode cX6_number 22 = .ok (.aload_n 0, 1) := by decide +kernel
theorem dX6_number_23 : decode cX6_number 23 = .ok (.getfield 73, 3) := by decide +kernel
theorem dX6_number_26 : decode cX6_number 26 = .ok (.iload_n 2, 1) := by decide +kernel
theorem dX6_number_27 : decode cX6_number 27 = .ok (.i2l, 1) := by decide +kernel
theorem dX6_number_28 : decode cX6_number 28 = .ok (.lcmp, 1) := by decide +kernel
theorem dX6_number_29 : decode cX6_number 29 = .ok (.ifCond .le 9, 3) := by decide +kernel
theorem dX6_number_32 : decode cX6_number 32 = .ok (.aload_n 0, 1) := by decide +kernel
theorem dX6_number_33 : decode cX6_number 33 = .ok (.bipush 7, 2) := by decide +kernel
theorem dX6_number_35 : decode cX6_number 35 = .ok (.invokevirtual 81, 3) := by decide +kernel
theorem dX6_number_38 : decode cX6_number 38 = .ok (.aload_n 0, 1) := by decide +kernel
theorem dX6_number_39 : decode cX6_number 39 = .ok (.getfield 73, 3) := by decide +kernel
theorem dX6_number_42 : decode cX6_number 42 = .ok (.l2i, 1) := by decide +kernel
theorem dX6_number_43 : decode cX6_number 43 = .ok (.ireturn, 1) := by decide +kernel
set_option maxRecDepth 20000 in
theorem a_X6_number_38 {Q : Sg → Int → Prop} {X : Sg → String → Prop} {th : Nat} (K : MD l R p s m args c cX6_number 3 RX6 D cA tys A n0 s0 8 131 []) (hQ : CQI p l e R s m args below meth c cX6_number D cA A n0 s0 QM σi Q) (hX : CX p l e R s m args below meth c 3 D cA A n0 s0 QM σi X) (hTh : CT p l e R s m args below meth c cX6_number 3 D cA A n0 s0 QM σi RX6 X) : ∀ (σ : Sg), w_X6_number_38 th Q X σ → RG σ → TY σ → Ext σi σ → kO σ th 6 → JJ p l e R s m args below meth c 3 D cA A n0 s0 QM σ 38 [(0, .ref th)] [] := by
  intro σ h hGσ hYσ hE hth H locs ls hH hl hc
  have B := K.1
  have hl9 := K.2.2.2.2.2.2
  unfold w_X6_number_38 at h
  refine lv_aload_n B.1 B.2.1 dX6_number_38 rfl (lv_at hl 0 rfl) ?_
  refine f_getl B hH hth (by decide) rfl wu_X6 4 (by decide) wf_X6_73 rfl rfl dX6_number_39 ?_
  refine lv_l2i B.1 B.2.1 dX6_number_42 rfl ?_
  refine W.eq (g2 := F0 m 43 ls [.int (i32 ((gJ σ th 4).toInt32.toInt))]) (by simp only [i32_self]) ?_
  exact hQ _ _ _ _ _ _ (rng_toInt _) dX6_number_43 hH hc h hGσ hYσ hE
set_option maxRecDepth 20000 in
theorem a_X6_number_32 {Q : Sg → Int → Prop} {X : Sg → String → Prop} {th : Nat} (K : MD l R p s m args c cX6_number 3 RX6 D cA tys A n0 s0 8 131 []) (hQ : CQI p l e R s m args below meth c cX6_number D cA A n0 s0 QM σi Q) (hX : CX p l e R s m args below meth c 3 D cA A n0 s0 QM σi X) (hTh : CT p l e R s m args below meth c cX6_number 3 D cA A n0 s0 QM σi RX6 X) : ∀ (σ : Sg), w_X6_number_32 th Q X σ → RG σ → TY σ → Ext σi σ → kO σ th 6 → JJ p l e R s m args below meth c 3 D cA A n0 s0 QM σ 32 [(0, .ref th)] [] := by
  intro σ h hGσ hYσ hE hth H locs ls hH hl hc
  have B := K.1
  have hl9 := K.2.2.2.2.2.2
  unfold w_X6_number_32 at h
  refine lv_aload_n B.1 B.2.1 dX6_number_32 rfl (lv_at hl 0 rfl) ?_
  refine lv_bipush (v := i32 7) B.1 B.2.1 dX6_number_33 (by decide) ?_
  refine W.eq (g2 := F0 m 35 ls [.int (i32 7), .ref th]) (rfl) ?_
  refine c_V B hH hl hc K.2.2.1 (C := RX6) (T := TX6) (N := 9) (ci := 6) (As := [.int (i32 7)]) (ok_X6_refuse hl9 K.2.1 σ th 7 (by unfold rng; omega) hth hGσ hYσ h) wc_X6_81 1 hd_X6_refuse ⟨Nat.le_trans (Nat.le_of_ble_eq_true rfl) K.2.2.2.1, Nat.le_trans (Nat.le_of_ble_eq_true rfl) K.2.2.2.2.1⟩ hth.1 hth.2 (by decide) rfl rfl (rest := []) rfl (Nat.le_of_ble_eq_true rfl) dX6_number_35 (fun σ5 w hq => ?_) (fun σ9 E9 hx9 => hX σ9 E9 _ _ _ (tb_out K.2.2.2.2.2.1 rfl) hx9.1 hx9.2.1 hx9.2.2.1 (hE.trans hx9.2.2.2))
  obtain ⟨rfl, h, hGσ5, hYσ5, xσ5⟩ := hq
  have h := h xσ5
  intro H locs ls hH hl hc
  refine W.eq (g2 := F0 m 38 ls []) (rfl) ?_
  try dsimp only at h
  exact a_X6_number_38 K hQ hX hTh _ h hGσ5 hYσ5 (hE.trans xσ5) (hth.up xσ5) _ _ _ hH (lv_sub (l' := [(0, .ref th)]) hl [0] rfl) hc
set_option maxRecDepth 20000 in
theorem a_X6_number_22 {Q : Sg → Int → Prop} {X : Sg → String → Prop} {th : Nat} (K : MD l R p s m args c cX6_number 3 RX6 D cA tys A n0 s0 8 131 []) (hQ : CQI p l e R s m args below meth c cX6_number D cA A n0 s0 QM σi Q) (hX : CX p l e R s m args below meth c 3 D cA A n0 s0 QM σi X) (hTh : CT p l e R s m args below meth c cX6_number 3 D cA A n0 s0 QM σi RX6 X) : ∀ (σ : Sg) (v2 : Int) (g2 : rng v2), w_X6_number_22 th Q X σ v2 → RG σ → TY σ → Ext σi σ → kO σ th 6 → JJ p l e R s m args below meth c 3 D cA A n0 s0 QM σ 22 [(0, .ref th), (2, .int (i32 v2))] [] := by
  intro σ v2 g2 h hGσ hYσ hE hth H locs ls hH hl hc
  have B := K.1
  have hl9 := K.2.2.2.2.2.2
  unfold w_X6_number_22 at h
  refine lv_aload_n B.1 B.2.1 dX6_number_22 rfl (lv_at hl 0 rfl) ?_
  refine f_getl B hH hth (by decide) rfl wu_X6 4 (by decide) wf_X6_73 rfl rfl dX6_number_23 ?_
  refine lv_iload_n B.1 B.2.1 dX6_number_26 rfl (lv_at hl 1 rfl) ?_
  refine lv_i2l B.1 B.2.1 dX6_number_27 (i32_i64 g2) ?_
  refine W.lcmp B.1 B.2.1 dX6_number_28 ?_
  refine lv_if_le (tgt := 38) B.1 B.2.1 dX6_number_29 (by decide) (fun h9 => ?_) (fun h9 => ?_)
  · rw [if_pos ((lg_cmp_le _ _).mp h9)] at h
    exact a_X6_number_38 K hQ hX hTh _ h hGσ hYσ hE hth _ _ _ hH (lv_sub (l' := [(0, .ref th)]) hl [0] rfl) hc
  · rw [if_neg (fun q => h9 ((lg_cmp_le _ _).mpr q))] at h
    exact a_X6_number_32 K hQ hX hTh _ h hGσ hYσ hE hth _ _ _ hH (lv_sub (l' := [(0, .ref th)]) hl [0] rfl) hc
set_option maxRecDepth 20000 in
theorem a_X6_number_12 {Q : Sg → Int → Prop} {X : Sg → String → Prop} {th : Nat} (K : MD l R p s m args c cX6_number 3 RX6 D cA tys A n0 s0 8 131 []) (hQ : CQI p l e R s m args below meth c cX6_number D cA A n0 s0 QM σi Q) (hX : CX p l e R s m args below meth c 3 D cA A n0 s0 QM σi X) (hTh : CT p l e R s m args below meth c cX6_number 3 D cA A n0 s0 QM σi RX6 X) : ∀ (σ : Sg) (v1 : Int) (v2 : Int) (g1 : rng v1) (g2 : rng v2), w_X6_number_12 th Q X σ v1 v2 → RG σ → TY σ → Ext σi σ → kO σ th 6 → JJ p l e R s m args below meth c 3 D cA A n0 s0 QM σ 12 [(0, .ref th), (1, .int (i32 v1)), (2, .int (i32 v2))] [] := by
  intro σ v1 v2 g1 g2 h hGσ hYσ hE hth H locs ls hH hl hc
  have B := K.1
  have hl9 := K.2.2.2.2.2.2
  unfold w_X6_number_12 at h
  refine lv_aload_n B.1 B.2.1 dX6_number_12 rfl (lv_at hl 0 rfl) ?_
  refine f_getl B hH hth (by decide) rfl wu_X6 4 (by decide) wf_X6_73 rfl rfl dX6_number_13 ?_
  refine lv_iload_n B.1 B.2.1 dX6_number_16 rfl (lv_at hl 1 rfl) ?_
  refine lv_i2l B.1 B.2.1 dX6_number_17 (i32_i64 g1) ?_
  refine W.lcmp B.1 B.2.1 dX6_number_18 ?_
  refine lv_if_lt (tgt := 32) B.1 B.2.1 dX6_number_19 (by decide) (fun h9 => ?_) (fun h9 => ?_)
  · rw [if_pos ((lg_cmp_lt _ _).mp h9)] at h
    exact a_X6_number_32 K hQ hX hTh _ h hGσ hYσ hE hth _ _ _ hH (lv_sub (l' := [(0, .ref th)]) hl [0] rfl) hc
  · rw [if_neg (fun q => h9 ((lg_cmp_lt _ _).mpr q))] at h
    exact a_X6_number_22 K hQ hX hTh _ _ g2 h hGσ hYσ hE hth _ _ _ hH (lv_sub (l' := [(0, .ref th), (2, .int (i32 v2))]) hl [0, 2] rfl) hc
set_option maxRecDepth 20000 in
theorem a_X6_number_8 {Q : Sg → Int → Prop} {X : Sg → String → Prop} {th : Nat} (K : MD l R p s m args c cX6_number 3 RX6 D cA tys A n0 s0 8 131 []) (hQ : CQI p l e R s m args below meth c cX6_number D cA A n0 s0 QM σi Q) (hX : CX p l e R s m args below meth c 3 D cA A n0 s0 QM σi X) (hTh : CT p l e R s m args below meth c cX6_number 3 D cA A n0 s0 QM σi RX6 X) : ∀ (σ : Sg) (v1 : Int) (v2 : Int) (g1 : rng v1) (g2 : rng v2), w_X6_number_8 th Q X σ v1 v2 → RG σ → TY σ → Ext σi σ → kO σ th 6 → JJ p l e R s m args below meth c 3 D cA A n0 s0 QM σ 8 [(0, .ref th), (1, .int (i32 v1)), (2, .int (i32 v2))] [] := by
  intro σ v1 v2 g1 g2 h hGσ hYσ hE hth H locs ls hH hl hc
  have B := K.1
  have hl9 := K.2.2.2.2.2.2
  unfold w_X6_number_8 at h
  refine lv_aload_n B.1 B.2.1 dX6_number_8 rfl (lv_at hl 0 rfl) ?_
  refine W.eq (g2 := F0 m 9 ls [.ref th]) (rfl) ?_
  refine c_V B hH hl hc K.2.2.1 (C := RX6) (T := TX6) (N := 9) (ci := 6) (As := []) (ok_X6_cannotStand hl9 K.2.1 σ th hth hGσ hYσ h) wc_X6_70 0 hd_X6_cannotStand ⟨Nat.le_trans (Nat.le_of_ble_eq_true rfl) K.2.2.2.1, Nat.le_trans (Nat.le_of_ble_eq_true rfl) K.2.2.2.2.1⟩ hth.1 hth.2 (by decide) rfl rfl (rest := []) rfl (Nat.le_of_ble_eq_true rfl) dX6_number_9 (fun σ6 w hq => ?_) (fun σ9 E9 hx9 => hX σ9 E9 _ _ _ (tb_out K.2.2.2.2.2.1 rfl) hx9.1 hx9.2.1 hx9.2.2.1 (hE.trans hx9.2.2.2))
  obtain ⟨rfl, h, hGσ6, hYσ6, xσ6⟩ := hq
  have h := h xσ6
  intro H locs ls hH hl hc
  refine W.eq (g2 := F0 m 12 ls []) (rfl) ?_
  try dsimp only at h
  exact a_X6_number_12 K hQ hX hTh _ _ _ g1 g2 h hGσ6 hYσ6 (hE.trans xσ6) (hth.up xσ6) _ _ _ hH (lv_sub (l' := [(0, .ref th), (1, .int (i32 v1)), (2, .int (i32 v2))]) hl [0, 1, 2] rfl) hc
set_option maxRecDepth 20000 in
theorem a_X6_number_0 {Q : Sg → Int → Prop} {X : Sg → String → Prop} {th : Nat} (K : MD l R p s m args c cX6_number 3 RX6 D cA tys A n0 s0 8 131 []) (hQ : CQI p l e R s m args below meth c cX6_number D cA A n0 s0 QM σi Q) (hX : CX p l e R s m args below meth c 3 D cA A n0 s0 QM σi X) (hTh : CT p l e R s m args below meth c cX6_number 3 D cA A n0 s0 QM σi RX6 X) : ∀ (σ : Sg) (v1 : Int) (v2 : Int) (g1 : rng v1) (g2 : rng v2), w_X6_number_0 th Q X σ v1 v2 → RG σ → TY σ → Ext σi σ → kO σ th 6 → JJ p l e R s m args below meth c 3 D cA A n0 s0 QM σ 0 [(0, .ref th), (1, .int (i32 v1)), (2, .int (i32 v2))] [] := by
  intro σ v1 v2 g1 g2 h hGσ hYσ hE hth H locs ls hH hl hc
  have B := K.1
  have hl9 := K.2.2.2.2.2.2
  unfold w_X6_number_0 at h
  refine lv_aload_n B.1 B.2.1 dX6_number_0 rfl (lv_at hl 0 rfl) ?_
  refine f_geti B hH hth (by decide) rfl wu_X6 3 (by decide) wf_X6_43 rfl rfl dX6_number_1 ?_
  refine lv_iconst (v := i32 4) B.1 B.2.1 dX6_number_4 (by decide) ?_
  refine lv_icmp_eq (tgt := 12) B.1 B.2.1 dX6_number_5 (by decide) (fun h9 => ?_) (fun h9 => ?_)
  · rw [if_pos ((i32_eq (hGσ _ _) (by unfold rng; omega)).mp h9)] at h
    exact a_X6_number_12 K hQ hX hTh _ _ _ g1 g2 h hGσ hYσ hE hth _ _ _ hH (lv_sub (l' := [(0, .ref th), (1, .int (i32 v1)), (2, .int (i32 v2))]) hl [0, 1, 2] rfl) hc
  · rw [if_neg (fun q => h9 ((i32_eq (hGσ _ _) (by unfold rng; omega)).mpr q))] at h
    exact a_X6_number_8 K hQ hX hTh _ _ _ g1 g2 h hGσ hYσ hE hth _ _ _ hH (lv_sub (l' := [(0, .ref th), (1, .int (i32 v1)), (2, .int (i32 v2))]) hl [0, 1, 2] rfl) hc
theorem ok_X6_number (hl0 : l.stackTraces = false) (hT : TyC cA tys) {Q : Sg → Int → Prop} {X : Sg → String → Prop} (σ : Sg) (th : Nat) (v1 : Int) (v2 : Int) (g1 : rng v1) (g2 : rng v2) (hth : kO σ th 6) (hG : RG σ) (hY : TY σ) (h : wp_X6_number th v1 v2 σ Q X) : Ok l D cA tys A yX6_number (.code yX6_number cX6_number 3 (some .int)) 8 131 [.ref th, .int (i32 v1), .int (i32 v2)] σ (QcI σ Q) (QxC σ X) := by
  unfold wp_X6_number at h
  exact oc_I hl0 (by decide) (by exact Nat.le_of_ble_eq_true rfl) hT (fun p e R s m args below meth c K hQ hX hTh H locs ls hH hl hc => a_X6_number_0 K hQ hX hTh σ v1 v2 g1 g2 h hG hY (Ext.rfl' σ) hth H locs ls hH (lv_sub (l' := [(0, .ref th), (1, .int (i32 v1)), (2, .int (i32 v2))]) hl [0, 1, 2] rfl) hc)
theorem dX6_wantWord_0 : decode cX6_wantWord 0 = .ok (.aload_n 0, 1) := by decide +kernel
theorem dX6_wantWord_1 : decode cX6_wantWord 1 = .ok (.iload_n 1, 1) := by decide +kernel
theorem dX6_wantWord_2 : decode cX6_wantWord 2 = .ok (.invokevirtual 66, 3) := by decide +kernel
theorem dX6_wantWord_5 : decode cX6_wantWord 5 = .ok (.ifCond .ne 7, 3) := by decide +kernel
theorem dX6_wantWord_8 : decode cX6_wantWord 8 = .ok (.aload_n 0, 1) := by decide +kernel
theorem dX6_wantWord_9 : decode cX6_wantWord 9 = .ok (.invokevirtual 70, 3) := by decide +kernel
theorem dX6_wantWord_12 : decode cX6_wantWord 12 = .ok (.aload_n 0, 1) := by decide +kernel
theorem dX6_wantWord_13 : decode cX6_wantWord 13 = .ok (.invokevirtual 40, 3) := by decide +kernel
theorem dX6_wantWord_16 : decode cX6_wantWord 16 = .ok (.return_, 1) := by decide +kernel
set_option maxRecDepth 20000 in
theorem a_X6_wantWord_12 {Q : Sg → Unit → Prop} {X : Sg → String → Prop} {th : Nat} (K : MD l R p s m args c cX6_wantWord 2 RX6 D cA tys A n0 s0 8 132 []) (hQ : CQV p l e R s m args below meth c cX6_wantWord D cA A n0 s0 QM σi Q) (hX : CX p l e R s m args below meth c 2 D cA A n0 s0 QM σi X) (hTh : CT p l e R s m args below meth c cX6_wantWord 2 D cA A n0 s0 QM σi RX6 X) : ∀ (σ : Sg), w_X6_wantWord_12 th Q X σ → RG σ → TY σ → Ext σi σ → kO σ th 6 → JJ p l e R s m args below meth c 2 D cA A n0 s0 QM σ 12 [(0, .ref th)] [] := by
  intro σ h hGσ hYσ hE hth H locs ls hH hl hc
  have B := K.1
  have hl9 := K.2.2.2.2.2.2
  unfold w_X6_wantWord_12 at h
  refine lv_aload_n B.1 B.2.1 dX6_wantWord_12 rfl (lv_at hl 0 rfl) ?_
  refine W.eq (g2 := F0 m 13 ls [.ref th]) (rfl) ?_
  refine c_V B hH hl hc K.2.2.1 (C := RX6) (T := TX6) (N := 9) (ci := 6) (As := []) (ok_X6_next hl9 K.2.1 σ th hth hGσ hYσ h) wc_X6_40 0 hd_X6_next ⟨Nat.le_trans (Nat.le_of_ble_eq_true rfl) K.2.2.2.1, Nat.le_trans (Nat.le_of_ble_eq_true rfl) K.2.2.2.2.1⟩ hth.1 hth.2 (by decide) rfl rfl (rest := []) rfl (Nat.le_of_ble_eq_true rfl) dX6_wantWord_13 (fun σ9 w hq => ?_) (fun σ9 E9 hx9 => hX σ9 E9 _ _ _ (tb_out K.2.2.2.2.2.1 rfl) hx9.1 hx9.2.1 hx9.2.2.1 (hE.trans hx9.2.2.2))
  obtain ⟨rfl, h, hGσ9, hYσ9, xσ9⟩ := hq
  have h := h xσ9
  intro H locs ls hH hl hc
  refine W.eq (g2 := F0 m 16 ls []) (rfl) ?_
  try dsimp only at h
  exact hQ _ _ _ _ _ dX6_wantWord_16 hH hc h hGσ9 hYσ9 (hE.trans xσ9)
set_option maxRecDepth 20000 in
theorem a_X6_wantWord_8 {Q : Sg → Unit → Prop} {X : Sg → String → Prop} {th : Nat} (K : MD l R p s m args c cX6_wantWord 2 RX6 D cA tys A n0 s0 8 132 []) (hQ : CQV p l e R s m args below meth c cX6_wantWord D cA A n0 s0 QM σi Q) (hX : CX p l e R s m args below meth c 2 D cA A n0 s0 QM σi X) (hTh : CT p l e R s m args below meth c cX6_wantWord 2 D cA A n0 s0 QM σi RX6 X) : ∀ (σ : Sg), w_X6_wantWord_8 th Q X σ → RG σ → TY σ → Ext σi σ → kO σ th 6 → JJ p l e R s m args below meth c 2 D cA A n0 s0 QM σ 8 [(0, .ref th)] [] := by
  intro σ h hGσ hYσ hE hth H locs ls hH hl hc
  have B := K.1
  have hl9 := K.2.2.2.2.2.2
  unfold w_X6_wantWord_8 at h
  refine lv_aload_n B.1 B.2.1 dX6_wantWord_8 rfl (lv_at hl 0 rfl) ?_
  refine W.eq (g2 := F0 m 9 ls [.ref th]) (rfl) ?_
  refine c_V B hH hl hc K.2.2.1 (C := RX6) (T := TX6) (N := 9) (ci := 6) (As := []) (ok_X6_cannotStand hl9 K.2.1 σ th hth hGσ hYσ h) wc_X6_70 0 hd_X6_cannotStand ⟨Nat.le_trans (Nat.le_of_ble_eq_true rfl) K.2.2.2.1, Nat.le_trans (Nat.le_of_ble_eq_true rfl) K.2.2.2.2.1⟩ hth.1 hth.2 (by decide) rfl rfl (rest := []) rfl (Nat.le_of_ble_eq_true rfl) dX6_wantWord_9 (fun σ10 w hq => ?_) (fun σ9 E9 hx9 => hX σ9 E9 _ _ _ (tb_out K.2.2.2.2.2.1 rfl) hx9.1 hx9.2.1 hx9.2.2.1 (hE.trans hx9.2.2.2))
  obtain ⟨rfl, h, hGσ10, hYσ10, xσ10⟩ := hq
  have h := h xσ10
  intro H locs ls hH hl hc
  refine W.eq (g2 := F0 m 12 ls []) (rfl) ?_
  try dsimp only at h
  exact a_X6_wantWord_12 K hQ hX hTh _ h hGσ10 hYσ10 (hE.trans xσ10) (hth.up xσ10) _ _ _ hH (lv_sub (l' := [(0, .ref th)]) hl [0] rfl) hc
set_option maxRecDepth 20000 in
theorem a_X6_wantWord_0 {Q : Sg → Unit → Prop} {X : Sg → String → Prop} {th : Nat} (K : MD l R p s m args c cX6_wantWord 2 RX6 D cA tys A n0 s0 8 132 []) (hQ : CQV p l e R s m args below meth c cX6_wantWord D cA A n0 s0 QM σi Q) (hX : CX p l e R s m args below meth c 2 D cA A n0 s0 QM σi X) (hTh : CT p l e R s m args below meth c cX6_wantWord 2 D cA A n0 s0 QM σi RX6 X) : ∀ (σ : Sg) (v1 : Int) (g1 : rng v1), w_X6_wantWord_0 th Q X σ v1 → RG σ → TY σ → Ext σi σ → kO σ th 6 → JJ p l e R s m args below meth c 2 D cA A n0 s0 QM σ 0 [(0, .ref th), (1, .int (i32 v1))] [] := by
  intro σ v1 g1 h hGσ hYσ hE hth H locs ls hH hl hc
  have B := K.1
  have hl9 := K.2.2.2.2.2.2
  unfold w_X6_wantWord_0 at h
  refine lv_aload_n B.1 B.2.1 dX6_wantWord_0 rfl (lv_at hl 0 rfl) ?_
  refine lv_iload_n B.1 B.2.1 dX6_wantWord_1 rfl (lv_at hl 1 rfl) ?_
  refine W.eq (g2 := F0 m 2 ls [.int (i32 v1), .ref th]) (rfl) ?_
  refine c_V B hH hl hc K.2.2.1 (C := RX6) (T := TX6) (N := 9) (ci := 6) (As := [.int (i32 v1)]) (ok_X6_isWord hl9 K.2.1 σ th v1 g1 hth hGσ hYσ h) wc_X6_66 1 hd_X6_isWord ⟨Nat.le_trans (Nat.le_of_ble_eq_true rfl) K.2.2.2.1, Nat.le_trans (Nat.le_of_ble_eq_true rfl) K.2.2.2.2.1⟩ hth.1 hth.2 (by decide) rfl rfl (rest := []) rfl (Nat.le_of_ble_eq_true rfl) dX6_wantWord_2 (fun σ11 w hq => ?_) (fun σ9 E9 hx9 => hX σ9 E9 _ _ _ (tb_out K.2.2.2.2.2.1 rfl) hx9.1 hx9.2.1 hx9.2.2.1 (hE.trans hx9.2.2.2))
  obtain ⟨r12, rfl, ⟨gr12, gzr12⟩, h, hGσ11, hYσ11, xσ11⟩ := hq
  have h := h xσ11
  intro H locs ls hH hl hc
  refine W.eq (g2 := F0 m 5 ls [.int (i32 r12)]) (rfl) ?_
  try dsimp only at h
  refine lv_if_ne (tgt := 12) B.1 B.2.1 dX6_wantWord_5 (by decide) (fun h9 => ?_) (fun h9 => ?_)
  · rw [if_pos (fun q => h9 ((z_eq gr12).mpr q))] at h
    exact a_X6_wantWord_12 K hQ hX hTh _ h hGσ11 hYσ11 (hE.trans xσ11) (hth.up xσ11) _ _ _ hH (lv_sub (l' := [(0, .ref th)]) hl [0] rfl) hc
  · rw [if_neg (fun q => q ((z_eq gr12).mp h9))] at h
    exact a_X6_wantWord_8 K hQ hX hTh _ h hGσ11 hYσ11 (hE.trans xσ11) (hth.up xσ11) _ _ _ hH (lv_sub (l' := [(0, .ref th)]) hl [0] rfl) hc
theorem ok_X6_wantWord (hl0 : l.stackTraces = false) (hT : TyC cA tys) {Q : Sg → Unit → Prop} {X : Sg → String → Prop} (σ : Sg) (th : Nat) (v1 : Int) (g1 : rng v1) (hth : kO σ th 6) (hG : RG σ) (hY : TY σ) (h : wp_X6_wantWord th v1 σ Q X) : Ok l D cA tys A yX6_wantWord (.code yX6_wantWord cX6_wantWord 2 none) 8 132 [.ref th, .int (i32 v1)] σ (QcV σ Q) (QxC σ X) := by
  unfold wp_X6_wantWord at h
  exact oc_V hl0 (by decide) (by exact Nat.le_of_ble_eq_true rfl) hT (fun p e R s m args below meth c K hQ hX hTh hin9 H locs ls hH hl hc => a_X6_wantWord_0 K hQ hX hTh σ v1 g1 h hG hY (Ext.rfl' σ) hth H locs ls hH (lv_sub (l' := [(0, .ref th), (1, .int (i32 v1))]) hl [0, 1] rfl) hc)
theorem dX6_foldText_0 : decode cX6_foldText 0 = .ok (.aload_n 0, 1) := by decide +kernel
theorem dX6_foldText_1 : decode cX6_foldText 1 = .ok (.invokevirtual 40, 3) := by decide +kernel
theorem dX6_foldText_4 : decode cX6_foldText 4 = .ok (.aload_n 0, 1) := by decide +kernel
theorem dX6_foldText_5 : decode cX6_foldText 5 = .ok (.iconst 4, 1) := by decide +kernel
theorem dX6_foldText_6 : decode cX6_foldText 6 = .ok (.invokevirtual 152, 3) := by decide +kernel
theorem dX6_foldText_9 : decode cX6_foldText 9 = .ok (.aload_n 0, 1) := by decide +kernel
theorem dX6_foldText_10 : decode cX6_foldText 10 = .ok (.invokevirtual 40, 3) := by decide +kernel
theorem dX6_foldText_13 : decode cX6_foldText 13 = .ok (.aload_n 0, 1) := by decide +kernel
theorem dX6_foldText_14 : decode cX6_foldText 14 = .ok (.bipush 6, 2) := by decide +kernel
theorem dX6_foldText_16 : decode cX6_foldText 16 = .ok (.invokevirtual 146, 3) := by decide +kernel
theorem dX6_foldText_19 : decode cX6_foldText 19 = .ok (.aload_n 0, 1) := by decide +kernel
theorem dX6_foldText_20 : decode cX6_foldText 20 = .ok (.getfield 88, 3) := by decide +kernel
theorem dX6_foldText_23 : decode cX6_foldText 23 = .ok (.aload_n 0, 1) := by decide +kernel
theorem dX6_foldText_24 : decode cX6_foldText 24 = .ok (.aload_n 0, 1) := by decide +kernel
theorem dX6_foldText_25 : decode cX6_foldText 25 = .ok (.getfield 31, 3) := by decide +kernel
theorem dX6_foldText_28 : decode cX6_foldText 28 = .ok (.getfield 84, 3) := by decide +kernel
theorem dX6_foldText_31 : decode cX6_foldText 31 = .ok (.aload_n 0, 1) := by decide +kernel
theorem dX6_foldText_32 : decode cX6_foldText 32 = .ok (.getfield 88, 3) := by decide +kernel
theorem dX6_foldText_35 : decode cX6_foldText 35 = .ok (.getfield 155, 3) := by decide +kernel
theorem dX6_foldText_38 : decode cX6_foldText 38 = .ok (.aaload, 1) := by decide +kernel
theorem dX6_foldText_39 : decode cX6_foldText 39 = .ok (.invokevirtual 185, 3) := by decide +kernel
theorem dX6_foldText_42 : decode cX6_foldText 42 = .ok (.putfield 189, 3) := by decide +kernel
theorem dX6_foldText_45 : decode cX6_foldText 45 = .ok (.aload_n 0, 1) := by decide +kernel
theorem dX6_foldText_46 : decode cX6_foldText 46 = .ok (.getfield 88, 3) := by decide +kernel
theorem dX6_foldText_49 : decode cX6_foldText 49 = .ok (.aload_n 0, 1) := by decide +kernel
theorem dX6_foldText_50 : decode cX6_foldText 50 = .ok (.getfield 73, 3) := by decide +kernel
theorem dX6_foldText_53 : decode cX6_foldText 53 = .ok (.invokevirtual 192, 3) := by decide +kernel
theorem dX6_foldText_56 : decode cX6_foldText 56 = .ok (.aload_n 0, 1) := by decide +kernel
theorem dX6_foldText_57 : decode cX6_foldText 57 = .ok (.invokevirtual 40, 3) := by decide +kernel
theorem dX6_foldText_60 : decode cX6_foldText 60 = .ok (.aload_n 0, 1) := by decide +kernel
theorem dX6_foldText_61 : decode cX6_foldText 61 = .ok (.bipush 9, 2) := by decide +kernel
theorem dX6_foldText_63 : decode cX6_foldText 63 = .ok (.invokevirtual 66, 3) := by decide +kernel
theorem dX6_foldText_66 : decode cX6_foldText 66 = .ok (.ifCond .eq 37, 3) := by decide +kernel
theorem dX6_foldText_69 : decode cX6_foldText 69 = .ok (.aload_n 0, 1) := by decide +kernel
theorem dX6_foldText_70 : decode cX6_foldText 70 = .ok (.invokevirtual 40, 3) := by decide +kernel
theorem dX6_foldText_73 : decode cX6_foldText 73 = .ok (.aload_n 0, 1) := by decide +kernel
theorem dX6_foldText_74 : decode cX6_foldText 74 = .ok (.getfield 88, 3) := by decide +kernel
theorem dX6_foldText_77 : decode cX6_foldText 77 = .ok (.iconst 5, 1) := by decide +kernel
theorem dX6_foldText_78 : decode cX6_foldText 78 = .ok (.putfield 131, 3) := by decide +kernel
theorem dX6_foldText_81 : decode cX6_foldText 81 = .ok (.aload_n 0, 1) := by decide +kernel
theorem dX6_foldText_82 : decode cX6_foldText 82 = .ok (.getfield 88, 3) := by decide +kernel
theorem dX6_foldText_85 : decode cX6_foldText 85 = .ok (.aload_n 0, 1) := by decide +kernel
theorem dX6_foldText_86 : decode cX6_foldText 86 = .ok (.iconst 1, 1) := by decide +kernel
theorem dX6_foldText_87 : decode cX6_foldText 87 = .ok (.sipush 1000, 3) := by decide +kernel
theorem dX6_foldText_90 : decode cX6_foldText 90 = .ok (.invokevirtual 134, 3) := by decide +kernel
theorem dX6_foldText_93 : decode cX6_foldText 93 = .ok (.putfield 196, 3) := by decide +kernel
theorem dX6_foldText_96 : decode cX6_foldText 96 = .ok (.aload_n 0, 1) := by decide +kernel
theorem dX6_foldText_97 : decode cX6_foldText 97 = .ok (.invokevirtual 40, 3) := by decide +kernel
theorem dX6_foldText_100 : decode cX6_foldText 100 = .ok (.goto 96, 3) := by decide +kernel
theorem dX6_foldText_103 : decode cX6_foldText 103 = .ok (.aload_n 0, 1) := by decide +kernel
theorem dX6_foldText_104 : decode cX6_foldText 104 = .ok (.bipush 7, 2) := by decide +kernel
theorem dX6_foldText_106 : decode cX6_foldText 106 = .ok (.invokevirtual 146, 3) := by decide +kernel
theorem dX6_foldText_109 : decode cX6_foldText 109 = .ok (.aload_n 0, 1) := by decide +kernel
theorem dX6_foldText_110 : decode cX6_foldText 110 = .ok (.getfield 88, 3) := by decide +kernel
theorem dX6_foldText_113 : decode cX6_foldText 113 = .ok (.aload_n 0, 1) := by decide +kernel
theorem dX6_foldText_114 : decode cX6_foldText 114 = .ok (.iconst 1, 1) := by decide +kernel
theorem dX6_foldText_115 : decode cX6_foldText 115 = .ok (.sipush 1000, 3) := by decide +kernel
theorem dX6_foldText_118 : decode cX6_foldText 118 = .ok (.invokevirtual 134, 3) := by decide +kernel
theorem dX6_foldText_121 : decode cX6_foldText 121 = .ok (.putfield 196, 3) := by decide +kernel
theorem dX6_foldText_124 : decode cX6_foldText 124 = .ok (.aload_n 0, 1) := by decide +kernel
theorem dX6_foldText_125 : decode cX6_foldText 125 = .ok (.invokevirtual 40, 3) := by decide +kernel
theorem dX6_foldText_128 : decode cX6_foldText 128 = .ok (.aload_n 0, 1) := by decide +kernel
theorem dX6_foldText_129 : decode cX6_foldText 129 = .ok (.bipush 8, 2) := by decide +kernel
theorem dX6_foldText_131 : decode cX6_foldText 131 = .ok (.invokevirtual 146, 3) := by decide +kernel
theorem dX6_foldText_134 : decode cX6_foldText 134 = .ok (.aload_n 0, 1) := by decide +kernel
theorem dX6_foldText_135 : decode cX6_foldText 135 = .ok (.getfield 88, 3) := by decide +kernel
theorem dX6_foldText_138 : decode cX6_foldText 138 = .ok (.aload_n 0, 1) := by decide +kernel
theorem dX6_foldText_139 : decode cX6_foldText 139 = .ok (.iconst 1, 1) := by decide +kernel
theorem dX6_foldText_140 : decode cX6_foldText 140 = .ok (.sipush 1000, 3) := by decide +kernel
theorem dX6_foldText_143 : decode cX6_foldText 143 = .ok (.invokevirtual 134, 3) := by decide +kernel
theorem dX6_foldText_146 : decode cX6_foldText 146 = .ok (.putfield 199, 3) := by decide +kernel
theorem dX6_foldText_149 : decode cX6_foldText 149 = .ok (.aload_n 0, 1) := by decide +kernel
theorem dX6_foldText_150 : decode cX6_foldText 150 = .ok (.getfield 88, 3) := by decide +kernel
theorem dX6_foldText_153 : decode cX6_foldText 153 = .ok (.getfield 199, 3) := by decide +kernel
theorem dX6_foldText_156 : decode cX6_foldText 156 = .ok (.aload_n 0, 1) := by decide +kernel
theorem dX6_foldText_157 : decode cX6_foldText 157 = .ok (.getfield 88, 3) := by decide +kernel
theorem dX6_foldText_160 : decode cX6_foldText 160 = .ok (.getfield 196, 3) := by decide +kernel
theorem dX6_foldText_163 : decode cX6_foldText 163 = .ok (.if_icmp .gt 23, 3) := by decide +kernel
theorem dX6_foldText_166 : decode cX6_foldText 166 = .ok (.aload_n 0, 1) := by decide +kernel
theorem dX6_foldText_167 : decode cX6_foldText 167 = .ok (.getfield 88, 3) := by decide +kernel
theorem dX6_foldText_170 : decode cX6_foldText 170 = .ok (.getfield 196, 3) := by decide +kernel
theorem dX6_foldText_173 : decode cX6_foldText 173 = .ok (.bipush 8, 2) := by decide +kernel
theorem dX6_foldText_175 : decode cX6_foldText 175 = .ok (.aload_n 0, 1) := by decide +kernel
theorem dX6_foldText_176 : decode cX6_foldText 176 = .ok (.getfield 88, 3) := by decide +kernel
theorem dX6_foldText_179 : decode cX6_foldText 179 = .ok (.getfield 199, 3) := by decide +kernel
theorem dX6_foldText_182 : decode cX6_foldText 182 = .ok (.imul, 1) := by decide +kernel
theorem dX6_foldText_183 : decode cX6_foldText 183 = .ok (.if_icmp .le 9, 3) := by decide +kernel
theorem dX6_foldText_186 : decode cX6_foldText 186 = .ok (.aload_n 0, 1) := by decide +kernel
theorem dX6_foldText_187 : decode cX6_foldText 187 = .ok (.bipush 7, 2) := by decide +kernel
theorem dX6_foldText_189 : decode cX6_foldText 189 = .ok (.invokevirtual 81, 3) := by decide +kernel
theorem dX6_foldText_192 : decode cX6_foldText 192 = .ok (.aload_n 0, 1) := by decide +kernel
theorem dX6_foldText_193 : decode cX6_foldText 193 = .ok (.invokevirtual 40, 3) := by decide +kernel
theorem dX6_foldText_196 : decode cX6_foldText 196 = .ok (.aload_n 0, 1) := by decide +kernel
theorem dX6_foldText_197 : decode cX6_foldText 197 = .ok (.bipush 58, 2) := by decide +kernel
theorem dX6_foldText_199 : decode cX6_foldText 199 = .ok (.invokevirtual 57, 3) := by decide +kernel
theorem dX6_foldText_202 : decode cX6_foldText 202 = .ok (.return_, 1) := by decide +kernel
set_option maxRecDepth 20000 in
theorem a_X6_foldText_196 {Q : Sg → Unit → Prop} {X : Sg → String → Prop} {th : Nat} (K : MD l R p s m args c cX6_foldText 1 RX6 D cA tys A n0 s0 10 173 []) (hQ : CQV p l e R s m args below meth c cX6_foldText D cA A n0 s0 QM σi Q) (hX : CX p l e R s m args below meth c 1 D cA A n0 s0 QM σi X) (hTh : CT p l e R s m args below meth c cX6_foldText 1 D cA A n0 s0 QM σi RX6 X) : ∀ (σ : Sg), w_X6_foldText_196 th Q X σ → RG σ → TY σ → Ext σi σ → kO σ th 6 → JJ p l e R s m args below meth c 1 D cA A n0 s0 QM σ 196 [(0, .ref th)] [] := by
  intro σ h hGσ hYσ hE hth H locs ls hH hl hc
  have B := K.1
  have hl9 := K.2.2.2.2.2.2
  unfold w_X6_foldText_196 at h
  refine lv_aload_n B.1 B.2.1 dX6_foldText_196 rfl (lv_at hl 0 rfl) ?_
  refine lv_bipush (v := i32 58) B.1 B.2.1 dX6_foldText_197 (by decide) ?_
  refine W.eq (g2 := F0 m 199 ls [.int (i32 58), .ref th]) (rfl) ?_
  refine c_V B hH hl hc K.2.2.1 (C := RX6) (T := TX6) (N := 9) (ci := 6) (As := [.int (i32 58)]) (ok_X6_wantSign hl9 K.2.1 σ th 58 (by unfold rng; omega) hth hGσ hYσ h) wc_X6_57 1 hd_X6_wantSign ⟨Nat.le_trans (Nat.le_of_ble_eq_true rfl) K.2.2.2.1, Nat.le_trans (Nat.le_of_ble_eq_true rfl) K.2.2.2.2.1⟩ hth.1 hth.2 (by decide) rfl rfl (rest := []) rfl (Nat.le_of_ble_eq_true rfl) dX6_foldText_199 (fun σ79 w hq => ?_) (fun σ9 E9 hx9 => hX σ9 E9 _ _ _ (tb_out K.2.2.2.2.2.1 rfl) hx9.1 hx9.2.1 hx9.2.2.1 (hE.trans hx9.2.2.2))
  obtain ⟨rfl, h, hGσ79, hYσ79, xσ79⟩ := hq
  have h := h xσ79
  intro H locs ls hH hl hc
  refine W.eq (g2 := F0 m 202 ls []) (rfl) ?_
  try dsimp only at h
  exact hQ _ _ _ _ _ dX6_foldText_202 hH hc h hGσ79 hYσ79 (hE.trans xσ79)
set_option maxRecDepth 20000 in
theorem a_X6_foldText_192 {Q : Sg → Unit → Prop} {X : Sg → String → Prop} {th : Nat} (K : MD l R p s m args c cX6_foldText 1 RX6 D cA tys A n0 s0 10 173 []) (hQ : CQV p l e R s m args below meth c cX6_foldText D cA A n0 s0 QM σi Q) (hX : CX p l e R s m args below meth c 1 D cA A n0 s0 QM σi X) (hTh : CT p l e R s m args below meth c cX6_foldText 1 D cA A n0 s0 QM σi RX6 X) : ∀ (σ : Sg), w_X6_foldText_192 th Q X σ → RG σ → TY σ → Ext σi σ → kO σ th 6 → JJ p l e R s m args below meth c 1 D cA A n0 s0 QM σ 192 [(0, .ref th)] [] := by
  intro σ h hGσ hYσ hE hth H locs ls hH hl hc
  have B := K.1
  have hl9 := K.2.2.2.2.2.2
  unfold w_X6_foldText_192 at h
  refine lv_aload_n B.1 B.2.1 dX6_foldText_192 rfl (lv_at hl 0 rfl) ?_
  refine W.eq (g2 := F0 m 193 ls [.ref th]) (rfl) ?_
  refine c_V B hH hl hc K.2.2.1 (C := RX6) (T := TX6) (N := 9) (ci := 6) (As := []) (ok_X6_next hl9 K.2.1 σ th hth hGσ hYσ h) wc_X6_40 0 hd_X6_next ⟨Nat.le_trans (Nat.le_of_ble_eq_true rfl) K.2.2.2.1, Nat.le_trans (Nat.le_of_ble_eq_true rfl) K.2.2.2.2.1⟩ hth.1 hth.2 (by decide) rfl rfl (rest := []) rfl (Nat.le_of_ble_eq_true rfl) dX6_foldText_193 (fun σ80 w hq => ?_) (fun σ9 E9 hx9 => hX σ9 E9 _ _ _ (tb_out K.2.2.2.2.2.1 rfl) hx9.1 hx9.2.1 hx9.2.2.1 (hE.trans hx9.2.2.2))
  obtain ⟨rfl, h, hGσ80, hYσ80, xσ80⟩ := hq
  have h := h xσ80
  intro H locs ls hH hl hc
  refine W.eq (g2 := F0 m 196 ls []) (rfl) ?_
  try dsimp only at h
  exact a_X6_foldText_196 K hQ hX hTh _ h hGσ80 hYσ80 (hE.trans xσ80) (hth.up xσ80) _ _ _ hH (lv_sub (l' := [(0, .ref th)]) hl [0] rfl) hc
set_option maxRecDepth 20000 in
theorem a_X6_foldText_186 {Q : Sg → Unit → Prop} {X : Sg → String → Prop} {th : Nat} (K : MD l R p s m args c cX6_foldText 1 RX6 D cA tys A n0 s0 10 173 []) (hQ : CQV p l e R s m args below meth c cX6_foldText D cA A n0 s0 QM σi Q) (hX : CX p l e R s m args below meth c 1 D cA A n0 s0 QM σi X) (hTh : CT p l e R s m args below meth c cX6_foldText 1 D cA A n0 s0 QM σi RX6 X) : ∀ (σ : Sg), w_X6_foldText_186 th Q X σ → RG σ → TY σ → Ext σi σ → kO σ th 6 → JJ p l e R s m args below meth c 1 D cA A n0 s0 QM σ 186 [(0, .ref th)] [] := by
  intro σ h hGσ hYσ hE hth H locs ls hH hl hc
  have B := K.1
  have hl9 := K.2.2.2.2.2.2
  unfold w_X6_foldText_186 at h
  refine lv_aload_n B.1 B.2.1 dX6_foldText_186 rfl (lv_at hl 0 rfl) ?_
  refine lv_bipush (v := i32 7) B.1 B.2.1 dX6_foldText_187 (by decide) ?_
  refine W.eq (g2 := F0 m 189 ls [.int (i32 7), .ref th]) (rfl) ?_
  refine c_V B hH hl hc K.2.2.1 (C := RX6) (T := TX6) (N := 9) (ci := 6) (As := [.int (i32 7)]) (ok_X6_refuse hl9 K.2.1 σ th 7 (by unfold rng; omega) hth hGσ hYσ h) wc_X6_81 1 hd_X6_refuse ⟨Nat.le_trans (Nat.le_of_ble_eq_true rfl) K.2.2.2.1, Nat.le_trans (Nat.le_of_ble_eq_true rfl) K.2.2.2.2.1⟩ hth.1 hth.2 (by decide) rfl rfl (rest := []) rfl (Nat.le_of_ble_eq_true rfl) dX6_foldText_189 (fun σ81 w hq => ?_) (fun σ9 E9 hx9 => hX σ9 E9 _ _ _ (tb_out K.2.2.2.2.2.1 rfl) hx9.1 hx9.2.1 hx9.2.2.1 (hE.trans hx9.2.2.2))
  obtain ⟨rfl, h, hGσ81, hYσ81, xσ81⟩ := hq
  have h := h xσ81
  intro H locs ls hH hl hc
  refine W.eq (g2 := F0 m 192 ls []) (rfl) ?_
  try dsimp only at h
  exact a_X6_foldText_192 K hQ hX hTh _ h hGσ81 hYσ81 (hE.trans xσ81) (hth.up xσ81) _ _ _ hH (lv_sub (l' := [(0, .ref th)]) hl [0] rfl) hc
set_option maxRecDepth 20000 in
theorem a_X6_foldText_166 {Q : Sg → Unit → Prop} {X : Sg → String → Prop} {th : Nat} (K : MD l R p s m args c cX6_foldText 1 RX6 D cA tys A n0 s0 10 173 []) (hQ : CQV p l e R s m args below meth c cX6_foldText D cA A n0 s0 QM σi Q) (hX : CX p l e R s m args below meth c 1 D cA A n0 s0 QM σi X) (hTh : CT p l e R s m args below meth c cX6_foldText 1 D cA A n0 s0 QM σi RX6 X) : ∀ (σ : Sg), w_X6_foldText_166 th Q X σ → RG σ → TY σ → Ext σi σ → kO σ th 6 → JJ p l e R s m args below meth c 1 D cA A n0 s0 QM σ 166 [(0, .ref th)] [] := by
  intro σ h hGσ hYσ hE hth H locs ls hH hl hc
  have B := K.1
  have hl9 := K.2.2.2.2.2.2
  unfold w_X6_foldText_166 at h
  refine lv_aload_n B.1 B.2.1 dX6_foldText_166 rfl (lv_at hl 0 rfl) ?_
  refine f_getp B hH hth (by decide) rfl wu_X6 8 (by decide) wf_X6_88 rfl rfl dX6_foldText_167 ?_
  obtain ⟨a82, ea82, h⟩ := h
  have ka82 : kO σ a82 5 := (hYσ.get hth (by decide)) a82 ea82
  have h := h ka82
  refine W.eq (g2 := F0 m 170 ls [.ref a82]) (by rw [ea82]; rfl) ?_
  refine f_geti B hH ka82 (by decide) rfl wu_X5 11 (by decide) wf_X6_196 rfl rfl dX6_foldText_170 ?_
  refine lv_bipush (v := i32 8) B.1 B.2.1 dX6_foldText_173 (by decide) ?_
  refine lv_aload_n B.1 B.2.1 dX6_foldText_175 rfl (lv_at hl 0 rfl) ?_
  refine f_getp B hH hth (by decide) rfl wu_X6 8 (by decide) wf_X6_88 rfl rfl dX6_foldText_176 ?_
  refine W.eq (g2 := F0 m 179 ls [.ref a82, .int (i32 8), .int (i32 (gI σ a82 11))]) (by rw [ea82]; rfl) ?_
  refine f_geti B hH ka82 (by decide) rfl wu_X5 12 (by decide) wf_X6_199 rfl rfl dX6_foldText_179 ?_
  refine lv_imul B.1 B.2.1 dX6_foldText_182 ?_
  rw [i32_mul]
  refine W.eq (g2 := F0 m 183 ls [.int (i32 (wr (8 * gI σ a82 12))), .int (i32 (gI σ a82 11))]) (by rw [i32_wr]) ?_
  refine lv_icmp_le (tgt := 192) B.1 B.2.1 dX6_foldText_183 (by decide) (fun h9 => ?_) (fun h9 => ?_)
  · rw [if_pos ((i32_le (hGσ _ _) (rng_wr _)).mp h9)] at h
    exact a_X6_foldText_192 K hQ hX hTh _ h hGσ hYσ hE hth _ _ _ hH (lv_sub (l' := [(0, .ref th)]) hl [0] rfl) hc
  · rw [if_neg (fun q => h9 ((i32_le (hGσ _ _) (rng_wr _)).mpr q))] at h
    exact a_X6_foldText_186 K hQ hX hTh _ h hGσ hYσ hE hth _ _ _ hH (lv_sub (l' := [(0, .ref th)]) hl [0] rfl) hc
set_option maxRecDepth 20000 in
theorem a_X6_foldText_103 {Q : Sg → Unit → Prop} {X : Sg → String → Prop} {th : Nat} (K : MD l R p s m args c cX6_foldText 1 RX6 D cA tys A n0 s0 10 173 []) (hQ : CQV p l e R s m args below meth c cX6_foldText D cA A n0 s0 QM σi Q) (hX : CX p l e R s m args below meth c 1 D cA A n0 s0 QM σi X) (hTh : CT p l e R s m args below meth c cX6_foldText 1 D cA A n0 s0 QM σi RX6 X) : ∀ (σ : Sg), w_X6_foldText_103 th Q X σ → RG σ → TY σ → Ext σi σ → kO σ th 6 → JJ p l e R s m args below meth c 1 D cA A n0 s0 QM σ 103 [(0, .ref th)] [] := by
  intro σ h hGσ hYσ hE hth H locs ls hH hl hc
  have B := K.1
  have hl9 := K.2.2.2.2.2.2
  unfold w_X6_foldText_103 at h
  refine lv_aload_n B.1 B.2.1 dX6_foldText_103 rfl (lv_at hl 0 rfl) ?_
  refine lv_bipush (v := i32 7) B.1 B.2.1 dX6_foldText_104 (by decide) ?_
  refine W.eq (g2 := F0 m 106 ls [.int (i32 7), .ref th]) (rfl) ?_
  refine c_V B hH hl hc K.2.2.1 (C := RX6) (T := TX6) (N := 9) (ci := 6) (As := [.int (i32 7)]) (ok_X6_wantWord hl9 K.2.1 σ th 7 (by unfold rng; omega) hth hGσ hYσ h) wc_X6_146 1 hd_X6_wantWord ⟨Nat.le_trans (Nat.le_of_ble_eq_true rfl) K.2.2.2.1, Nat.le_trans (Nat.le_of_ble_eq_true rfl) K.2.2.2.2.1⟩ hth.1 hth.2 (by decide) rfl rfl (rest := []) rfl (Nat.le_of_ble_eq_true rfl) dX6_foldText_106 (fun σ83 w hq => ?_) (fun σ9 E9 hx9 => hX σ9 E9 _ _ _ (tb_out K.2.2.2.2.2.1 rfl) hx9.1 hx9.2.1 hx9.2.2.1 (hE.trans hx9.2.2.2))
  obtain ⟨rfl, h, hGσ83, hYσ83, xσ83⟩ := hq
  have h := h xσ83
  intro H locs ls hH hl hc
  refine W.eq (g2 := F0 m 109 ls []) (rfl) ?_
  try dsimp only at h
  refine lv_aload_n B.1 B.2.1 dX6_foldText_109 rfl (lv_at hl 0 rfl) ?_
  refine f_getp B hH (hth.up xσ83) (by decide) rfl wu_X6 8 (by decide) wf_X6_88 rfl rfl dX6_foldText_110 ?_
  refine lv_aload_n B.1 B.2.1 dX6_foldText_113 rfl (lv_at hl 0 rfl) ?_
  refine lv_iconst (v := i32 1) B.1 B.2.1 dX6_foldText_114 (by decide) ?_
  refine lv_sipush (v := i32 1000) B.1 B.2.1 dX6_foldText_115 (by decide) ?_
  refine W.eq (g2 := F0 m 118 ls [.int (i32 1000), .int (i32 1), .ref th, va_rf (gP σ83 th 8)]) (rfl) ?_
  refine c_V B hH hl hc K.2.2.1 (C := RX6) (T := TX6) (N := 9) (ci := 6) (As := [.int (i32 1), .int (i32 1000)]) (ok_X6_number hl9 K.2.1 σ83 th 1 1000 (by unfold rng; omega) (by unfold rng; omega) (hth.up xσ83) hGσ83 hYσ83 h) wc_X6_134 2 hd_X6_number ⟨Nat.le_trans (Nat.le_of_ble_eq_true rfl) K.2.2.2.1, Nat.le_trans (Nat.le_of_ble_eq_true rfl) K.2.2.2.2.1⟩ (hth.up xσ83).1 (hth.up xσ83).2 (by decide) rfl rfl (rest := [va_rf (gP σ83 th 8)]) rfl (by simp only [List.map_cons, List.map_nil, rf_cat]; exact Nat.le_of_ble_eq_true rfl) dX6_foldText_118 (fun σ84 w hq => ?_) (fun σ9 E9 hx9 => hX σ9 E9 _ _ _ (tb_out K.2.2.2.2.2.1 rfl) hx9.1 hx9.2.1 hx9.2.2.1 ((hE.trans xσ83).trans hx9.2.2.2))
  obtain ⟨r85, rfl, gr85, h, hGσ84, hYσ84, xσ84⟩ := hq
  have h := h xσ84
  intro H locs ls hH hl hc
  refine W.eq (g2 := F0 m 121 ls [.int (i32 r85), va_rf (gP σ83 th 8)]) (rfl) ?_
  try dsimp only at h
  obtain ⟨a86, ea86, h⟩ := h
  have ka86 : kO σ84 a86 5 := ((hYσ83.get (hth.up xσ83) (by decide)).up xσ84) a86 ea86
  have h := h ka86
  obtain ⟨σ87, eσ87⟩ : ∃ z, z = pI σ84 a86 11 r85 := ⟨_, rfl⟩
  have h := h σ87 eσ87
  refine W.eq (g2 := F0 m 121 ls [.int (i32 r85), .ref a86]) (by rw [ea86]; rfl) ?_
  refine f_puti B hH ka86 (by decide) rfl wu_X5 tyX5 tyX5_ok nmX5 11 (by decide) wf_X6_196 rfl (ty := .int) rfl rfl rfl rfl rfl dX6_foldText_121 (fun H locs hH => ?_)
  have hH : Hd D cA A s (pI σ84 a86 11 r85) H locs := hH
  rw [← eσ87] at hH
  have hGσ87 : RG σ87 := by rw [eσ87]; exact hGσ84.pI gr85
  have hYσ87 : TY σ87 := by rw [eσ87]; exact hYσ84.pI
  have xσ87 : Ext σ84 σ87 := by rw [eσ87]; exact Ext.pI
  have hc : CB n0 s0 σ87 := by rw [eσ87]; exact hc
  rw [show gc σ84 = gc σ87 by rw [eσ87]; try rfl, show gs σ84 = gs σ87 by rw [eσ87]; try rfl]
  refine lv_aload_n B.1 B.2.1 dX6_foldText_124 rfl (lv_at hl 0 rfl) ?_
  refine W.eq (g2 := F0 m 125 ls [.ref th]) (rfl) ?_
  refine c_V B hH hl hc K.2.2.1 (C := RX6) (T := TX6) (N := 9) (ci := 6) (As := []) (ok_X6_next hl9 K.2.1 σ87 th (hth.up (xσ83.trans (xσ84.trans xσ87))) hGσ87 hYσ87 h) wc_X6_40 0 hd_X6_next ⟨Nat.le_trans (Nat.le_of_ble_eq_true rfl) K.2.2.2.1, Nat.le_trans (Nat.le_of_ble_eq_true rfl) K.2.2.2.2.1⟩ (hth.up (xσ83.trans (xσ84.trans xσ87))).1 (hth.up (xσ83.trans (xσ84.trans xσ87))).2 (by decide) rfl rfl (rest := []) rfl (Nat.le_of_ble_eq_true rfl) dX6_foldText_125 (fun σ88 w hq => ?_) (fun σ9 E9 hx9 => hX σ9 E9 _ _ _ (tb_out K.2.2.2.2.2.1 rfl) hx9.1 hx9.2.1 hx9.2.2.1 ((((hE.trans xσ83).trans xσ84).trans xσ87).trans hx9.2.2.2))
  obtain ⟨rfl, h, hGσ88, hYσ88, xσ88⟩ := hq
  have h := h xσ88
  intro H locs ls hH hl hc
  refine W.eq (g2 := F0 m 128 ls []) (rfl) ?_
  try dsimp only at h
  refine lv_aload_n B.1 B.2.1 dX6_foldText_128 rfl (lv_at hl 0 rfl) ?_
  refine lv_bipush (v := i32 8) B.1 B.2.1 dX6_foldText_129 (by decide) ?_
  refine W.eq (g2 := F0 m 131 ls [.int (i32 8), .ref th]) (rfl) ?_
  refine c_V B hH hl hc K.2.2.1 (C := RX6) (T := TX6) (N := 9) (ci := 6) (As := [.int (i32 8)]) (ok_X6_wantWord hl9 K.2.1 σ88 th 8 (by unfold rng; omega) (hth.up (xσ83.trans (xσ84.trans (xσ87.trans xσ88)))) hGσ88 hYσ88 h) wc_X6_146 1 hd_X6_wantWord ⟨Nat.le_trans (Nat.le_of_ble_eq_true rfl) K.2.2.2.1, Nat.le_trans (Nat.le_of_ble_eq_true rfl) K.2.2.2.2.1⟩ (hth.up (xσ83.trans (xσ84.trans (xσ87.trans xσ88)))).1 (hth.up (xσ83.trans (xσ84.trans (xσ87.trans xσ88)))).2 (by decide) rfl rfl (rest := []) rfl (Nat.le_of_ble_eq_true rfl) dX6_foldText_131 (fun σ89 w hq => ?_) (fun σ9 E9 hx9 => hX σ9 E9 _ _ _ (tb_out K.2.2.2.2.2.1 rfl) hx9.1 hx9.2.1 hx9.2.2.1 (((((hE.trans xσ83).trans xσ84).trans xσ87).trans xσ88).trans hx9.2.2.2))
  obtain ⟨rfl, h, hGσ89, hYσ89, xσ89⟩ := hq
  have h := h xσ89
  intro H locs ls hH hl hc
  refine W.eq (g2 := F0 m 134 ls []) (rfl) ?_
  try dsimp only at h
  refine lv_aload_n B.1 B.2.1 dX6_foldText_134 rfl (lv_at hl 0 rfl) ?_
  refine f_getp B hH (hth.up (xσ83.trans (xσ84.trans (xσ87.trans (xσ88.trans xσ89))))) (by decide) rfl wu_X6 8 (by decide) wf_X6_88 rfl rfl dX6_foldText_135 ?_
  refine lv_aload_n B.1 B.2.1 dX6_foldText_138 rfl (lv_at hl 0 rfl) ?_
  refine lv_iconst (v := i32 1) B.1 B.2.1 dX6_foldText_139 (by decide) ?_
  refine lv_sipush (v := i32 1000) B.1 B.2.1 dX6_foldText_140 (by decide) ?_
  refine W.eq (g2 := F0 m 143 ls [.int (i32 1000), .int (i32 1), .ref th, va_rf (gP σ89 th 8)]) (rfl) ?_
  refine c_V B hH hl hc K.2.2.1 (C := RX6) (T := TX6) (N := 9) (ci := 6) (As := [.int (i32 1), .int (i32 1000)]) (ok_X6_number hl9 K.2.1 σ89 th 1 1000 (by unfold rng; omega) (by unfold rng; omega) (hth.up (xσ83.trans (xσ84.trans (xσ87.trans (xσ88.trans xσ89))))) hGσ89 hYσ89 h) wc_X6_134 2 hd_X6_number ⟨Nat.le_trans (Nat.le_of_ble_eq_true rfl) K.2.2.2.1, Nat.le_trans (Nat.le_of_ble_eq_true rfl) K.2.2.2.2.1⟩ (hth.up (xσ83.trans (xσ84.trans (xσ87.trans (xσ88.trans xσ89))))).1 (hth.up (xσ83.trans (xσ84.trans (xσ87.trans (xσ88.trans xσ89))))).2 (by decide) rfl rfl (rest := [va_rf (gP σ89 th 8)]) rfl (by simp only [List.map_cons, List.map_nil, rf_cat]; exact Nat.le_of_ble_eq_true rfl) dX6_foldText_143 (fun σ90 w hq => ?_) (fun σ9 E9 hx9 => hX σ9 E9 _ _ _ (tb_out K.2.2.2.2.2.1 rfl) hx9.1 hx9.2.1 hx9.2.2.1 ((((((hE.trans xσ83).trans xσ84).trans xσ87).trans xσ88).trans xσ89).trans hx9.2.2.2))
  obtain ⟨r91, rfl, gr91, h, hGσ90, hYσ90, xσ90⟩ := hq
  have h := h xσ90
  intro H locs ls hH hl hc
  refine W.eq (g2 := F0 m 146 ls [.int (i32 r91), va_rf (gP σ89 th 8)]) (rfl) ?_
  try dsimp only at h
  obtain ⟨a92, ea92, h⟩ := h
  have ka92 : kO σ90 a92 5 := ((hYσ89.get (hth.up (xσ83.trans (xσ84.trans (xσ87.trans (xσ88.trans xσ89))))) (by decide)).up xσ90) a92 ea92
  have h := h ka92
  obtain ⟨σ93, eσ93⟩ : ∃ z, z = pI σ90 a92 12 r91 := ⟨_, rfl⟩
  have h := h σ93 eσ93
  refine W.eq (g2 := F0 m 146 ls [.int (i32 r91), .ref a92]) (by rw [ea92]; rfl) ?_
  refine f_puti B hH ka92 (by decide) rfl wu_X5 tyX5 tyX5_ok nmX5 12 (by decide) wf_X6_199 rfl (ty := .int) rfl rfl rfl rfl rfl dX6_foldText_146 (fun H locs hH => ?_)
  have hH : Hd D cA A s (pI σ90 a92 12 r91) H locs := hH
  rw [← eσ93] at hH
  have hGσ93 : RG σ93 := by rw [eσ93]; exact hGσ90.pI gr91
  have hYσ93 : TY σ93 := by rw [eσ93]; exact hYσ90.pI
  have xσ93 : Ext σ90 σ93 := by rw [eσ93]; exact Ext.pI
  have hc : CB n0 s0 σ93 := by rw [eσ93]; exact hc
  rw [show gc σ90 = gc σ93 by rw [eσ93]; try rfl, show gs σ90 = gs σ93 by rw [eσ93]; try rfl]
  refine lv_aload_n B.1 B.2.1 dX6_foldText_149 rfl (lv_at hl 0 rfl) ?_
  refine f_getp B hH (hth.up (xσ83.trans (xσ84.trans (xσ87.trans (xσ88.trans (xσ89.trans (xσ90.trans xσ93))))))) (by decide) rfl wu_X6 8 (by decide) wf_X6_88 rfl rfl dX6_foldText_150 ?_
  obtain ⟨a94, ea94, h⟩ := h
  have ka94 : kO σ93 a94 5 := (hYσ93.get (hth.up (xσ83.trans (xσ84.trans (xσ87.trans (xσ88.trans (xσ89.trans (xσ90.trans xσ93))))))) (by decide)) a94 ea94
  have h := h ka94
  refine W.eq (g2 := F0 m 153 ls [.ref a94]) (by rw [ea94]; rfl) ?_
  refine f_geti B hH ka94 (by decide) rfl wu_X5 12 (by decide) wf_X6_199 rfl rfl dX6_foldText_153 ?_
  refine lv_aload_n B.1 B.2.1 dX6_foldText_156 rfl (lv_at hl 0 rfl) ?_
  refine f_getp B hH (hth.up (xσ83.trans (xσ84.trans (xσ87.trans (xσ88.trans (xσ89.trans (xσ90.trans xσ93))))))) (by decide) rfl wu_X6 8 (by decide) wf_X6_88 rfl rfl dX6_foldText_157 ?_
  refine W.eq (g2 := F0 m 160 ls [.ref a94, .int (i32 (gI σ93 a94 12))]) (by rw [ea94]; rfl) ?_
  refine f_geti B hH ka94 (by decide) rfl wu_X5 11 (by decide) wf_X6_196 rfl rfl dX6_foldText_160 ?_
  refine lv_icmp_gt (tgt := 186) B.1 B.2.1 dX6_foldText_163 (by decide) (fun h9 => ?_) (fun h9 => ?_)
  · rw [if_pos ((i32_lt (hGσ93 _ _) (hGσ93 _ _)).mp h9)] at h
    exact a_X6_foldText_186 K hQ hX hTh _ h hGσ93 hYσ93 (((((((hE.trans xσ83).trans xσ84).trans xσ87).trans xσ88).trans xσ89).trans xσ90).trans xσ93) (hth.up (xσ83.trans (xσ84.trans (xσ87.trans (xσ88.trans (xσ89.trans (xσ90.trans xσ93))))))) _ _ _ hH (lv_sub (l' := [(0, .ref th)]) hl [0] rfl) hc
  · rw [if_neg (fun q => h9 ((i32_lt (hGσ93 _ _) (hGσ93 _ _)).mpr q))] at h
    exact a_X6_foldText_166 K hQ hX hTh _ h hGσ93 hYσ93 (((((((hE.trans xσ83).trans xσ84).trans xσ87).trans xσ88).trans xσ89).trans xσ90).trans xσ93) (hth.up (xσ83.trans (xσ84.trans (xσ87.trans (xσ88.trans (xσ89.trans (xσ90.trans xσ93))))))) _ _ _ hH (lv_sub (l' := [(0, .ref th)]) hl [0] rfl) hc
set_option maxRecDepth 20000 in
theorem a_X6_foldText_69 {Q : Sg → Unit → Prop} {X : Sg → String → Prop} {th : Nat} (K : MD l R p s m args c cX6_foldText 1 RX6 D cA tys A n0 s0 10 173 []) (hQ : CQV p l e R s m args below meth c cX6_foldText D cA A n0 s0 QM σi Q) (hX : CX p l e R s m args below meth c 1 D cA A n0 s0 QM σi X) (hTh : CT p l e R s m args below meth c cX6_foldText 1 D cA A n0 s0 QM σi RX6 X) : ∀ (σ : Sg), w_X6_foldText_69 th Q X σ → RG σ → TY σ → Ext σi σ → kO σ th 6 → JJ p l e R s m args below meth c 1 D cA A n0 s0 QM σ 69 [(0, .ref th)] [] := by
  intro σ h hGσ hYσ hE hth H locs ls hH hl hc
  have B := K.1
  have hl9 := K.2.2.2.2.2.2
  unfold w_X6_foldText_69 at h
  refine lv_aload_n B.1 B.2.1 dX6_foldText_69 rfl (lv_at hl 0 rfl) ?_
  refine W.eq (g2 := F0 m 70 ls [.ref th]) (rfl) ?_
  refine c_V B hH hl hc K.2.2.1 (C := RX6) (T := TX6) (N := 9) (ci := 6) (As := []) (ok_X6_next hl9 K.2.1 σ th hth hGσ hYσ h) wc_X6_40 0 hd_X6_next ⟨Nat.le_trans (Nat.le_of_ble_eq_true rfl) K.2.2.2.1, Nat.le_trans (Nat.le_of_ble_eq_true rfl) K.2.2.2.2.1⟩ hth.1 hth.2 (by decide) rfl rfl (rest := []) rfl (Nat.le_of_ble_eq_true rfl) dX6_foldText_70 (fun σ95 w hq => ?_) (fun σ9 E9 hx9 => hX σ9 E9 _ _ _ (tb_out K.2.2.2.2.2.1 rfl) hx9.1 hx9.2.1 hx9.2.2.1 (hE.trans hx9.2.2.2))
  obtain ⟨rfl, h, hGσ95, hYσ95, xσ95⟩ := hq
  have h := h xσ95
  intro H locs ls hH hl hc
  refine W.eq (g2 := F0 m 73 ls []) (rfl) ?_
  try dsimp only at h
  refine lv_aload_n B.1 B.2.1 dX6_foldText_73 rfl (lv_at hl 0 rfl) ?_
  refine f_getp B hH (hth.up xσ95) (by decide) rfl wu_X6 8 (by decide) wf_X6_88 rfl rfl dX6_foldText_74 ?_
  refine lv_iconst (v := i32 5) B.1 B.2.1 dX6_foldText_77 (by decide) ?_
  obtain ⟨a96, ea96, h⟩ := h
  have ka96 : kO σ95 a96 5 := (hYσ95.get (hth.up xσ95) (by decide)) a96 ea96
  have h := h ka96
  obtain ⟨σ97, eσ97⟩ : ∃ z, z = pI σ95 a96 6 5 := ⟨_, rfl⟩
  have h := h σ97 eσ97
  refine W.eq (g2 := F0 m 78 ls [.int (i32 5), .ref a96]) (by rw [ea96]; rfl) ?_
  refine f_puti B hH ka96 (by decide) rfl wu_X5 tyX5 tyX5_ok nmX5 6 (by decide) wf_X6_131 rfl (ty := .int) rfl rfl rfl rfl rfl dX6_foldText_78 (fun H locs hH => ?_)
  have hH : Hd D cA A s (pI σ95 a96 6 5) H locs := hH
  rw [← eσ97] at hH
  have hGσ97 : RG σ97 := by rw [eσ97]; exact hGσ95.pI (by unfold rng; omega)
  have hYσ97 : TY σ97 := by rw [eσ97]; exact hYσ95.pI
  have xσ97 : Ext σ95 σ97 := by rw [eσ97]; exact Ext.pI
  have hc : CB n0 s0 σ97 := by rw [eσ97]; exact hc
  rw [show gc σ95 = gc σ97 by rw [eσ97]; try rfl, show gs σ95 = gs σ97 by rw [eσ97]; try rfl]
  refine lv_aload_n B.1 B.2.1 dX6_foldText_81 rfl (lv_at hl 0 rfl) ?_
  refine f_getp B hH (hth.up (xσ95.trans xσ97)) (by decide) rfl wu_X6 8 (by decide) wf_X6_88 rfl rfl dX6_foldText_82 ?_
  refine lv_aload_n B.1 B.2.1 dX6_foldText_85 rfl (lv_at hl 0 rfl) ?_
  refine lv_iconst (v := i32 1) B.1 B.2.1 dX6_foldText_86 (by decide) ?_
  refine lv_sipush (v := i32 1000) B.1 B.2.1 dX6_foldText_87 (by decide) ?_
  refine W.eq (g2 := F0 m 90 ls [.int (i32 1000), .int (i32 1), .ref th, va_rf (gP σ97 th 8)]) (rfl) ?_
  refine c_V B hH hl hc K.2.2.1 (C := RX6) (T := TX6) (N := 9) (ci := 6) (As := [.int (i32 1), .int (i32 1000)]) (ok_X6_number hl9 K.2.1 σ97 th 1 1000 (by unfold rng; omega) (by unfold rng; omega) (hth.up (xσ95.trans xσ97)) hGσ97 hYσ97 h) wc_X6_134 2 hd_X6_number ⟨Nat.le_trans (Nat.le_of_ble_eq_true rfl) K.2.2.2.1, Nat.le_trans (Nat.le_of_ble_eq_true rfl) K.2.2.2.2.1⟩ (hth.up (xσ95.trans xσ97)).1 (hth.up (xσ95.trans xσ97)).2 (by decide) rfl rfl (rest := [va_rf (gP σ97 th 8)]) rfl (by simp only [List.map_cons, List.map_nil, rf_cat]; exact Nat.le_of_ble_eq_true rfl) dX6_foldText_90 (fun σ98 w hq => ?_) (fun σ9 E9 hx9 => hX σ9 E9 _ _ _ (tb_out K.2.2.2.2.2.1 rfl) hx9.1 hx9.2.1 hx9.2.2.1 (((hE.trans xσ95).trans xσ97).trans hx9.2.2.2))
  obtain ⟨r99, rfl, gr99, h, hGσ98, hYσ98, xσ98⟩ := hq
  have h := h xσ98
  intro H locs ls hH hl hc
  refine W.eq (g2 := F0 m 93 ls [.int (i32 r99), va_rf (gP σ97 th 8)]) (rfl) ?_
  try dsimp only at h
  obtain ⟨a100, ea100, h⟩ := h
  have ka100 : kO σ98 a100 5 := ((hYσ97.get (hth.up (xσ95.trans xσ97)) (by decide)).up xσ98) a100 ea100
  have h := h ka100
  obtain ⟨σ101, eσ101⟩ : ∃ z, z = pI σ98 a100 11 r99 := ⟨_, rfl⟩
  have h := h σ101 eσ101
  refine W.eq (g2 := F0 m 93 ls [.int (i32 r99), .ref a100]) (by rw [ea100]; rfl) ?_
  refine f_puti B hH ka100 (by decide) rfl wu_X5 tyX5 tyX5_ok nmX5 11 (by decide) wf_X6_196 rfl (ty := .int) rfl rfl rfl rfl rfl dX6_foldText_93 (fun H locs hH => ?_)
  have hH : Hd D cA A s (pI σ98 a100 11 r99) H locs := hH
  rw [← eσ101] at hH
  have hGσ101 : RG σ101 := by rw [eσ101]; exact hGσ98.pI gr99
  have hYσ101 : TY σ101 := by rw [eσ101]; exact hYσ98.pI
  have xσ101 : Ext σ98 σ101 := by rw [eσ101]; exact Ext.pI
  have hc : CB n0 s0 σ101 := by rw [eσ101]; exact hc
  rw [show gc σ98 = gc σ101 by rw [eσ101]; try rfl, show gs σ98 = gs σ101 by rw [eσ101]; try rfl]
  refine lv_aload_n B.1 B.2.1 dX6_foldText_96 rfl (lv_at hl 0 rfl) ?_
  refine W.eq (g2 := F0 m 97 ls [.ref th]) (rfl) ?_
  refine c_V B hH hl hc K.2.2.1 (C := RX6) (T := TX6) (N := 9) (ci := 6) (As := []) (ok_X6_next hl9 K.2.1 σ101 th (hth.up (xσ95.trans (xσ97.trans (xσ98.trans xσ101)))) hGσ101 hYσ101 h) wc_X6_40 0 hd_X6_next ⟨Nat.le_trans (Nat.le_of_ble_eq_true rfl) K.2.2.2.1, Nat.le_trans (Nat.le_of_ble_eq_true rfl) K.2.2.2.2.1⟩ (hth.up (xσ95.trans (xσ97.trans (xσ98.trans xσ101)))).1 (hth.up (xσ95.trans (xσ97.trans (xσ98.trans xσ101)))).2 (by decide) rfl rfl (rest := []) rfl (Nat.le_of_ble_eq_true rfl) dX6_foldText_97 (fun σ102 w hq => ?_) (fun σ9 E9 hx9 => hX σ9 E9 _ _ _ (tb_out K.2.2.2.2.2.1 rfl) hx9.1 hx9.2.1 hx9.2.2.1 (((((hE.trans xσ95).trans xσ97).trans xσ98).trans xσ101).trans hx9.2.2.2))
  obtain ⟨rfl, h, hGσ102, hYσ102, xσ102⟩ := hq
  have h := h xσ102
  intro H locs ls hH hl hc
  refine W.eq (g2 := F0 m 100 ls []) (rfl) ?_
  try dsimp only at h
  refine lv_goto (tgt := 196) B.1 B.2.1 dX6_foldText_100 (by decide) ?_
  exact a_X6_foldText_196 K hQ hX hTh _ h hGσ102 hYσ102 (((((hE.trans xσ95).trans xσ97).trans xσ98).trans xσ101).trans xσ102) (hth.up (xσ95.trans (xσ97.trans (xσ98.trans (xσ101.trans xσ102))))) _ _ _ hH (lv_sub (l' := [(0, .ref th)]) hl [0] rfl) hc
set_option maxRecDepth 20000 in
theorem a_X6_foldText_0 {Q : Sg → Unit → Prop} {X : Sg → String → Prop} {th : Nat} (K : MD l R p s m args c cX6_foldText 1 RX6 D cA tys A n0 s0 10 173 []) (hQ : CQV p l e R s m args below meth c cX6_foldText D cA A n0 s0 QM σi Q) (hX : CX p l e R s m args below meth c 1 D cA A n0 s0 QM σi X) (hTh : CT p l e R s m args below meth c cX6_foldText 1 D cA A n0 s0 QM σi RX6 X) : ∀ (σ : Sg), w_X6_foldText_0 th Q X σ → RG σ → TY σ → Ext σi σ → kO σ th 6 → JJ p l e R s m args below meth c 1 D cA A n0 s0 QM σ 0 [(0, .ref th)] [] := by
  intro σ h hGσ hYσ hE hth H locs ls hH hl hc
  have B := K.1
  have hl9 := K.2.2.2.2.2.2
  unfold w_X6_foldText_0 at h
  refine lv_aload_n B.1 B.2.1 dX6_foldText_0 rfl (lv_at hl 0 rfl) ?_
  refine W.eq (g2 := F0 m 1 ls [.ref th]) (rfl) ?_
  refine c_V B hH hl hc K.2.2.1 (C := RX6) (T := TX6) (N := 9) (ci := 6) (As := []) (ok_X6_next hl9 K.2.1 σ th hth hGσ hYσ h) wc_X6_40 0 hd_X6_next ⟨Nat.le_trans (Nat.le_of_ble_eq_true rfl) K.2.2.2.1, Nat.le_trans (Nat.le_of_ble_eq_true rfl) K.2.2.2.2.1⟩ hth.1 hth.2 (by decide) rfl rfl (rest := []) rfl (Nat.le_of_ble_eq_true rfl) dX6_foldText_1 (fun σ103 w hq => ?_) (fun σ9 E9 hx9 => hX σ9 E9 _ _ _ (tb_out K.2.2.2.2.2.1 rfl) hx9.1 hx9.2.1 hx9.2.2.1 (hE.trans hx9.2.2.2))
  obtain ⟨rfl, h, hGσ103, hYσ103, xσ103⟩ := hq
  have h := h xσ103
  intro H locs ls hH hl hc
  refine W.eq (g2 := F0 m 4 ls []) (rfl) ?_
  try dsimp only at h
  refine lv_aload_n B.1 B.2.1 dX6_foldText_4 rfl (lv_at hl 0 rfl) ?_
  refine lv_iconst (v := i32 4) B.1 B.2.1 dX6_foldText_5 (by decide) ?_
  refine W.eq (g2 := F0 m 6 ls [.int (i32 4), .ref th]) (rfl) ?_
  refine c_V B hH hl hc K.2.2.1 (C := RX6) (T := TX6) (N := 9) (ci := 6) (As := [.int (i32 4)]) (ok_X6_firstInput hl9 K.2.1 σ103 th 4 (by unfold rng; omega) (hth.up xσ103) hGσ103 hYσ103 h) wc_X6_152 1 hd_X6_firstInput ⟨Nat.le_trans (Nat.le_of_ble_eq_true rfl) K.2.2.2.1, Nat.le_trans (Nat.le_of_ble_eq_true rfl) K.2.2.2.2.1⟩ (hth.up xσ103).1 (hth.up xσ103).2 (by decide) rfl rfl (rest := []) rfl (Nat.le_of_ble_eq_true rfl) dX6_foldText_6 (fun σ104 w hq => ?_) (fun σ9 E9 hx9 => hX σ9 E9 _ _ _ (tb_out K.2.2.2.2.2.1 rfl) hx9.1 hx9.2.1 hx9.2.2.1 ((hE.trans xσ103).trans hx9.2.2.2))
  obtain ⟨rfl, h, hGσ104, hYσ104, xσ104⟩ := hq
  have h := h xσ104
  intro H locs ls hH hl hc
  refine W.eq (g2 := F0 m 9 ls []) (rfl) ?_
  try dsimp only at h
  refine lv_aload_n B.1 B.2.1 dX6_foldText_9 rfl (lv_at hl 0 rfl) ?_
  refine W.eq (g2 := F0 m 10 ls [.ref th]) (rfl) ?_
  refine c_V B hH hl hc K.2.2.1 (C := RX6) (T := TX6) (N := 9) (ci := 6) (As := []) (ok_X6_next hl9 K.2.1 σ104 th (hth.up (xσ103.trans xσ104)) hGσ104 hYσ104 h) wc_X6_40 0 hd_X6_next ⟨Nat.le_trans (Nat.le_of_ble_eq_true rfl) K.2.2.2.1, Nat.le_trans (Nat.le_of_ble_eq_true rfl) K.2.2.2.2.1⟩ (hth.up (xσ103.trans xσ104)).1 (hth.up (xσ103.trans xσ104)).2 (by decide) rfl rfl (rest := []) rfl (Nat.le_of_ble_eq_true rfl) dX6_foldText_10 (fun σ105 w hq => ?_) (fun σ9 E9 hx9 => hX σ9 E9 _ _ _ (tb_out K.2.2.2.2.2.1 rfl) hx9.1 hx9.2.1 hx9.2.2.1 (((hE.trans xσ103).trans xσ104).trans hx9.2.2.2))
  obtain ⟨rfl, h, hGσ105, hYσ105, xσ105⟩ := hq
  have h := h xσ105
  intro H locs ls hH hl hc
  refine W.eq (g2 := F0 m 13 ls []) (rfl) ?_
  try dsimp only at h
  refine lv_aload_n B.1 B.2.1 dX6_foldText_13 rfl (lv_at hl 0 rfl) ?_
  refine lv_bipush (v := i32 6) B.1 B.2.1 dX6_foldText_14 (by decide) ?_
  refine W.eq (g2 := F0 m 16 ls [.int (i32 6), .ref th]) (rfl) ?_
  refine c_V B hH hl hc K.2.2.1 (C := RX6) (T := TX6) (N := 9) (ci := 6) (As := [.int (i32 6)]) (ok_X6_wantWord hl9 K.2.1 σ105 th 6 (by unfold rng; omega) (hth.up (xσ103.trans (xσ104.trans xσ105))) hGσ105 hYσ105 h) wc_X6_146 1 hd_X6_wantWord ⟨Nat.le_trans (Nat.le_of_ble_eq_true rfl) K.2.2.2.1, Nat.le_trans (Nat.le_of_ble_eq_true rfl) K.2.2.2.2.1⟩ (hth.up (xσ103.trans (xσ104.trans xσ105))).1 (hth.up (xσ103.trans (xσ104.trans xσ105))).2 (by decide) rfl rfl (rest := []) rfl (Nat.le_of_ble_eq_true rfl) dX6_foldText_16 (fun σ106 w hq => ?_) (fun σ9 E9 hx9 => hX σ9 E9 _ _ _ (tb_out K.2.2.2.2.2.1 rfl) hx9.1 hx9.2.1 hx9.2.2.1 ((((hE.trans xσ103).trans xσ104).trans xσ105).trans hx9.2.2.2))
  obtain ⟨rfl, h, hGσ106, hYσ106, xσ106⟩ := hq
  have h := h xσ106
  intro H locs ls hH hl hc
  refine W.eq (g2 := F0 m 19 ls []) (rfl) ?_
  try dsimp only at h
  refine lv_aload_n B.1 B.2.1 dX6_foldText_19 rfl (lv_at hl 0 rfl) ?_
  refine f_getp B hH (hth.up (xσ103.trans (xσ104.trans (xσ105.trans xσ106)))) (by decide) rfl wu_X6 8 (by decide) wf_X6_88 rfl rfl dX6_foldText_20 ?_
  refine lv_aload_n B.1 B.2.1 dX6_foldText_23 rfl (lv_at hl 0 rfl) ?_
  refine lv_aload_n B.1 B.2.1 dX6_foldText_24 rfl (lv_at hl 0 rfl) ?_
  refine f_getp B hH (hth.up (xσ103.trans (xσ104.trans (xσ105.trans xσ106)))) (by decide) rfl wu_X6 7 (by decide) wf_X6_31 rfl rfl dX6_foldText_25 ?_
  obtain ⟨a107, ea107, h⟩ := h
  have ka107 : kO σ106 a107 4 := (hYσ106.get (hth.up (xσ103.trans (xσ104.trans (xσ105.trans xσ106)))) (by decide)) a107 ea107
  have h := h ka107
  refine W.eq (g2 := F0 m 28 ls [.ref a107, .ref th, va_rf (gP σ106 th 8)]) (by rw [ea107]; rfl) ?_
  refine f_getp B hH ka107 (by decide) rfl wu_X4 0 (by decide) wf_X6_84 rfl rfl dX6_foldText_28 ?_
  refine lv_aload_n B.1 B.2.1 dX6_foldText_31 rfl (lv_at hl 0 rfl) ?_
  refine f_getp B hH (hth.up (xσ103.trans (xσ104.trans (xσ105.trans xσ106)))) (by decide) rfl wu_X6 8 (by decide) wf_X6_88 rfl rfl dX6_foldText_32 ?_
  obtain ⟨a108, ea108, h⟩ := h
  have ka108 : kO σ106 a108 5 := (hYσ106.get (hth.up (xσ103.trans (xσ104.trans (xσ105.trans xσ106)))) (by decide)) a108 ea108
  have h := h ka108
  refine W.eq (g2 := F0 m 35 ls [.ref a108, va_rf (gP σ106 a107 0), .ref th, va_rf (gP σ106 th 8)]) (by rw [ea108]; rfl) ?_
  refine f_geti B hH ka108 (by decide) rfl wu_X5 7 (by decide) wf_X6_155 rfl rfl dX6_foldText_35 ?_
  obtain ⟨a109, ea109, h⟩ := h
  have ka109 : kO σ106 a109 115 := (hYσ106.get ka107 (by decide)) a109 ea109
  have h := h ka109
  obtain ⟨q1, h⟩ := h
  refine W.eq (g2 := F0 m 38 ls [.int (i32 (gI σ106 a108 7)), .ref a109, .ref th, va_rf (gP σ106 th 8)]) (by rw [ea109]; rfl) ?_
  refine y_aald B hH (t0 := 6) ka109 (by decide) K.2.1.2.2.2.1 q1 (hYσ106.2 _) dX6_foldText_38 ?_
  refine W.eq (g2 := F0 m 39 ls [va_rf (gP σ106 a109 (gI σ106 a108 7).toNat), .ref th, va_rf (gP σ106 th 8)]) (rfl) ?_
  refine c_V B hH hl hc K.2.2.1 (C := RX6) (T := TX6) (N := 9) (ci := 6) (As := [va_rf (gP σ106 a109 (gI σ106 a108 7).toNat)]) (ok_X6_column hl9 K.2.1 σ106 th (gP σ106 a109 (gI σ106 a108 7).toNat) (hYσ106.get ka109 rfl) (hth.up (xσ103.trans (xσ104.trans (xσ105.trans xσ106)))) hGσ106 hYσ106 h) wc_X6_185 1 hd_X6_column ⟨Nat.le_trans (Nat.le_of_ble_eq_true rfl) K.2.2.2.1, Nat.le_trans (Nat.le_of_ble_eq_true rfl) K.2.2.2.2.1⟩ (hth.up (xσ103.trans (xσ104.trans (xσ105.trans xσ106)))).1 (hth.up (xσ103.trans (xσ104.trans (xσ105.trans xσ106)))).2 (by decide) rfl rfl (rest := [va_rf (gP σ106 th 8)]) rfl (by simp only [List.map_cons, List.map_nil, rf_cat]; exact Nat.le_of_ble_eq_true rfl) dX6_foldText_39 (fun σ110 w hq => ?_) (fun σ9 E9 hx9 => hX σ9 E9 _ _ _ (tb_out K.2.2.2.2.2.1 rfl) hx9.1 hx9.2.1 hx9.2.2.1 (((((hE.trans xσ103).trans xσ104).trans xσ105).trans xσ106).trans hx9.2.2.2))
  obtain ⟨r111, rfl, gr111, h, hGσ110, hYσ110, xσ110⟩ := hq
  have h := h xσ110
  intro H locs ls hH hl hc
  refine W.eq (g2 := F0 m 42 ls [.int (i32 r111), va_rf (gP σ106 th 8)]) (rfl) ?_
  try dsimp only at h
  obtain ⟨σ112, eσ112⟩ : ∃ z, z = pI σ110 a108 13 r111 := ⟨_, rfl⟩
  have h := h σ112 eσ112
  refine W.eq (g2 := F0 m 42 ls [.int (i32 r111), .ref a108]) (by rw [ea108]; rfl) ?_
  refine f_puti B hH (ka108.up xσ110) (by decide) rfl wu_X5 tyX5 tyX5_ok nmX5 13 (by decide) wf_X6_189 rfl (ty := .int) rfl rfl rfl rfl rfl dX6_foldText_42 (fun H locs hH => ?_)
  have hH : Hd D cA A s (pI σ110 a108 13 r111) H locs := hH
  rw [← eσ112] at hH
  have hGσ112 : RG σ112 := by rw [eσ112]; exact hGσ110.pI gr111
  have hYσ112 : TY σ112 := by rw [eσ112]; exact hYσ110.pI
  have xσ112 : Ext σ110 σ112 := by rw [eσ112]; exact Ext.pI
  have hc : CB n0 s0 σ112 := by rw [eσ112]; exact hc
  rw [show gc σ110 = gc σ112 by rw [eσ112]; try rfl, show gs σ110 = gs σ112 by rw [eσ112]; try rfl]
  refine lv_aload_n B.1 B.2.1 dX6_foldText_45 rfl (lv_at hl 0 rfl) ?_
  refine f_getp B hH (hth.up (xσ103.trans (xσ104.trans (xσ105.trans (xσ106.trans (xσ110.trans xσ112)))))) (by decide) rfl wu_X6 8 (by decide) wf_X6_88 rfl rfl dX6_foldText_46 ?_
  refine lv_aload_n B.1 B.2.1 dX6_foldText_49 rfl (lv_at hl 0 rfl) ?_
  refine f_getl B hH (hth.up (xσ103.trans (xσ104.trans (xσ105.trans (xσ106.trans (xσ110.trans xσ112)))))) (by decide) rfl wu_X6 4 (by decide) wf_X6_73 rfl rfl dX6_foldText_50 ?_
  obtain ⟨a114, ea114, h⟩ := h
  have ka114 : kO σ112 a114 5 := (hYσ112.get (hth.up (xσ103.trans (xσ104.trans (xσ105.trans (xσ106.trans (xσ110.trans xσ112)))))) (by decide)) a114 ea114
  have h := h ka114
  refine W.eq (g2 := F0 m 53 ls [.long (gJ σ112 th 4), .ref a114]) (by rw [ea114]; rfl) ?_
  refine c_V B hH hl hc K.2.2.1 (C := RX5) (T := TX5) (N := 17) (ci := 5) (As := [.long (gJ σ112 th 4)]) (ok_X5_addColumn hl9 K.2.1 σ112 a114 (gJ σ112 th 4) ka114 hGσ112 hYσ112 h) wc_X6_192 1 hd_X5_addColumn ⟨Nat.le_trans (Nat.le_of_ble_eq_true rfl) K.2.2.2.1, Nat.le_trans (Nat.le_of_ble_eq_true rfl) K.2.2.2.2.1⟩ ka114.1 ka114.2 (by decide) rfl rfl (rest := []) rfl (Nat.le_of_ble_eq_true rfl) dX6_foldText_53 (fun σ113 w hq => ?_) (fun σ9 E9 hx9 => hX σ9 E9 _ _ _ (tb_out K.2.2.2.2.2.1 rfl) hx9.1 hx9.2.1 hx9.2.2.1 (((((((hE.trans xσ103).trans xσ104).trans xσ105).trans xσ106).trans xσ110).trans xσ112).trans hx9.2.2.2))
  obtain ⟨rfl, h, hGσ113, hYσ113, xσ113⟩ := hq
  have h := h xσ113
  intro H locs ls hH hl hc
  refine W.eq (g2 := F0 m 56 ls []) (rfl) ?_
  try dsimp only at h
  refine lv_aload_n B.1 B.2.1 dX6_foldText_56 rfl (lv_at hl 0 rfl) ?_
  refine W.eq (g2 := F0 m 57 ls [.ref th]) (rfl) ?_
  refine c_V B hH hl hc K.2.2.1 (C := RX6) (T := TX6) (N := 9) (ci := 6) (As := []) (ok_X6_next hl9 K.2.1 σ113 th (hth.up (xσ103.trans (xσ104.trans (xσ105.trans (xσ106.trans (xσ110.trans (xσ112.trans xσ113))))))) hGσ113 hYσ113 h) wc_X6_40 0 hd_X6_next ⟨Nat.le_trans (Nat.le_of_ble_eq_true rfl) K.2.2.2.1, Nat.le_trans (Nat.le_of_ble_eq_true rfl) K.2.2.2.2.1⟩ (hth.up (xσ103.trans (xσ104.trans (xσ105.trans (xσ106.trans (xσ110.trans (xσ112.trans xσ113))))))).1 (hth.up (xσ103.trans (xσ104.trans (xσ105.trans (xσ106.trans (xσ110.trans (xσ112.trans xσ113))))))).2 (by decide) rfl rfl (rest := []) rfl (Nat.le_of_ble_eq_true rfl) dX6_foldText_57 (fun σ115 w hq => ?_) (fun σ9 E9 hx9 => hX σ9 E9 _ _ _ (tb_out K.2.2.2.2.2.1 rfl) hx9.1 hx9.2.1 hx9.2.2.1 ((((((((hE.trans xσ103).trans xσ104).trans xσ105).trans xσ106).trans xσ110).trans xσ112).trans xσ113).trans hx9.2.2.2))
  obtain ⟨rfl, h, hGσ115, hYσ115, xσ115⟩ := hq
  have h := h xσ115
  intro H locs ls hH hl hc
  refine W.eq (g2 := F0 m 60 ls []) (rfl) ?_
  try dsimp only at h
  refine lv_aload_n B.1 B.2.1 dX6_foldText_60 rfl (lv_at hl 0 rfl) ?_
  refine lv_bipush (v := i32 9) B.1 B.2.1 dX6_foldText_61 (by decide) ?_
  refine W.eq (g2 := F0 m 63 ls [.int (i32 9), .ref th]) (rfl) ?_
  refine c_V B hH hl hc K.2.2.1 (C := RX6) (T := TX6) (N := 9) (ci := 6) (As := [.int (i32 9)]) (ok_X6_isWord hl9 K.2.1 σ115 th 9 (by unfold rng; omega) (hth.up (xσ103.trans (xσ104.trans (xσ105.trans (xσ106.trans (xσ110.trans (xσ112.trans (xσ113.trans xσ115)))))))) hGσ115 hYσ115 h) wc_X6_66 1 hd_X6_isWord ⟨Nat.le_trans (Nat.le_of_ble_eq_true rfl) K.2.2.2.1, Nat.le_trans (Nat.le_of_ble_eq_true rfl) K.2.2.2.2.1⟩ (hth.up (xσ103.trans (xσ104.trans (xσ105.trans (xσ106.trans (xσ110.trans (xσ112.trans (xσ113.trans xσ115)))))))).1 (hth.up (xσ103.trans (xσ104.trans (xσ105.trans (xσ106.trans (xσ110.trans (xσ112.trans (xσ113.trans xσ115)))))))).2 (by decide) rfl rfl (rest := []) rfl (Nat.le_of_ble_eq_true rfl) dX6_foldText_63 (fun σ116 w hq => ?_) (fun σ9 E9 hx9 => hX σ9 E9 _ _ _ (tb_out K.2.2.2.2.2.1 rfl) hx9.1 hx9.2.1 hx9.2.2.1 (((((((((hE.trans xσ103).trans xσ104).trans xσ105).trans xσ106).trans xσ110).trans xσ112).trans xσ113).trans xσ115).trans hx9.2.2.2))
  obtain ⟨r117, rfl, ⟨gr117, gzr117⟩, h, hGσ116, hYσ116, xσ116⟩ := hq
  have h := h xσ116
  intro H locs ls hH hl hc
  refine W.eq (g2 := F0 m 66 ls [.int (i32 r117)]) (rfl) ?_
  try dsimp only at h
  refine lv_if_eq (tgt := 103) B.1 B.2.1 dX6_foldText_66 (by decide) (fun h9 => ?_) (fun h9 => ?_)
  · rw [if_pos ((z_eq gr117).mp h9)] at h
    exact a_X6_foldText_103 K hQ hX hTh _ h hGσ116 hYσ116 (((((((((hE.trans xσ103).trans xσ104).trans xσ105).trans xσ106).trans xσ110).trans xσ112).trans xσ113).trans xσ115).trans xσ116) (hth.up (xσ103.trans (xσ104.trans (xσ105.trans (xσ106.trans (xσ110.trans (xσ112.trans (xσ113.trans (xσ115.trans xσ116))))))))) _ _ _ hH (lv_sub (l' := [(0, .ref th)]) hl [0] rfl) hc
  · rw [if_neg (fun q => h9 ((z_eq gr117).mpr q))] at h
    exact a_X6_foldText_69 K hQ hX hTh _ h hGσ116 hYσ116 (((((((((hE.trans xσ103).trans xσ104).trans xσ105).trans xσ106).trans xσ110).trans xσ112).trans xσ113).trans xσ115).trans xσ116) (hth.up (xσ103.trans (xσ104.trans (xσ105.trans (xσ106.trans (xσ110.trans (xσ112.trans (xσ113.trans (xσ115.trans xσ116))))))))) _ _ _ hH (lv_sub (l' := [(0, .ref th)]) hl [0] rfl) hc
theorem ok_X6_foldText (hl0 : l.stackTraces = false) (hT : TyC cA tys) {Q : Sg → Unit → Prop} {X : Sg → String → Prop} (σ : Sg) (th : Nat) (hth : kO σ th 6) (hG : RG σ) (hY : TY σ) (h : wp_X6_foldText th σ Q X) : Ok l D cA tys A yX6_foldText (.code yX6_foldText cX6_foldText 1 none) 10 173 [.ref th] σ (QcV σ Q) (QxC σ X) := by
  unfold wp_X6_foldText at h
  exact oc_V hl0 (by decide) (by exact Nat.le_of_ble_eq_true rfl) hT (fun p e R s m args below meth c K hQ hX hTh hin9 H locs ls hH hl hc => a_X6_foldText_0 K hQ hX hTh σ h hG hY (Ext.rfl' σ) hth H locs ls hH (lv_sub (l' := [(0, .ref th)]) hl [0] rfl) hc)
theorem dX6_mapText_0 : decode cX6_mapText 0 = .ok (.aload_n 0, 1) := by decide +kernel
theorem dX6_mapText_1 : decode cX6_mapText 1 = .ok (.invokevirtual 40, 3) := by decide +kernel
theorem dX6_mapText_4 : decode cX6_mapText 4 = .ok (.aload_n 0, 1) := by decide +kernel
theorem dX6_mapText_5 : decode cX6_mapText 5 = .ok (.iconst 2, 1) := by decide +kernel
theorem dX6_mapText_6 : decode cX6_mapText 6 = .ok (.invokevirtual 152, 3) := by decide +kernel
theorem dX6_mapText_9 : decode cX6_mapText 9 = .ok (.aload_n 0, 1) := by decide +kernel
theorem dX6_mapText_10 : decode cX6_mapText 10 = .ok (.invokevirtual 40, 3) := by decide +kernel
theorem dX6_mapText_13 : decode cX6_mapText 13 = .ok (.aload_n 0, 1) := by decide +kernel
theorem dX6_mapText_14 : decode cX6_mapText 14 = .ok (.bipush 58, 2) := by decide +kernel
theorem dX6_mapText_16 : decode cX6_mapText 16 = .ok (.invokevirtual 57, 3) := by decide +kernel
theorem dX6_mapText_19 : decode cX6_mapText 19 = .ok (.iconst 0, 1) := by decide +kernel
theorem dX6_mapText_20 : decode cX6_mapText 20 = .ok (.istore_n 1, 1) := by decide +kernel
theorem dX6_mapText_21 : decode cX6_mapText 21 = .ok (.iload_n 1, 1) := by decide +kernel
theorem dX6_mapText_22 : decode cX6_mapText 22 = .ok (.bipush 8, 2) := by decide +kernel
theorem dX6_mapText_24 : decode cX6_mapText 24 = .ok (.if_icmp .gt 54, 3) := by decide +kernel
theorem dX6_mapText_27 : decode cX6_mapText 27 = .ok (.aload_n 0, 1) := by decide +kernel
theorem dX6_mapText_28 : decode cX6_mapText 28 = .ok (.bipush 8, 2) := by decide +kernel
theorem dX6_mapText_30 : decode cX6_mapText 30 = .ok (.invokevirtual 143, 3) := by decide +kernel
theorem dX6_mapText_33 : decode cX6_mapText 33 = .ok (.aload_n 0, 1) := by decide +kernel
theorem dX6_mapText_34 : decode cX6_mapText 34 = .ok (.bipush 61, 2) := by decide +kernel
theorem dX6_mapText_36 : decode cX6_mapText 36 = .ok (.invokevirtual 57, 3) := by decide +kernel
theorem dX6_mapText_39 : decode cX6_mapText 39 = .ok (.aload_n 0, 1) := by decide +kernel
theorem dX6_mapText_40 : decode cX6_mapText 40 = .ok (.invokevirtual 162, 3) := by decide +kernel
theorem dX6_mapText_43 : decode cX6_mapText 43 = .ok (.aload_n 0, 1) := by decide +kernel
theorem dX6_mapText_44 : decode cX6_mapText 44 = .ok (.iconst 0, 1) := by decide +kernel
theorem dX6_mapText_45 : decode cX6_mapText 45 = .ok (.invokevirtual 165, 3) := by decide +kernel
theorem dX6_mapText_48 : decode cX6_mapText 48 = .ok (.aload_n 0, 1) := by decide +kernel
theorem dX6_mapText_49 : decode cX6_mapText 49 = .ok (.getfield 31, 3) := by decide +kernel
theorem dX6_mapText_52 : decode cX6_mapText 52 = .ok (.iconst 0, 1) := by decide +kernel
theorem dX6_mapText_53 : decode cX6_mapText 53 = .ok (.lconst 0, 1) := by decide +kernel
theorem dX6_mapText_54 : decode cX6_mapText 54 = .ok (.invokevirtual 167, 3) := by decide +kernel
theorem dX6_mapText_57 : decode cX6_mapText 57 = .ok (.pop, 1) := by decide +kernel
theorem dX6_mapText_58 : decode cX6_mapText 58 = .ok (.aload_n 0, 1) := by decide +kernel
theorem dX6_mapText_59 : decode cX6_mapText 59 = .ok (.bipush 44, 2) := by decide +kernel
theorem dX6_mapText_61 : decode cX6_mapText 61 = .ok (.invokevirtual 171, 3) := by decide +kernel
theorem dX6_mapText_64 : decode cX6_mapText 64 = .ok (.ifCond .ne 4, 3) := by decide +kernel
theorem dX6_mapText_67 : decode cX6_mapText 67 = .ok (.return_, 1) := by decide +kernel
theorem dX6_mapText_68 : decode cX6_mapText 68 = .ok (.aload_n 0, 1) := by decide +kernel
theorem dX6_mapText_69 : decode cX6_mapText 69 = .ok (.invokevirtual 40, 3) := by decide +kernel
theorem dX6_mapText_72 : decode cX6_mapText 72 = .ok (.iinc 1 1, 3) := by decide +kernel
theorem dX6_mapText_75 : decode cX6_mapText 75 = .ok (.goto (-54), 3) := by decide +kernel
theorem dX6_mapText_78 : decode cX6_mapText 78 = .ok (.return_, 1) := by decide +kernel
set_option maxRecDepth 20000 in
theorem a_X6_mapText_78 {Q : Sg → Unit → Prop} {X : Sg → String → Prop} {th : Nat} (K : MD l R p s m args c cX6_mapText 2 RX6 D cA tys A n0 s0 161 11223 []) (hQ : CQV p l e R s m args below meth c cX6_mapText D cA A n0 s0 QM σi Q) (hX : CX p l e R s m args below meth c 2 D cA A n0 s0 QM σi X) (hTh : CT p l e R s m args below meth c cX6_mapText 2 D cA A n0 s0 QM σi RX6 X) : ∀ (σ : Sg), w_X6_mapText_78 th Q X σ → RG σ → TY σ → Ext σi σ → kO σ th 6 → JJ p l e R s m args below meth c 2 D cA A n0 s0 QM σ 78 [(0, .ref th)] [] := by
  intro σ h hGσ hYσ hE hth H locs ls hH hl hc
  have B := K.1
  have hl9 := K.2.2.2.2.2.2
  unfold w_X6_mapText_78 at h
  exact hQ _ _ _ _ _ dX6_mapText_78 hH hc h hGσ hYσ hE
set_option maxRecDepth 20000 in
theorem a_X6_mapText_68 {Q : Sg → Unit → Prop} {X : Sg → String → Prop} {th : Nat} (K : MD l R p s m args c cX6_mapText 2 RX6 D cA tys A n0 s0 161 11223 []) (hQ : CQV p l e R s m args below meth c cX6_mapText D cA A n0 s0 QM σi Q) (hX : CX p l e R s m args below meth c 2 D cA A n0 s0 QM σi X) (hTh : CT p l e R s m args below meth c cX6_mapText 2 D cA A n0 s0 QM σi RX6 X) {K21 : Sg → Int → Prop} (hK21 : ∀ (σ : Sg) (v1 : Int) (g1 : rng v1), K21 σ v1 → RG σ → TY σ → Ext σi σ → kO σ th 6 → JJ p l e R s m args below meth c 2 D cA A n0 s0 QM σ 21 [(0, .ref th), (1, .int (i32 v1))] []) : ∀ (σ : Sg) (v1 : Int) (g1 : rng v1), w_X6_mapText_68 th K21 Q X σ v1 → RG σ → TY σ → Ext σi σ → kO σ th 6 → JJ p l e R s m args below meth c 2 D cA A n0 s0 QM σ 68 [(0, .ref th), (1, .int (i32 v1))] [] := by
  intro σ v1 g1 h hGσ hYσ hE hth H locs ls hH hl hc
  have B := K.1
  have hl9 := K.2.2.2.2.2.2
  unfold w_X6_mapText_68 at h
  refine lv_aload_n B.1 B.2.1 dX6_mapText_68 rfl (lv_at hl 0 rfl) ?_
  refine W.eq (g2 := F0 m 69 ls [.ref th]) (rfl) ?_
  refine c_V B hH hl hc K.2.2.1 (C := RX6) (T := TX6) (N := 9) (ci := 6) (As := []) (ok_X6_next hl9 K.2.1 σ th hth hGσ hYσ h) wc_X6_40 0 hd_X6_next ⟨Nat.le_trans (Nat.le_of_ble_eq_true rfl) K.2.2.2.1, Nat.le_trans (Nat.le_of_ble_eq_true rfl) K.2.2.2.2.1⟩ hth.1 hth.2 (by decide) rfl rfl (rest := []) rfl (Nat.le_of_ble_eq_true rfl) dX6_mapText_69 (fun σ29 w hq => ?_) (fun σ9 E9 hx9 => hX σ9 E9 _ _ _ (tb_out K.2.2.2.2.2.1 rfl) hx9.1 hx9.2.1 hx9.2.2.1 (hE.trans hx9.2.2.2))
  obtain ⟨rfl, h, hGσ29, hYσ29, xσ29⟩ := hq
  have h := h xσ29
  intro H locs ls hH hl hc
  refine W.eq (g2 := F0 m 72 ls []) (rfl) ?_
  try dsimp only at h
  obtain ⟨q1, h⟩ := h
  refine lv_iinc (k := 1) (v := i32 (v1 + 1)) (lv' := [(1, .int (i32 (v1 + 1))), (0, .ref th)]) B.1 B.2.1 dX6_mapText_72 hl rfl (i32_add _ _) (by decide) rfl (fun ls hl => ?_)
  refine lv_goto (tgt := 21) B.1 B.2.1 dX6_mapText_75 (by decide) ?_
  exact hK21 _ _ q1 h hGσ29 hYσ29 (hE.trans xσ29) (hth.up xσ29) _ _ _ hH (lv_sub (l' := [(0, .ref th), (1, .int (i32 (v1 + 1)))]) hl [1, 0] rfl) hc
set_option maxRecDepth 20000 in
theorem a_X6_mapText_67 {Q : Sg → Unit → Prop} {X : Sg → String → Prop} {th : Nat} (K : MD l R p s m args c cX6_mapText 2 RX6 D cA tys A n0 s0 161 11223 []) (hQ : CQV p l e R s m args below meth c cX6_mapText D cA A n0 s0 QM σi Q) (hX : CX p l e R s m args below meth c 2 D cA A n0 s0 QM σi X) (hTh : CT p l e R s m args below meth c cX6_mapText 2 D cA A n0 s0 QM σi RX6 X) : ∀ (σ : Sg), w_X6_mapText_67 th Q X σ → RG σ → TY σ → Ext σi σ → kO σ th 6 → JJ p l e R s m args below meth c 2 D cA A n0 s0 QM σ 67 [(0, .ref th)] [] := by
  intro σ h hGσ hYσ hE hth H locs ls hH hl hc
  have B := K.1
  have hl9 := K.2.2.2.2.2.2
  unfold w_X6_mapText_67 at h
  exact hQ _ _ _ _ _ dX6_mapText_67 hH hc h hGσ hYσ hE
set_option maxRecDepth 20000 in
theorem a_X6_mapText_27 {Q : Sg → Unit → Prop} {X : Sg → String → Prop} {th : Nat} (K : MD l R p s m args c cX6_mapText 2 RX6 D cA tys A n0 s0 161 11223 []) (hQ : CQV p l e R s m args below meth c cX6_mapText D cA A n0 s0 QM σi Q) (hX : CX p l e R s m args below meth c 2 D cA A n0 s0 QM σi X) (hTh : CT p l e R s m args below meth c cX6_mapText 2 D cA A n0 s0 QM σi RX6 X) {K21 : Sg → Int → Prop} (hK21 : ∀ (σ : Sg) (v1 : Int) (g1 : rng v1), K21 σ v1 → RG σ → TY σ → Ext σi σ → kO σ th 6 → JJ p l e R s m args below meth c 2 D cA A n0 s0 QM σ 21 [(0, .ref th), (1, .int (i32 v1))] []) : ∀ (σ : Sg) (v1 : Int) (g1 : rng v1), w_X6_mapText_27 th K21 Q X σ v1 → RG σ → TY σ → Ext σi σ → kO σ th 6 → JJ p l e R s m args below meth c 2 D cA A n0 s0 QM σ 27 [(0, .ref th), (1, .int (i32 v1))] [] := by
  intro σ v1 g1 h hGσ hYσ hE hth H locs ls hH hl hc
  have B := K.1
  have hl9 := K.2.2.2.2.2.2
  unfold w_X6_mapText_27 at h
  refine lv_aload_n B.1 B.2.1 dX6_mapText_27 rfl (lv_at hl 0 rfl) ?_
  refine lv_bipush (v := i32 8) B.1 B.2.1 dX6_mapText_28 (by decide) ?_
  refine W.eq (g2 := F0 m 30 ls [.int (i32 8), .ref th]) (rfl) ?_
  refine c_V B hH hl hc K.2.2.1 (C := RX6) (T := TX6) (N := 9) (ci := 6) (As := [.int (i32 8)]) (ok_X6_newColumn hl9 K.2.1 σ th 8 (by unfold rng; omega) hth hGσ hYσ h) wc_X6_143 1 hd_X6_newColumn ⟨Nat.le_trans (Nat.le_of_ble_eq_true rfl) K.2.2.2.1, Nat.le_trans (Nat.le_of_ble_eq_true rfl) K.2.2.2.2.1⟩ hth.1 hth.2 (by decide) rfl rfl (rest := []) rfl (Nat.le_of_ble_eq_true rfl) dX6_mapText_30 (fun σ30 w hq => ?_) (fun σ9 E9 hx9 => hX σ9 E9 _ _ _ (tb_out K.2.2.2.2.2.1 rfl) hx9.1 hx9.2.1 hx9.2.2.1 (hE.trans hx9.2.2.2))
  obtain ⟨rfl, h, hGσ30, hYσ30, xσ30⟩ := hq
  have h := h xσ30
  intro H locs ls hH hl hc
  refine W.eq (g2 := F0 m 33 ls []) (rfl) ?_
  try dsimp only at h
  refine lv_aload_n B.1 B.2.1 dX6_mapText_33 rfl (lv_at hl 0 rfl) ?_
  refine lv_bipush (v := i32 61) B.1 B.2.1 dX6_mapText_34 (by decide) ?_
  refine W.eq (g2 := F0 m 36 ls [.int (i32 61), .ref th]) (rfl) ?_
  refine c_V B hH hl hc K.2.2.1 (C := RX6) (T := TX6) (N := 9) (ci := 6) (As := [.int (i32 61)]) (ok_X6_wantSign hl9 K.2.1 σ30 th 61 (by unfold rng; omega) (hth.up xσ30) hGσ30 hYσ30 h) wc_X6_57 1 hd_X6_wantSign ⟨Nat.le_trans (Nat.le_of_ble_eq_true rfl) K.2.2.2.1, Nat.le_trans (Nat.le_of_ble_eq_true rfl) K.2.2.2.2.1⟩ (hth.up xσ30).1 (hth.up xσ30).2 (by decide) rfl rfl (rest := []) rfl (Nat.le_of_ble_eq_true rfl) dX6_mapText_36 (fun σ31 w hq => ?_) (fun σ9 E9 hx9 => hX σ9 E9 _ _ _ (tb_out K.2.2.2.2.2.1 rfl) hx9.1 hx9.2.1 hx9.2.2.1 ((hE.trans xσ30).trans hx9.2.2.2))
  obtain ⟨rfl, h, hGσ31, hYσ31, xσ31⟩ := hq
  have h := h xσ31
  intro H locs ls hH hl hc
  refine W.eq (g2 := F0 m 39 ls []) (rfl) ?_
  try dsimp only at h
  refine lv_aload_n B.1 B.2.1 dX6_mapText_39 rfl (lv_at hl 0 rfl) ?_
  refine W.eq (g2 := F0 m 40 ls [.ref th]) (rfl) ?_
  refine c_V B hH hl hc K.2.2.1 (C := RX6) (T := TX6) (N := 9) (ci := 6) (As := []) (ok_X6_newValue hl9 K.2.1 σ31 th (hth.up (xσ30.trans xσ31)) hGσ31 hYσ31 h) wc_X6_162 0 hd_X6_newValue ⟨Nat.le_trans (Nat.le_of_ble_eq_true rfl) K.2.2.2.1, Nat.le_trans (Nat.le_of_ble_eq_true rfl) K.2.2.2.2.1⟩ (hth.up (xσ30.trans xσ31)).1 (hth.up (xσ30.trans xσ31)).2 (by decide) rfl rfl (rest := []) rfl (Nat.le_of_ble_eq_true rfl) dX6_mapText_40 (fun σ32 w hq => ?_) (fun σ9 E9 hx9 => hX σ9 E9 _ _ _ (tb_out K.2.2.2.2.2.1 rfl) hx9.1 hx9.2.1 hx9.2.2.1 (((hE.trans xσ30).trans xσ31).trans hx9.2.2.2))
  obtain ⟨rfl, h, hGσ32, hYσ32, xσ32⟩ := hq
  have h := h xσ32
  intro H locs ls hH hl hc
  refine W.eq (g2 := F0 m 43 ls []) (rfl) ?_
  try dsimp only at h
  refine lv_aload_n B.1 B.2.1 dX6_mapText_43 rfl (lv_at hl 0 rfl) ?_
  refine lv_iconst (v := i32 0) B.1 B.2.1 dX6_mapText_44 (by decide) ?_
  refine W.eq (g2 := F0 m 45 ls [.int (i32 0), .ref th]) (rfl) ?_
  refine c_V B hH hl hc K.2.2.1 (C := RX6) (T := TX6) (N := 9) (ci := 6) (As := [.int (i32 0)]) (ok_X6_value hl9 K.2.1 σ32 th 0 (by unfold rng; omega) (hth.up (xσ30.trans (xσ31.trans xσ32))) hGσ32 hYσ32 h) wc_X6_165 1 hd_X6_value ⟨Nat.le_trans (Nat.le_of_ble_eq_true rfl) K.2.2.2.1, Nat.le_trans (Nat.le_of_ble_eq_true rfl) K.2.2.2.2.1⟩ (hth.up (xσ30.trans (xσ31.trans xσ32))).1 (hth.up (xσ30.trans (xσ31.trans xσ32))).2 (by decide) rfl rfl (rest := []) rfl (Nat.le_of_ble_eq_true rfl) dX6_mapText_45 (fun σ33 w hq => ?_) (fun σ9 E9 hx9 => hX σ9 E9 _ _ _ (tb_out K.2.2.2.2.2.1 rfl) hx9.1 hx9.2.1 hx9.2.2.1 ((((hE.trans xσ30).trans xσ31).trans xσ32).trans hx9.2.2.2))
  obtain ⟨rfl, h, hGσ33, hYσ33, xσ33⟩ := hq
  have h := h xσ33
  intro H locs ls hH hl hc
  refine W.eq (g2 := F0 m 48 ls []) (rfl) ?_
  try dsimp only at h
  refine lv_aload_n B.1 B.2.1 dX6_mapText_48 rfl (lv_at hl 0 rfl) ?_
  refine f_getp B hH (hth.up (xσ30.trans (xσ31.trans (xσ32.trans xσ33)))) (by decide) rfl wu_X6 7 (by decide) wf_X6_31 rfl rfl dX6_mapText_49 ?_
  refine lv_iconst (v := i32 0) B.1 B.2.1 dX6_mapText_52 (by decide) ?_
  refine lv_lconst (v := 0) B.1 B.2.1 dX6_mapText_53 (by decide) ?_
  obtain ⟨a36, ea36, h⟩ := h
  have ka36 : kO σ33 a36 4 := (hYσ33.get (hth.up (xσ30.trans (xσ31.trans (xσ32.trans xσ33)))) (by decide)) a36 ea36
  have h := h ka36
  refine W.eq (g2 := F0 m 54 ls [.long 0, .int (i32 0), .ref a36]) (by rw [ea36]; rfl) ?_
  refine c_V B hH hl hc K.2.2.1 (C := RX4) (T := TX4) (N := 14) (ci := 4) (As := [.int (i32 0), .long 0]) (ok_X4_emit hl9 K.2.1 σ33 a36 0 0 (by unfold rng; omega) ka36 hGσ33 hYσ33 h) wc_X6_167 2 hd_X4_emit ⟨Nat.le_trans (Nat.le_of_ble_eq_true rfl) K.2.2.2.1, Nat.le_trans (Nat.le_of_ble_eq_true rfl) K.2.2.2.2.1⟩ ka36.1 ka36.2 (by decide) rfl rfl (rest := []) rfl (Nat.le_of_ble_eq_true rfl) dX6_mapText_54 (fun σ34 w hq => ?_) (fun σ9 E9 hx9 => hX σ9 E9 _ _ _ (tb_out K.2.2.2.2.2.1 rfl) hx9.1 hx9.2.1 hx9.2.2.1 (((((hE.trans xσ30).trans xσ31).trans xσ32).trans xσ33).trans hx9.2.2.2))
  obtain ⟨r35, rfl, gr35, h, hGσ34, hYσ34, xσ34⟩ := hq
  have h := h xσ34
  intro H locs ls hH hl hc
  refine W.eq (g2 := F0 m 57 ls [.int (i32 r35)]) (rfl) ?_
  try dsimp only at h
  refine lv_pop B.1 B.2.1 dX6_mapText_57 rfl ?_
  refine lv_aload_n B.1 B.2.1 dX6_mapText_58 rfl (lv_at hl 0 rfl) ?_
  refine lv_bipush (v := i32 44) B.1 B.2.1 dX6_mapText_59 (by decide) ?_
  refine W.eq (g2 := F0 m 61 ls [.int (i32 44), .ref th]) (rfl) ?_
  refine c_V B hH hl hc K.2.2.1 (C := RX6) (T := TX6) (N := 9) (ci := 6) (As := [.int (i32 44)]) (ok_X6_isSign hl9 K.2.1 σ34 th 44 (by unfold rng; omega) (hth.up (xσ30.trans (xσ31.trans (xσ32.trans (xσ33.trans xσ34))))) hGσ34 hYσ34 h) wc_X6_171 1 hd_X6_isSign ⟨Nat.le_trans (Nat.le_of_ble_eq_true rfl) K.2.2.2.1, Nat.le_trans (Nat.le_of_ble_eq_true rfl) K.2.2.2.2.1⟩ (hth.up (xσ30.trans (xσ31.trans (xσ32.trans (xσ33.trans xσ34))))).1 (hth.up (xσ30.trans (xσ31.trans (xσ32.trans (xσ33.trans xσ34))))).2 (by decide) rfl rfl (rest := []) rfl (Nat.le_of_ble_eq_true rfl) dX6_mapText_61 (fun σ37 w hq => ?_) (fun σ9 E9 hx9 => hX σ9 E9 _ _ _ (tb_out K.2.2.2.2.2.1 rfl) hx9.1 hx9.2.1 hx9.2.2.1 ((((((hE.trans xσ30).trans xσ31).trans xσ32).trans xσ33).trans xσ34).trans hx9.2.2.2))
  obtain ⟨r38, rfl, ⟨gr38, gzr38⟩, h, hGσ37, hYσ37, xσ37⟩ := hq
  have h := h xσ37
  intro H locs ls hH hl hc
  refine W.eq (g2 := F0 m 64 ls [.int (i32 r38)]) (rfl) ?_
  try dsimp only at h
  refine lv_if_ne (tgt := 68) B.1 B.2.1 dX6_mapText_64 (by decide) (fun h9 => ?_) (fun h9 => ?_)
  · rw [if_pos (fun q => h9 ((z_eq gr38).mpr q))] at h
    exact a_X6_mapText_68 K hQ hX hTh hK21 _ _ g1 h hGσ37 hYσ37 ((((((hE.trans xσ30).trans xσ31).trans xσ32).trans xσ33).trans xσ34).trans xσ37) (hth.up (xσ30.trans (xσ31.trans (xσ32.trans (xσ33.trans (xσ34.trans xσ37)))))) _ _ _ hH (lv_sub (l' := [(0, .ref th), (1, .int (i32 v1))]) hl [0, 1] rfl) hc
  · rw [if_neg (fun q => q ((z_eq gr38).mp h9))] at h
    exact a_X6_mapText_67 K hQ hX hTh _ h hGσ37 hYσ37 ((((((hE.trans xσ30).trans xσ31).trans xσ32).trans xσ33).trans xσ34).trans xσ37) (hth.up (xσ30.trans (xσ31.trans (xσ32.trans (xσ33.trans (xσ34.trans xσ37)))))) _ _ _ hH (lv_sub (l' := [(0, .ref th)]) hl [0] rfl) hc
set_option maxRecDepth 20000 in
theorem a_X6_mapText_21 {Q : Sg → Unit → Prop} {X : Sg → String → Prop} {th : Nat} (K : MD l R p s m args c cX6_mapText 2 RX6 D cA tys A n0 s0 161 11223 []) (hQ : CQV p l e R s m args below meth c cX6_mapText D cA A n0 s0 QM σi Q) (hX : CX p l e R s m args below meth c 2 D cA A n0 s0 QM σi X) (hTh : CT p l e R s m args below meth c cX6_mapText 2 D cA A n0 s0 QM σi RX6 X) {K21 : Sg → Int → Prop} (hK21 : ∀ (σ : Sg) (v1 : Int) (g1 : rng v1), K21 σ v1 → RG σ → TY σ → Ext σi σ → kO σ th 6 → JJ p l e R s m args below meth c 2 D cA A n0 s0 QM σ 21 [(0, .ref th), (1, .int (i32 v1))] []) : ∀ (σ : Sg) (v1 : Int) (g1 : rng v1), w_X6_mapText_21 th K21 Q X σ v1 → RG σ → TY σ → Ext σi σ → kO σ th 6 → JJ p l e R s m args below meth c 2 D cA A n0 s0 QM σ 21 [(0, .ref th), (1, .int (i32 v1))] [] := by
  intro σ v1 g1 h hGσ hYσ hE hth H locs ls hH hl hc
  have B := K.1
  have hl9 := K.2.2.2.2.2.2
  unfold w_X6_mapText_21 at h
  refine lv_iload_n B.1 B.2.1 dX6_mapText_21 rfl (lv_at hl 1 rfl) ?_
  refine lv_bipush (v := i32 8) B.1 B.2.1 dX6_mapText_22 (by decide) ?_
  refine lv_icmp_gt (tgt := 78) B.1 B.2.1 dX6_mapText_24 (by decide) (fun h9 => ?_) (fun h9 => ?_)
  · rw [if_pos ((i32_lt (by unfold rng; omega) g1).mp h9)] at h
    exact a_X6_mapText_78 K hQ hX hTh _ h hGσ hYσ hE hth _ _ _ hH (lv_sub (l' := [(0, .ref th)]) hl [0] rfl) hc
  · rw [if_neg (fun q => h9 ((i32_lt (by unfold rng; omega) g1).mpr q))] at h
    exact a_X6_mapText_27 K hQ hX hTh hK21 _ _ g1 h hGσ hYσ hE hth _ _ _ hH (lv_sub (l' := [(0, .ref th), (1, .int (i32 v1))]) hl [0, 1] rfl) hc
theorem al_X6_mapText_21 {Q : Sg → Unit → Prop} {X : Sg → String → Prop} {th : Nat} (K : MD l R p s m args c cX6_mapText 2 RX6 D cA tys A n0 s0 161 11223 []) (hQ : CQV p l e R s m args below meth c cX6_mapText D cA A n0 s0 QM σi Q) (hX : CX p l e R s m args below meth c 2 D cA A n0 s0 QM σi X) (hTh : CT p l e R s m args below meth c cX6_mapText 2 D cA A n0 s0 QM σi RX6 X) : ∀ (n : Nat), ∀ (σ : Sg) (v1 : Int) (g1 : rng v1), wl_X6_mapText_21 th Q X n σ v1 → RG σ → TY σ → Ext σi σ → kO σ th 6 → JJ p l e R s m args below meth c 2 D cA A n0 s0 QM σ 21 [(0, .ref th), (1, .int (i32 v1))] [] := by
  intro n
  induction n with
  | zero => intro σ v1 g1 h; exact h.elim
  | succ n ih => exact fun σ v1 g1 h => a_X6_mapText_21 K hQ hX hTh ih σ v1 g1 h
set_option maxRecDepth 20000 in
theorem a_X6_mapText_0 {Q : Sg → Unit → Prop} {X : Sg → String → Prop} {th : Nat} (K : MD l R p s m args c cX6_mapText 2 RX6 D cA tys A n0 s0 161 11223 []) (hQ : CQV p l e R s m args below meth c cX6_mapText D cA A n0 s0 QM σi Q) (hX : CX p l e R s m args below meth c 2 D cA A n0 s0 QM σi X) (hTh : CT p l e R s m args below meth c cX6_mapText 2 D cA A n0 s0 QM σi RX6 X) : ∀ (σ : Sg), w_X6_mapText_0 th Q X σ → RG σ → TY σ → Ext σi σ → kO σ th 6 → JJ p l e R s m args below meth c 2 D cA A n0 s0 QM σ 0 [(0, .ref th)] [] := by
  intro σ h hGσ hYσ hE hth H locs ls hH hl hc
  have B := K.1
  have hl9 := K.2.2.2.2.2.2
  unfold w_X6_mapText_0 at h
  refine lv_aload_n B.1 B.2.1 dX6_mapText_0 rfl (lv_at hl 0 rfl) ?_
  refine W.eq (g2 := F0 m 1 ls [.ref th]) (rfl) ?_
  refine c_V B hH hl hc K.2.2.1 (C := RX6) (T := TX6) (N := 9) (ci := 6) (As := []) (ok_X6_next hl9 K.2.1 σ th hth hGσ hYσ h) wc_X6_40 0 hd_X6_next ⟨Nat.le_trans (Nat.le_of_ble_eq_true rfl) K.2.2.2.1, Nat.le_trans (Nat.le_of_ble_eq_true rfl) K.2.2.2.2.1⟩ hth.1 hth.2 (by decide) rfl rfl (rest := []) rfl (Nat.le_of_ble_eq_true rfl) dX6_mapText_1 (fun σ39 w hq => ?_) (fun σ9 E9 hx9 => hX σ9 E9 _ _ _ (tb_out K.2.2.2.2.2.1 rfl) hx9.1 hx9.2.1 hx9.2.2.1 (hE.trans hx9.2.2.2))
  obtain ⟨rfl, h, hGσ39, hYσ39, xσ39⟩ := hq
  have h := h xσ39
  intro H locs ls hH hl hc
  refine W.eq (g2 := F0 m 4 ls []) (rfl) ?_
  try dsimp only at h
  refine lv_aload_n B.1 B.2.1 dX6_mapText_4 rfl (lv_at hl 0 rfl) ?_
  refine lv_iconst (v := i32 2) B.1 B.2.1 dX6_mapText_5 (by decide) ?_
  refine W.eq (g2 := F0 m 6 ls [.int (i32 2), .ref th]) (rfl) ?_
  refine c_V B hH hl hc K.2.2.1 (C := RX6) (T := TX6) (N := 9) (ci := 6) (As := [.int (i32 2)]) (ok_X6_firstInput hl9 K.2.1 σ39 th 2 (by unfold rng; omega) (hth.up xσ39) hGσ39 hYσ39 h) wc_X6_152 1 hd_X6_firstInput ⟨Nat.le_trans (Nat.le_of_ble_eq_true rfl) K.2.2.2.1, Nat.le_trans (Nat.le_of_ble_eq_true rfl) K.2.2.2.2.1⟩ (hth.up xσ39).1 (hth.up xσ39).2 (by decide) rfl rfl (rest := []) rfl (Nat.le_of_ble_eq_true rfl) dX6_mapText_6 (fun σ40 w hq => ?_) (fun σ9 E9 hx9 => hX σ9 E9 _ _ _ (tb_out K.2.2.2.2.2.1 rfl) hx9.1 hx9.2.1 hx9.2.2.1 ((hE.trans xσ39).trans hx9.2.2.2))
  obtain ⟨rfl, h, hGσ40, hYσ40, xσ40⟩ := hq
  have h := h xσ40
  intro H locs ls hH hl hc
  refine W.eq (g2 := F0 m 9 ls []) (rfl) ?_
  try dsimp only at h
  refine lv_aload_n B.1 B.2.1 dX6_mapText_9 rfl (lv_at hl 0 rfl) ?_
  refine W.eq (g2 := F0 m 10 ls [.ref th]) (rfl) ?_
  refine c_V B hH hl hc K.2.2.1 (C := RX6) (T := TX6) (N := 9) (ci := 6) (As := []) (ok_X6_next hl9 K.2.1 σ40 th (hth.up (xσ39.trans xσ40)) hGσ40 hYσ40 h) wc_X6_40 0 hd_X6_next ⟨Nat.le_trans (Nat.le_of_ble_eq_true rfl) K.2.2.2.1, Nat.le_trans (Nat.le_of_ble_eq_true rfl) K.2.2.2.2.1⟩ (hth.up (xσ39.trans xσ40)).1 (hth.up (xσ39.trans xσ40)).2 (by decide) rfl rfl (rest := []) rfl (Nat.le_of_ble_eq_true rfl) dX6_mapText_10 (fun σ41 w hq => ?_) (fun σ9 E9 hx9 => hX σ9 E9 _ _ _ (tb_out K.2.2.2.2.2.1 rfl) hx9.1 hx9.2.1 hx9.2.2.1 (((hE.trans xσ39).trans xσ40).trans hx9.2.2.2))
  obtain ⟨rfl, h, hGσ41, hYσ41, xσ41⟩ := hq
  have h := h xσ41
  intro H locs ls hH hl hc
  refine W.eq (g2 := F0 m 13 ls []) (rfl) ?_
  try dsimp only at h
  refine lv_aload_n B.1 B.2.1 dX6_mapText_13 rfl (lv_at hl 0 rfl) ?_
  refine lv_bipush (v := i32 58) B.1 B.2.1 dX6_mapText_14 (by decide) ?_
  refine W.eq (g2 := F0 m 16 ls [.int (i32 58), .ref th]) (rfl) ?_
  refine c_V B hH hl hc K.2.2.1 (C := RX6) (T := TX6) (N := 9) (ci := 6) (As := [.int (i32 58)]) (ok_X6_wantSign hl9 K.2.1 σ41 th 58 (by unfold rng; omega) (hth.up (xσ39.trans (xσ40.trans xσ41))) hGσ41 hYσ41 h) wc_X6_57 1 hd_X6_wantSign ⟨Nat.le_trans (Nat.le_of_ble_eq_true rfl) K.2.2.2.1, Nat.le_trans (Nat.le_of_ble_eq_true rfl) K.2.2.2.2.1⟩ (hth.up (xσ39.trans (xσ40.trans xσ41))).1 (hth.up (xσ39.trans (xσ40.trans xσ41))).2 (by decide) rfl rfl (rest := []) rfl (Nat.le_of_ble_eq_true rfl) dX6_mapText_16 (fun σ42 w hq => ?_) (fun σ9 E9 hx9 => hX σ9 E9 _ _ _ (tb_out K.2.2.2.2.2.1 rfl) hx9.1 hx9.2.1 hx9.2.2.1 ((((hE.trans xσ39).trans xσ40).trans xσ41).trans hx9.2.2.2))
  obtain ⟨rfl, h, hGσ42, hYσ42, xσ42⟩ := hq
  have h := h xσ42
  intro H locs ls hH hl hc
  refine W.eq (g2 := F0 m 19 ls []) (rfl) ?_
  try dsimp only at h
  refine lv_iconst (v := i32 0) B.1 B.2.1 dX6_mapText_19 (by decide) ?_
  refine lv_istore_n (lv' := [(1, .int (i32 0)), (0, .ref th)]) B.1 B.2.1 dX6_mapText_20 rfl hl (by decide) rfl (fun ls hl => ?_)
  obtain ⟨n9, h⟩ := h
  exact al_X6_mapText_21 K hQ hX hTh n9 _ _ (by unfold rng; omega) h hGσ42 hYσ42 ((((hE.trans xσ39).trans xσ40).trans xσ41).trans xσ42) (hth.up (xσ39.trans (xσ40.trans (xσ41.trans xσ42)))) _ _ _ hH (lv_sub (l' := [(0, .ref th), (1, .int (i32 0))]) hl [1, 0] rfl) hc
theorem ok_X6_mapText (hl0 : l.stackTraces = false) (hT : TyC cA tys) {Q : Sg → Unit → Prop} {X : Sg → String → Prop} (σ : Sg) (th : Nat) (hth : kO σ th 6) (hG : RG σ) (hY : TY σ) (h : wp_X6_mapText th σ Q X) : Ok l D cA tys A yX6_mapText (.code yX6_mapText cX6_mapText 2 none) 161 11223 [.ref th] σ (QcV σ Q) (QxC σ X) := by
  unfold wp_X6_mapText at h
  exact oc_V hl0 (by decide) (by exact Nat.le_of_ble_eq_true rfl) hT (fun p e R s m args below meth c K hQ hX hTh hin9 H locs ls hH hl hc => a_X6_mapText_0 K hQ hX hTh σ h hG hY (Ext.rfl' σ) hth H locs ls hH (lv_sub (l' := [(0, .ref th)]) hl [0] rfl) hc)
theorem dX6_matchText_0 : decode cX6_matchText 0 = .ok (.aload_n 0, 1) := by decide +kernel
theorem dX6_matchText_1 : decode cX6_matchText 1 = .ok (.invokevirtual 40, 3) := by decide +kernel
theorem dX6_matchText_4 : decode cX6_matchText 4 = .ok (.aload_n 0, 1) := by decide +kernel
theorem dX6_matchText_5 : decode cX6_matchText 5 = .ok (.bipush 8, 2) := by decide +kernel
theorem dX6_matchText_7 : decode cX6_matchText 7 = .ok (.invokevirtual 152, 3) := by decide +kernel
theorem dX6_matchText_10 : decode cX6_matchText 10 = .ok (.aload_n 0, 1) := by decide +kernel
theorem dX6_matchText_11 : decode cX6_matchText 11 = .ok (.invokevirtual 40, 3) := by decide +kernel
theorem dX6_matchText_14 : decode cX6_matchText 14 = .ok (.aload_n 0, 1) := by decide +kernel
theorem dX6_matchText_15 : decode cX6_matchText 15 = .ok (.bipush 6, 2) := by decide +kernel
theorem dX6_matchText_17 : decode cX6_matchText 17 = .ok (.invokevirtual 146, 3) := by decide +kernel
theorem dX6_matchText_20 : decode cX6_matchText 20 = .ok (.aload_n 0, 1) := by decide +kernel
theorem dX6_matchText_21 : decode cX6_matchText 21 = .ok (.getfield 88, 3) := by decide +kernel
theorem dX6_matchText_24 : decode cX6_matchText 24 = .ok (.aload_n 0, 1) := by decide +kernel
theorem dX6_matchText_25 : decode cX6_matchText 25 = .ok (.aload_n 0, 1) := by decide +kernel
theorem dX6_matchText_26 : decode cX6_matchText 26 = .ok (.getfield 31, 3) := by decide +kernel
theorem dX6_matchText_29 : decode cX6_matchText 29 = .ok (.getfield 84, 3) := by decide +kernel
theorem dX6_matchText_32 : decode cX6_matchText 32 = .ok (.aload_n 0, 1) := by decide +kernel
theorem dX6_matchText_33 : decode cX6_matchText 33 = .ok (.getfield 88, 3) := by decide +kernel
theorem dX6_matchText_36 : decode cX6_matchText 36 = .ok (.getfield 155, 3) := by decide +kernel
theorem dX6_matchText_39 : decode cX6_matchText 39 = .ok (.aaload, 1) := by decide +kernel
theorem dX6_matchText_40 : decode cX6_matchText 40 = .ok (.invokevirtual 185, 3) := by decide +kernel
theorem dX6_matchText_43 : decode cX6_matchText 43 = .ok (.putfield 189, 3) := by decide +kernel
theorem dX6_matchText_46 : decode cX6_matchText 46 = .ok (.aload_n 0, 1) := by decide +kernel
theorem dX6_matchText_47 : decode cX6_matchText 47 = .ok (.getfield 73, 3) := by decide +kernel
theorem dX6_matchText_50 : decode cX6_matchText 50 = .ok (.ldc2_w 229, 3) := by decide +kernel
theorem dX6_matchText_53 : decode cX6_matchText 53 = .ok (.lcmp, 1) := by decide +kernel
theorem dX6_matchText_54 : decode cX6_matchText 54 = .ok (.ifCond .eq 14, 3) := by decide +kernel
theorem dX6_matchText_57 : decode cX6_matchText 57 = .ok (.aload_n 0, 1) := by decide +kernel
theorem dX6_matchText_58 : decode cX6_matchText 58 = .ok (.getfield 73, 3) := by decide +kernel
theorem dX6_matchText_61 : decode cX6_matchText 61 = .ok (.ldc2_w 231, 3) := by decide +kernel
theorem dX6_matchText_64 : decode cX6_matchText 64 = .ok (.lcmp, 1) := by decide +kernel
theorem dX6_matchText_65 : decode cX6_matchText 65 = .ok (.ifCond .ne 9, 3) := by decide +kernel
theorem dX6_matchText_68 : decode cX6_matchText 68 = .ok (.aload_n 0, 1) := by decide +kernel
theorem dX6_matchText_69 : decode cX6_matchText 69 = .ok (.bipush 6, 2) := by decide +kernel
theorem dX6_matchText_71 : decode cX6_matchText 71 = .ok (.invokevirtual 81, 3) := by decide +kernel
theorem dX6_matchText_74 : decode cX6_matchText 74 = .ok (.aload_n 0, 1) := by decide +kernel
theorem dX6_matchText_75 : decode cX6_matchText 75 = .ok (.getfield 88, 3) := by decide +kernel
theorem dX6_matchText_78 : decode cX6_matchText 78 = .ok (.aload_n 0, 1) := by decide +kernel
theorem dX6_matchText_79 : decode cX6_matchText 79 = .ok (.getfield 73, 3) := by decide +kernel
theorem dX6_matchText_82 : decode cX6_matchText 82 = .ok (.invokevirtual 192, 3) := by decide +kernel
theorem dX6_matchText_85 : decode cX6_matchText 85 = .ok (.aload_n 0, 1) := by decide +kernel
theorem dX6_matchText_86 : decode cX6_matchText 86 = .ok (.getfield 88, 3) := by decide +kernel
theorem dX6_matchText_89 : decode cX6_matchText 89 = .ok (.ldc2_w 229, 3) := by decide +kernel
theorem dX6_matchText_92 : decode cX6_matchText 92 = .ok (.invokevirtual 192, 3) := by decide +kernel
theorem dX6_matchText_95 : decode cX6_matchText 95 = .ok (.aload_n 0, 1) := by decide +kernel
theorem dX6_matchText_96 : decode cX6_matchText 96 = .ok (.getfield 88, 3) := by decide +kernel
theorem dX6_matchText_99 : decode cX6_matchText 99 = .ok (.ldc2_w 231, 3) := by decide +kernel
theorem dX6_matchText_102 : decode cX6_matchText 102 = .ok (.invokevirtual 192, 3) := by decide +kernel
theorem dX6_matchText_105 : decode cX6_matchText 105 = .ok (.aload_n 0, 1) := by decide +kernel
theorem dX6_matchText_106 : decode cX6_matchText 106 = .ok (.invokevirtual 40, 3) := by decide +kernel
theorem dX6_matchText_109 : decode cX6_matchText 109 = .ok (.aload_n 0, 1) := by decide +kernel
theorem dX6_matchText_110 : decode cX6_matchText 110 = .ok (.bipush 58, 2) := by decide +kernel
theorem dX6_matchText_112 : decode cX6_matchText 112 = .ok (.invokevirtual 57, 3) := by decide +kernel
theorem dX6_matchText_115 : decode cX6_matchText 115 = .ok (.iconst 0, 1) := by decide +kernel
theorem dX6_matchText_116 : decode cX6_matchText 116 = .ok (.istore_n 1, 1) := by decide +kernel
theorem dX6_matchText_117 : decode cX6_matchText 117 = .ok (.iload_n 1, 1) := by decide +kernel
theorem dX6_matchText_118 : decode cX6_matchText 118 = .ok (.iconst 4, 1) := by decide +kernel
theorem dX6_matchText_119 : decode cX6_matchText 119 = .ok (.if_icmp .ge 78, 3) := by decide +kernel
theorem dX6_matchText_122 : decode cX6_matchText 122 = .ok (.aload_n 0, 1) := by decide +kernel
theorem dX6_matchText_123 : decode cX6_matchText 123 = .ok (.invokevirtual 162, 3) := by decide +kernel
theorem dX6_matchText_126 : decode cX6_matchText 126 = .ok (.aload_n 0, 1) := by decide +kernel
theorem dX6_matchText_127 : decode cX6_matchText 127 = .ok (.iconst 0, 1) := by decide +kernel
theorem dX6_matchText_128 : decode cX6_matchText 128 = .ok (.invokevirtual 165, 3) := by decide +kernel
theorem dX6_matchText_131 : decode cX6_matchText 131 = .ok (.aload_n 0, 1) := by decide +kernel
theorem dX6_matchText_132 : decode cX6_matchText 132 = .ok (.getfield 31, 3) := by decide +kernel
theorem dX6_matchText_135 : decode cX6_matchText 135 = .ok (.iconst 0, 1) := by decide +kernel
theorem dX6_matchText_136 : decode cX6_matchText 136 = .ok (.lconst 0, 1) := by decide +kernel
theorem dX6_matchText_137 : decode cX6_matchText 137 = .ok (.invokevirtual 167, 3) := by decide +kernel
theorem dX6_matchText_140 : decode cX6_matchText 140 = .ok (.pop, 1) := by decide +kernel
theorem dX6_matchText_141 : decode cX6_matchText 141 = .ok (.iload_n 1, 1) := by decide +kernel
theorem dX6_matchText_142 : decode cX6_matchText 142 = .ok (.ifCond .le 15, 3) := by decide +kernel
theorem dX6_matchText_145 : decode cX6_matchText 145 = .ok (.aload_n 0, 1) := by decide +kernel
theorem dX6_matchText_146 : decode cX6_matchText 146 = .ok (.bipush 11, 2) := by decide +kernel
theorem dX6_matchText_148 : decode cX6_matchText 148 = .ok (.invokevirtual 66, 3) := by decide +kernel
theorem dX6_matchText_151 : decode cX6_matchText 151 = .ok (.ifCond .eq 6, 3) := by decide +kernel
theorem dX6_matchText_154 : decode cX6_matchText 154 = .ok (.goto 43, 3) := by decide +kernel
theorem dX6_matchText_157 : decode cX6_matchText 157 = .ok (.aload_n 0, 1) := by decide +kernel
theorem dX6_matchText_158 : decode cX6_matchText 158 = .ok (.bipush 14, 2) := by decide +kernel
theorem dX6_matchText_160 : decode cX6_matchText 160 = .ok (.invokevirtual 66, 3) := by decide +kernel
theorem dX6_matchText_163 : decode cX6_matchText 163 = .ok (.ifCond .ne 7, 3) := by decide +kernel
theorem dX6_matchText_166 : decode cX6_matchText 166 = .ok (.aload_n 0, 1) := by decide +kernel
theorem dX6_matchText_167 : decode cX6_matchText 167 = .ok (.invokevirtual 70, 3) := by decide +kernel
theorem dX6_matchText_170 : decode cX6_matchText 170 = .ok (.aload_n 0, 1) := by decide +kernel
theorem dX6_matchText_171 : decode cX6_matchText 171 = .ok (.getfield 88, 3) := by decide +kernel
theorem dX6_matchText_174 : decode cX6_matchText 174 = .ok (.getfield 208, 3) := by decide +kernel
theorem dX6_matchText_177 : decode cX6_matchText 177 = .ok (.iconst 4, 1) := by decide +kernel
theorem dX6_matchText_178 : decode cX6_matchText 178 = .ok (.if_icmp .ne 9, 3) := by decide +kernel
theorem dX6_matchText_181 : decode cX6_matchText 181 = .ok (.aload_n 0, 1) := by decide +kernel
theorem dX6_matchText_182 : decode cX6_matchText 182 = .ok (.bipush 8, 2) := by decide +kernel
theorem dX6_matchText_184 : decode cX6_matchText 184 = .ok (.invokevirtual 81, 3) := by decide +kernel
theorem dX6_matchText_187 : decode cX6_matchText 187 = .ok (.aload_n 0, 1) := by decide +kernel
theorem dX6_matchText_188 : decode cX6_matchText 188 = .ok (.invokevirtual 40, 3) := by decide +kernel
theorem dX6_matchText_191 : decode cX6_matchText 191 = .ok (.iinc 1 1, 3) := by decide +kernel
theorem dX6_matchText_194 : decode cX6_matchText 194 = .ok (.goto (-77), 3) := by decide +kernel
theorem dX6_matchText_197 : decode cX6_matchText 197 = .ok (.aload_n 0, 1) := by decide +kernel
theorem dX6_matchText_198 : decode cX6_matchText 198 = .ok (.bipush 11, 2) := by decide +kernel
theorem dX6_matchText_200 : decode cX6_matchText 200 = .ok (.invokevirtual 146, 3) := by decide +kernel
theorem dX6_matchText_203 : decode cX6_matchText 203 = .ok (.aload_n 0, 1) := by decide +kernel
theorem dX6_matchText_204 : decode cX6_matchText 204 = .ok (.getfield 88, 3) := by decide +kernel
theorem dX6_matchText_207 : decode cX6_matchText 207 = .ok (.aload_n 0, 1) := by decide +kernel
theorem dX6_matchText_208 : decode cX6_matchText 208 = .ok (.iconst 0, 1) := by decide +kernel
theorem dX6_matchText_209 : decode cX6_matchText 209 = .ok (.sipush 1000, 3) := by decide +kernel
theorem dX6_matchText_212 : decode cX6_matchText 212 = .ok (.invokevirtual 134, 3) := by decide +kernel
theorem dX6_matchText_215 : decode cX6_matchText 215 = .ok (.putfield 226, 3) := by decide +kernel
theorem dX6_matchText_218 : decode cX6_matchText 218 = .ok (.aload_n 0, 1) := by decide +kernel
theorem dX6_matchText_219 : decode cX6_matchText 219 = .ok (.invokevirtual 40, 3) := by decide +kernel
theorem dX6_matchText_222 : decode cX6_matchText 222 = .ok (.return_, 1) := by decide +kernel
set_option maxRecDepth 20000 in
theorem a_X6_matchText_197 {Q : Sg → Unit → Prop} {X : Sg → String → Prop} {th : Nat} (K : MD l R p s m args c cX6_matchText 2 RX6 D cA tys A n0 s0 161 11223 []) (hQ : CQV p l e R s m args below meth c cX6_matchText D cA A n0 s0 QM σi Q) (hX : CX p l e R s m args below meth c 2 D cA A n0 s0 QM σi X) (hTh : CT p l e R s m args below meth c cX6_matchText 2 D cA A n0 s0 QM σi RX6 X) : ∀ (σ : Sg), w_X6_matchText_197 th Q X σ → RG σ → TY σ → Ext σi σ → kO σ th 6 → JJ p l e R s m args below meth c 2 D cA A n0 s0 QM σ 197 [(0, .ref th)] [] := by
  intro σ h hGσ hYσ hE hth H locs ls hH hl hc
  have B := K.1
  have hl9 := K.2.2.2.2.2.2
  unfold w_X6_matchText_197 at h
  refine lv_aload_n B.1 B.2.1 dX6_matchText_197 rfl (lv_at hl 0 rfl) ?_
  refine lv_bipush (v := i32 11) B.1 B.2.1 dX6_matchText_198 (by decide) ?_
  refine W.eq (g2 := F0 m 200 ls [.int (i32 11), .ref th]) (rfl) ?_
  refine c_V B hH hl hc K.2.2.1 (C := RX6) (T := TX6) (N := 9) (ci := 6) (As := [.int (i32 11)]) (ok_X6_wantWord hl9 K.2.1 σ th 11 (by unfold rng; omega) hth hGσ hYσ h) wc_X6_146 1 hd_X6_wantWord ⟨Nat.le_trans (Nat.le_of_ble_eq_true rfl) K.2.2.2.1, Nat.le_trans (Nat.le_of_ble_eq_true rfl) K.2.2.2.2.1⟩ hth.1 hth.2 (by decide) rfl rfl (rest := []) rfl (Nat.le_of_ble_eq_true rfl) dX6_matchText_200 (fun σ77 w hq => ?_) (fun σ9 E9 hx9 => hX σ9 E9 _ _ _ (tb_out K.2.2.2.2.2.1 rfl) hx9.1 hx9.2.1 hx9.2.2.1 (hE.trans hx9.2.2.2))
  obtain ⟨rfl, h, hGσ77, hYσ77, xσ77⟩ := hq
  have h := h xσ77
  intro H locs ls hH hl hc
  refine W.eq (g2 := F0 m 203 ls []) (rfl) ?_
  try dsimp only at h
  refine lv_aload_n B.1 B.2.1 dX6_matchText_203 rfl (lv_at hl 0 rfl) ?_
  refine f_getp B hH (hth.up xσ77) (by decide) rfl wu_X6 8 (by decide) wf_X6_88 rfl rfl dX6_matchText_204 ?_
  refine lv_aload_n B.1 B.2.1 dX6_matchText_207 rfl (lv_at hl 0 rfl) ?_
  refine lv_iconst (v := i32 0) B.1 B.2.1 dX6_matchText_208 (by decide) ?_
  refine lv_sipush (v := i32 1000) B.1 B.2.1 dX6_matchText_209 (by decide) ?_
  refine W.eq (g2 := F0 m 212 ls [.int (i32 1000), .int (i32 0), .ref th, va_rf (gP σ77 th 8)]) (rfl) ?_
  refine c_V B hH hl hc K.2.2.1 (C := RX6) (T := TX6) (N := 9) (ci := 6) (As := [.int (i32 0), .int (i32 1000)]) (ok_X6_number hl9 K.2.1 σ77 th 0 1000 (by unfold rng; omega) (by unfold rng; omega) (hth.up xσ77) hGσ77 hYσ77 h) wc_X6_134 2 hd_X6_number ⟨Nat.le_trans (Nat.le_of_ble_eq_true rfl) K.2.2.2.1, Nat.le_trans (Nat.le_of_ble_eq_true rfl) K.2.2.2.2.1⟩ (hth.up xσ77).1 (hth.up xσ77).2 (by decide) rfl rfl (rest := [va_rf (gP σ77 th 8)]) rfl (by simp only [List.map_cons, List.map_nil, rf_cat]; exact Nat.le_of_ble_eq_true rfl) dX6_matchText_212 (fun σ78 w hq => ?_) (fun σ9 E9 hx9 => hX σ9 E9 _ _ _ (tb_out K.2.2.2.2.2.1 rfl) hx9.1 hx9.2.1 hx9.2.2.1 ((hE.trans xσ77).trans hx9.2.2.2))
  obtain ⟨r79, rfl, gr79, h, hGσ78, hYσ78, xσ78⟩ := hq
  have h := h xσ78
  intro H locs ls hH hl hc
  refine W.eq (g2 := F0 m 215 ls [.int (i32 r79), va_rf (gP σ77 th 8)]) (rfl) ?_
  try dsimp only at h
  obtain ⟨a80, ea80, h⟩ := h
  have ka80 : kO σ78 a80 5 := ((hYσ77.get (hth.up xσ77) (by decide)).up xσ78) a80 ea80
  have h := h ka80
  obtain ⟨σ81, eσ81⟩ : ∃ z, z = pI σ78 a80 16 r79 := ⟨_, rfl⟩
  have h := h σ81 eσ81
  refine W.eq (g2 := F0 m 215 ls [.int (i32 r79), .ref a80]) (by rw [ea80]; rfl) ?_
  refine f_puti B hH ka80 (by decide) rfl wu_X5 tyX5 tyX5_ok nmX5 16 (by decide) wf_X6_226 rfl (ty := .int) rfl rfl rfl rfl rfl dX6_matchText_215 (fun H locs hH => ?_)
  have hH : Hd D cA A s (pI σ78 a80 16 r79) H locs := hH
  rw [← eσ81] at hH
  have hGσ81 : RG σ81 := by rw [eσ81]; exact hGσ78.pI gr79
  have hYσ81 : TY σ81 := by rw [eσ81]; exact hYσ78.pI
  have xσ81 : Ext σ78 σ81 := by rw [eσ81]; exact Ext.pI
  have hc : CB n0 s0 σ81 := by rw [eσ81]; exact hc
  rw [show gc σ78 = gc σ81 by rw [eσ81]; try rfl, show gs σ78 = gs σ81 by rw [eσ81]; try rfl]
  refine lv_aload_n B.1 B.2.1 dX6_matchText_218 rfl (lv_at hl 0 rfl) ?_
  refine W.eq (g2 := F0 m 219 ls [.ref th]) (rfl) ?_
  refine c_V B hH hl hc K.2.2.1 (C := RX6) (T := TX6) (N := 9) (ci := 6) (As := []) (ok_X6_next hl9 K.2.1 σ81 th (hth.up (xσ77.trans (xσ78.trans xσ81))) hGσ81 hYσ81 h) wc_X6_40 0 hd_X6_next ⟨Nat.le_trans (Nat.le_of_ble_eq_true rfl) K.2.2.2.1, Nat.le_trans (Nat.le_of_ble_eq_true rfl) K.2.2.2.2.1⟩ (hth.up (xσ77.trans (xσ78.trans xσ81))).1 (hth.up (xσ77.trans (xσ78.trans xσ81))).2 (by decide) rfl rfl (rest := []) rfl (Nat.le_of_ble_eq_true rfl) dX6_matchText_219 (fun σ82 w hq => ?_) (fun σ9 E9 hx9 => hX σ9 E9 _ _ _ (tb_out K.2.2.2.2.2.1 rfl) hx9.1 hx9.2.1 hx9.2.2.1 ((((hE.trans xσ77).trans xσ78).trans xσ81).trans hx9.2.2.2))
  obtain ⟨rfl, h, hGσ82, hYσ82, xσ82⟩ := hq
  have h := h xσ82
  intro H locs ls hH hl hc
  refine W.eq (g2 := F0 m 222 ls []) (rfl) ?_
  try dsimp only at h
  exact hQ _ _ _ _ _ dX6_matchText_222 hH hc h hGσ82 hYσ82 ((((hE.trans xσ77).trans xσ78).trans xσ81).trans xσ82)
set_option maxRecDepth 20000 in
theorem a_X6_matchText_187 {Q : Sg → Unit → Prop} {X : Sg → String → Prop} {th : Nat} (K : MD l R p s m args c cX6_matchText 2 RX6 D cA tys A n0 s0 161 11223 []) (hQ : CQV p l e R s m args below meth c cX6_matchText D cA A n0 s0 QM σi Q) (hX : CX p l e R s m args below meth c 2 D cA A n0 s0 QM σi X) (hTh : CT p l e R s m args below meth c cX6_matchText 2 D cA A n0 s0 QM σi RX6 X) {K117 : Sg → Int → Prop} (hK117 : ∀ (σ : Sg) (v1 : Int) (g1 : rng v1), K117 σ v1 → RG σ → TY σ → Ext σi σ → kO σ th 6 → JJ p l e R s m args below meth c 2 D cA A n0 s0 QM σ 117 [(0, .ref th), (1, .int (i32 v1))] []) : ∀ (σ : Sg) (v1 : Int) (g1 : rng v1), w_X6_matchText_187 th K117 Q X σ v1 → RG σ → TY σ → Ext σi σ → kO σ th 6 → JJ p l e R s m args below meth c 2 D cA A n0 s0 QM σ 187 [(0, .ref th), (1, .int (i32 v1))] [] := by
  intro σ v1 g1 h hGσ hYσ hE hth H locs ls hH hl hc
  have B := K.1
  have hl9 := K.2.2.2.2.2.2
  unfold w_X6_matchText_187 at h
  refine lv_aload_n B.1 B.2.1 dX6_matchText_187 rfl (lv_at hl 0 rfl) ?_
  refine W.eq (g2 := F0 m 188 ls [.ref th]) (rfl) ?_
  refine c_V B hH hl hc K.2.2.1 (C := RX6) (T := TX6) (N := 9) (ci := 6) (As := []) (ok_X6_next hl9 K.2.1 σ th hth hGσ hYσ h) wc_X6_40 0 hd_X6_next ⟨Nat.le_trans (Nat.le_of_ble_eq_true rfl) K.2.2.2.1, Nat.le_trans (Nat.le_of_ble_eq_true rfl) K.2.2.2.2.1⟩ hth.1 hth.2 (by decide) rfl rfl (rest := []) rfl (Nat.le_of_ble_eq_true rfl) dX6_matchText_188 (fun σ83 w hq => ?_) (fun σ9 E9 hx9 => hX σ9 E9 _ _ _ (tb_out K.2.2.2.2.2.1 rfl) hx9.1 hx9.2.1 hx9.2.2.1 (hE.trans hx9.2.2.2))
  obtain ⟨rfl, h, hGσ83, hYσ83, xσ83⟩ := hq
  have h := h xσ83
  intro H locs ls hH hl hc
  refine W.eq (g2 := F0 m 191 ls []) (rfl) ?_
  try dsimp only at h
  obtain ⟨q1, h⟩ := h
  refine lv_iinc (k := 1) (v := i32 (v1 + 1)) (lv' := [(1, .int (i32 (v1 + 1))), (0, .ref th)]) B.1 B.2.1 dX6_matchText_191 hl rfl (i32_add _ _) (by decide) rfl (fun ls hl => ?_)
  refine lv_goto (tgt := 117) B.1 B.2.1 dX6_matchText_194 (by decide) ?_
  exact hK117 _ _ q1 h hGσ83 hYσ83 (hE.trans xσ83) (hth.up xσ83) _ _ _ hH (lv_sub (l' := [(0, .ref th), (1, .int (i32 (v1 + 1)))]) hl [1, 0] rfl) hc
set_option maxRecDepth 20000 in
theorem a_X6_matchText_181 {Q : Sg → Unit → Prop} {X : Sg → String → Prop} {th : Nat} (K : MD l R p s m args c cX6_matchText 2 RX6 D cA tys A n0 s0 161 11223 []) (hQ : CQV p l e R s m args below meth c cX6_matchText D cA A n0 s0 QM σi Q) (hX : CX p l e R s m args below meth c 2 D cA A n0 s0 QM σi X) (hTh : CT p l e R s m args below meth c cX6_matchText 2 D cA A n0 s0 QM σi RX6 X) {K117 : Sg → Int → Prop} (hK117 : ∀ (σ : Sg) (v1 : Int) (g1 : rng v1), K117 σ v1 → RG σ → TY σ → Ext σi σ → kO σ th 6 → JJ p l e R s m args below meth c 2 D cA A n0 s0 QM σ 117 [(0, .ref th), (1, .int (i32 v1))] []) : ∀ (σ : Sg) (v1 : Int) (g1 : rng v1), w_X6_matchText_181 th K117 Q X σ v1 → RG σ → TY σ → Ext σi σ → kO σ th 6 → JJ p l e R s m args below meth c 2 D cA A n0 s0 QM σ 181 [(0, .ref th), (1, .int (i32 v1))] [] := by
  intro σ v1 g1 h hGσ hYσ hE hth H locs ls hH hl hc
  have B := K.1
  have hl9 := K.2.2.2.2.2.2
  unfold w_X6_matchText_181 at h
  refine lv_aload_n B.1 B.2.1 dX6_matchText_181 rfl (lv_at hl 0 rfl) ?_
  refine lv_bipush (v := i32 8) B.1 B.2.1 dX6_matchText_182 (by decide) ?_
  refine W.eq (g2 := F0 m 184 ls [.int (i32 8), .ref th]) (rfl) ?_
  refine c_V B hH hl hc K.2.2.1 (C := RX6) (T := TX6) (N := 9) (ci := 6) (As := [.int (i32 8)]) (ok_X6_refuse hl9 K.2.1 σ th 8 (by unfold rng; omega) hth hGσ hYσ h) wc_X6_81 1 hd_X6_refuse ⟨Nat.le_trans (Nat.le_of_ble_eq_true rfl) K.2.2.2.1, Nat.le_trans (Nat.le_of_ble_eq_true rfl) K.2.2.2.2.1⟩ hth.1 hth.2 (by decide) rfl rfl (rest := []) rfl (Nat.le_of_ble_eq_true rfl) dX6_matchText_184 (fun σ84 w hq => ?_) (fun σ9 E9 hx9 => hX σ9 E9 _ _ _ (tb_out K.2.2.2.2.2.1 rfl) hx9.1 hx9.2.1 hx9.2.2.1 (hE.trans hx9.2.2.2))
  obtain ⟨rfl, h, hGσ84, hYσ84, xσ84⟩ := hq
  have h := h xσ84
  intro H locs ls hH hl hc
  refine W.eq (g2 := F0 m 187 ls []) (rfl) ?_
  try dsimp only at h
  exact a_X6_matchText_187 K hQ hX hTh hK117 _ _ g1 h hGσ84 hYσ84 (hE.trans xσ84) (hth.up xσ84) _ _ _ hH (lv_sub (l' := [(0, .ref th), (1, .int (i32 v1))]) hl [0, 1] rfl) hc
set_option maxRecDepth 20000 in
theorem a_X6_matchText_170 {Q : Sg → Unit → Prop} {X : Sg → String → Prop} {th : Nat} (K : MD l R p s m args c cX6_matchText 2 RX6 D cA tys A n0 s0 161 11223 []) (hQ : CQV p l e R s m args below meth c cX6_matchText D cA A n0 s0 QM σi Q) (hX : CX p l e R s m args below meth c 2 D cA A n0 s0 QM σi X) (hTh : CT p l e R s m args below meth c cX6_matchText 2 D cA A n0 s0 QM σi RX6 X) {K117 : Sg → Int → Prop} (hK117 : ∀ (σ : Sg) (v1 : Int) (g1 : rng v1), K117 σ v1 → RG σ → TY σ → Ext σi σ → kO σ th 6 → JJ p l e R s m args below meth c 2 D cA A n0 s0 QM σ 117 [(0, .ref th), (1, .int (i32 v1))] []) : ∀ (σ : Sg) (v1 : Int) (g1 : rng v1), w_X6_matchText_170 th K117 Q X σ v1 → RG σ → TY σ → Ext σi σ → kO σ th 6 → JJ p l e R s m args below meth c 2 D cA A n0 s0 QM σ 170 [(0, .ref th), (1, .int (i32 v1))] [] := by
  intro σ v1 g1 h hGσ hYσ hE hth H locs ls hH hl hc
  have B := K.1
  have hl9 := K.2.2.2.2.2.2
  unfold w_X6_matchText_170 at h
  refine lv_aload_n B.1 B.2.1 dX6_matchText_170 rfl (lv_at hl 0 rfl) ?_
  refine f_getp B hH hth (by decide) rfl wu_X6 8 (by decide) wf_X6_88 rfl rfl dX6_matchText_171 ?_
  obtain ⟨a85, ea85, h⟩ := h
  have ka85 : kO σ a85 5 := (hYσ.get hth (by decide)) a85 ea85
  have h := h ka85
  refine W.eq (g2 := F0 m 174 ls [.ref a85]) (by rw [ea85]; rfl) ?_
  refine f_geti B hH ka85 (by decide) rfl wu_X5 4 (by decide) wf_X6_208 rfl rfl dX6_matchText_174 ?_
  refine lv_iconst (v := i32 4) B.1 B.2.1 dX6_matchText_177 (by decide) ?_
  refine lv_icmp_ne (tgt := 187) B.1 B.2.1 dX6_matchText_178 (by decide) (fun h9 => ?_) (fun h9 => ?_)
  · rw [if_pos (fun q => h9 ((i32_eq (hGσ _ _) (by unfold rng; omega)).mpr q))] at h
    exact a_X6_matchText_187 K hQ hX hTh hK117 _ _ g1 h hGσ hYσ hE hth _ _ _ hH (lv_sub (l' := [(0, .ref th), (1, .int (i32 v1))]) hl [0, 1] rfl) hc
  · rw [if_neg (fun q => q ((i32_eq (hGσ _ _) (by unfold rng; omega)).mp h9))] at h
    exact a_X6_matchText_181 K hQ hX hTh hK117 _ _ g1 h hGσ hYσ hE hth _ _ _ hH (lv_sub (l' := [(0, .ref th), (1, .int (i32 v1))]) hl [0, 1] rfl) hc
set_option maxRecDepth 20000 in
theorem a_X6_matchText_166 {Q : Sg → Unit → Prop} {X : Sg → String → Prop} {th : Nat} (K : MD l R p s m args c cX6_matchText 2 RX6 D cA tys A n0 s0 161 11223 []) (hQ : CQV p l e R s m args below meth c cX6_matchText D cA A n0 s0 QM σi Q) (hX : CX p l e R s m args below meth c 2 D cA A n0 s0 QM σi X) (hTh : CT p l e R s m args below meth c cX6_matchText 2 D cA A n0 s0 QM σi RX6 X) {K117 : Sg → Int → Prop} (hK117 : ∀ (σ : Sg) (v1 : Int) (g1 : rng v1), K117 σ v1 → RG σ → TY σ → Ext σi σ → kO σ th 6 → JJ p l e R s m args below meth c 2 D cA A n0 s0 QM σ 117 [(0, .ref th), (1, .int (i32 v1))] []) : ∀ (σ : Sg) (v1 : Int) (g1 : rng v1), w_X6_matchText_166 th K117 Q X σ v1 → RG σ → TY σ → Ext σi σ → kO σ th 6 → JJ p l e R s m args below meth c 2 D cA A n0 s0 QM σ 166 [(0, .ref th), (1, .int (i32 v1))] [] := by
  intro σ v1 g1 h hGσ hYσ hE hth H locs ls hH hl hc
  have B := K.1
  have hl9 := K.2.2.2.2.2.2
  unfold w_X6_matchText_166 at h
  refine lv_aload_n B.1 B.2.1 dX6_matchText_166 rfl (lv_at hl 0 rfl) ?_
  refine W.eq (g2 := F0 m 167 ls [.ref th]) (rfl) ?_
  refine c_V B hH hl hc K.2.2.1 (C := RX6) (T := TX6) (N := 9) (ci := 6) (As := []) (ok_X6_cannotStand hl9 K.2.1 σ th hth hGσ hYσ h) wc_X6_70 0 hd_X6_cannotStand ⟨Nat.le_trans (Nat.le_of_ble_eq_true rfl) K.2.2.2.1, Nat.le_trans (Nat.le_of_ble_eq_true rfl) K.2.2.2.2.1⟩ hth.1 hth.2 (by decide) rfl rfl (rest := []) rfl (Nat.le_of_ble_eq_true rfl) dX6_matchText_167 (fun σ86 w hq => ?_) (fun σ9 E9 hx9 => hX σ9 E9 _ _ _ (tb_out K.2.2.2.2.2.1 rfl) hx9.1 hx9.2.1 hx9.2.2.1 (hE.trans hx9.2.2.2))
  obtain ⟨rfl, h, hGσ86, hYσ86, xσ86⟩ := hq
  have h := h xσ86
  intro H locs ls hH hl hc
  refine W.eq (g2 := F0 m 170 ls []) (rfl) ?_
  try dsimp only at h
  exact a_X6_matchText_170 K hQ hX hTh hK117 _ _ g1 h hGσ86 hYσ86 (hE.trans xσ86) (hth.up xσ86) _ _ _ hH (lv_sub (l' := [(0, .ref th), (1, .int (i32 v1))]) hl [0, 1] rfl) hc
set_option maxRecDepth 20000 in
theorem a_X6_matchText_157 {Q : Sg → Unit → Prop} {X : Sg → String → Prop} {th : Nat} (K : MD l R p s m args c cX6_matchText 2 RX6 D cA tys A n0 s0 161 11223 []) (hQ : CQV p l e R s m args below meth c cX6_matchText D cA A n0 s0 QM σi Q) (hX : CX p l e R s m args below meth c 2 D cA A n0 s0 QM σi X) (hTh : CT p l e R s m args below meth c cX6_matchText 2 D cA A n0 s0 QM σi RX6 X) {K117 : Sg → Int → Prop} (hK117 : ∀ (σ : Sg) (v1 : Int) (g1 : rng v1), K117 σ v1 → RG σ → TY σ → Ext σi σ → kO σ th 6 → JJ p l e R s m args below meth c 2 D cA A n0 s0 QM σ 117 [(0, .ref th), (1, .int (i32 v1))] []) : ∀ (σ : Sg) (v1 : Int) (g1 : rng v1), w_X6_matchText_157 th K117 Q X σ v1 → RG σ → TY σ → Ext σi σ → kO σ th 6 → JJ p l e R s m args below meth c 2 D cA A n0 s0 QM σ 157 [(0, .ref th), (1, .int (i32 v1))] [] := by
  intro σ v1 g1 h hGσ hYσ hE hth H locs ls hH hl hc
  have B := K.1
  have hl9 := K.2.2.2.2.2.2
  unfold w_X6_matchText_157 at h
  refine lv_aload_n B.1 B.2.1 dX6_matchText_157 rfl (lv_at hl 0 rfl) ?_
  refine lv_bipush (v := i32 14) B.1 B.2.1 dX6_matchText_158 (by decide) ?_
  refine W.eq (g2 := F0 m 160 ls [.int (i32 14), .ref th]) (rfl) ?_
  refine c_V B hH hl hc K.2.2.1 (C := RX6) (T := TX6) (N := 9) (ci := 6) (As := [.int (i32 14)]) (ok_X6_isWord hl9 K.2.1 σ th 14 (by unfold rng; omega) hth hGσ hYσ h) wc_X6_66 1 hd_X6_isWord ⟨Nat.le_trans (Nat.le_of_ble_eq_true rfl) K.2.2.2.1, Nat.le_trans (Nat.le_of_ble_eq_true rfl) K.2.2.2.2.1⟩ hth.1 hth.2 (by decide) rfl rfl (rest := []) rfl (Nat.le_of_ble_eq_true rfl) dX6_matchText_160 (fun σ87 w hq => ?_) (fun σ9 E9 hx9 => hX σ9 E9 _ _ _ (tb_out K.2.2.2.2.2.1 rfl) hx9.1 hx9.2.1 hx9.2.2.1 (hE.trans hx9.2.2.2))
  obtain ⟨r88, rfl, ⟨gr88, gzr88⟩, h, hGσ87, hYσ87, xσ87⟩ := hq
  have h := h xσ87
  intro H locs ls hH hl hc
  refine W.eq (g2 := F0 m 163 ls [.int (i32 r88)]) (rfl) ?_
  try dsimp only at h
  refine lv_if_ne (tgt := 170) B.1 B.2.1 dX6_matchText_163 (by decide) (fun h9 => ?_) (fun h9 => ?_)
  · rw [if_pos (fun q => h9 ((z_eq gr88).mpr q))] at h
    exact a_X6_matchText_170 K hQ hX hTh hK117 _ _ g1 h hGσ87 hYσ87 (hE.trans xσ87) (hth.up xσ87) _ _ _ hH (lv_sub (l' := [(0, .ref th), (1, .int (i32 v1))]) hl [0, 1] rfl) hc
  · rw [if_neg (fun q => q ((z_eq gr88).mp h9))] at h
    exact a_X6_matchText_166 K hQ hX hTh hK117 _ _ g1 h hGσ87 hYσ87 (hE.trans xσ87) (hth.up xσ87) _ _ _ hH (lv_sub (l' := [(0, .ref th), (1, .int (i32 v1))]) hl [0, 1] rfl) hc
set_option maxRecDepth 20000 in
theorem a_X6_matchText_154 {Q : Sg → Unit → Prop} {X : Sg → String → Prop} {th : Nat} (K : MD l R p s m args c cX6_matchText 2 RX6 D cA tys A n0 s0 161 11223 []) (hQ : CQV p l e R s m args below meth c cX6_matchText D cA A n0 s0 QM σi Q) (hX : CX p l e R s m args below meth c 2 D cA A n0 s0 QM σi X) (hTh : CT p l e R s m args below meth c cX6_matchText 2 D cA A n0 s0 QM σi RX6 X) : ∀ (σ : Sg), w_X6_matchText_154 th Q X σ → RG σ → TY σ → Ext σi σ → kO σ th 6 → JJ p l e R s m args below meth c 2 D cA A n0 s0 QM σ 154 [(0, .ref th)] [] := by
  intro σ h hGσ hYσ hE hth H locs ls hH hl hc
  have B := K.1
  have hl9 := K.2.2.2.2.2.2
  unfold w_X6_matchText_154 at h
  refine lv_goto (tgt := 197) B.1 B.2.1 dX6_matchText_154 (by decide) ?_
  exact a_X6_matchText_197 K hQ hX hTh _ h hGσ hYσ hE hth _ _ _ hH (lv_sub (l' := [(0, .ref th)]) hl [0] rfl) hc
set_option maxRecDepth 20000 in
theorem a_X6_matchText_145 {Q : Sg → Unit → Prop} {X : Sg → String → Prop} {th : Nat} (K : MD l R p s m args c cX6_matchText 2 RX6 D cA tys A n0 s0 161 11223 []) (hQ : CQV p l e R s m args below meth c cX6_matchText D cA A n0 s0 QM σi Q) (hX : CX p l e R s m args below meth c 2 D cA A n0 s0 QM σi X) (hTh : CT p l e R s m args below meth c cX6_matchText 2 D cA A n0 s0 QM σi RX6 X) {K117 : Sg → Int → Prop} (hK117 : ∀ (σ : Sg) (v1 : Int) (g1 : rng v1), K117 σ v1 → RG σ → TY σ → Ext σi σ → kO σ th 6 → JJ p l e R s m args below meth c 2 D cA A n0 s0 QM σ 117 [(0, .ref th), (1, .int (i32 v1))] []) : ∀ (σ : Sg) (v1 : Int) (g1 : rng v1), w_X6_matchText_145 th K117 Q X σ v1 → RG σ → TY σ → Ext σi σ → kO σ th 6 → JJ p l e R s m args below meth c 2 D cA A n0 s0 QM σ 145 [(0, .ref th), (1, .int (i32 v1))] [] := by
  intro σ v1 g1 h hGσ hYσ hE hth H locs ls hH hl hc
  have B := K.1
  have hl9 := K.2.2.2.2.2.2
  unfold w_X6_matchText_145 at h
  refine lv_aload_n B.1 B.2.1 dX6_matchText_145 rfl (lv_at hl 0 rfl) ?_
  refine lv_bipush (v := i32 11) B.1 B.2.1 dX6_matchText_146 (by decide) ?_
  refine W.eq (g2 := F0 m 148 ls [.int (i32 11), .ref th]) (rfl) ?_
  refine c_V B hH hl hc K.2.2.1 (C := RX6) (T := TX6) (N := 9) (ci := 6) (As := [.int (i32 11)]) (ok_X6_isWord hl9 K.2.1 σ th 11 (by unfold rng; omega) hth hGσ hYσ h) wc_X6_66 1 hd_X6_isWord ⟨Nat.le_trans (Nat.le_of_ble_eq_true rfl) K.2.2.2.1, Nat.le_trans (Nat.le_of_ble_eq_true rfl) K.2.2.2.2.1⟩ hth.1 hth.2 (by decide) rfl rfl (rest := []) rfl (Nat.le_of_ble_eq_true rfl) dX6_matchText_148 (fun σ89 w hq => ?_) (fun σ9 E9 hx9 => hX σ9 E9 _ _ _ (tb_out K.2.2.2.2.2.1 rfl) hx9.1 hx9.2.1 hx9.2.2.1 (hE.trans hx9.2.2.2))
  obtain ⟨r90, rfl, ⟨gr90, gzr90⟩, h, hGσ89, hYσ89, xσ89⟩ := hq
  have h := h xσ89
  intro H locs ls hH hl hc
  refine W.eq (g2 := F0 m 151 ls [.int (i32 r90)]) (rfl) ?_
  try dsimp only at h
  refine lv_if_eq (tgt := 157) B.1 B.2.1 dX6_matchText_151 (by decide) (fun h9 => ?_) (fun h9 => ?_)
  · rw [if_pos ((z_eq gr90).mp h9)] at h
    exact a_X6_matchText_157 K hQ hX hTh hK117 _ _ g1 h hGσ89 hYσ89 (hE.trans xσ89) (hth.up xσ89) _ _ _ hH (lv_sub (l' := [(0, .ref th), (1, .int (i32 v1))]) hl [0, 1] rfl) hc
  · rw [if_neg (fun q => h9 ((z_eq gr90).mpr q))] at h
    exact a_X6_matchText_154 K hQ hX hTh _ h hGσ89 hYσ89 (hE.trans xσ89) (hth.up xσ89) _ _ _ hH (lv_sub (l' := [(0, .ref th)]) hl [0] rfl) hc
set_option maxRecDepth 20000 in
theorem a_X6_matchText_122 {Q : Sg → Unit → Prop} {X : Sg → String → Prop} {th : Nat} (K : MD l R p s m args c cX6_matchText 2 RX6 D cA tys A n0 s0 161 11223 []) (hQ : CQV p l e R s m args below meth c cX6_matchText D cA A n0 s0 QM σi Q) (hX : CX p l e R s m args below meth c 2 D cA A n0 s0 QM σi X) (hTh : CT p l e R s m args below meth c cX6_matchText 2 D cA A n0 s0 QM σi RX6 X) {K117 : Sg → Int → Prop} (hK117 : ∀ (σ : Sg) (v1 : Int) (g1 : rng v1), K117 σ v1 → RG σ → TY σ → Ext σi σ → kO σ th 6 → JJ p l e R s m args below meth c 2 D cA A n0 s0 QM σ 117 [(0, .ref th), (1, .int (i32 v1))] []) : ∀ (σ : Sg) (v1 : Int) (g1 : rng v1), w_X6_matchText_122 th K117 Q X σ v1 → RG σ → TY σ → Ext σi σ → kO σ th 6 → JJ p l e R s m args below meth c 2 D cA A n0 s0 QM σ 122 [(0, .ref th), (1, .int (i32 v1))] [] := by
  intro σ v1 g1 h hGσ hYσ hE hth H locs ls hH hl hc
  have B := K.1
  have hl9 := K.2.2.2.2.2.2
  unfold w_X6_matchText_122 at h
  refine lv_aload_n B.1 B.2.1 dX6_matchText_122 rfl (lv_at hl 0 rfl) ?_
  refine W.eq (g2 := F0 m 123 ls [.ref th]) (rfl) ?_
  refine c_V B hH hl hc K.2.2.1 (C := RX6) (T := TX6) (N := 9) (ci := 6) (As := []) (ok_X6_newValue hl9 K.2.1 σ th hth hGσ hYσ h) wc_X6_162 0 hd_X6_newValue ⟨Nat.le_trans (Nat.le_of_ble_eq_true rfl) K.2.2.2.1, Nat.le_trans (Nat.le_of_ble_eq_true rfl) K.2.2.2.2.1⟩ hth.1 hth.2 (by decide) rfl rfl (rest := []) rfl (Nat.le_of_ble_eq_true rfl) dX6_matchText_123 (fun σ91 w hq => ?_) (fun σ9 E9 hx9 => hX σ9 E9 _ _ _ (tb_out K.2.2.2.2.2.1 rfl) hx9.1 hx9.2.1 hx9.2.2.1 (hE.trans hx9.2.2.2))
  obtain ⟨rfl, h, hGσ91, hYσ91, xσ91⟩ := hq
  have h := h xσ91
  intro H locs ls hH hl hc
  refine W.eq (g2 := F0 m 126 ls []) (rfl) ?_
  try dsimp only at h
  refine lv_aload_n B.1 B.2.1 dX6_matchText_126 rfl (lv_at hl 0 rfl) ?_
  refine lv_iconst (v := i32 0) B.1 B.2.1 dX6_matchText_127 (by decide) ?_
  refine W.eq (g2 := F0 m 128 ls [.int (i32 0), .ref th]) (rfl) ?_
  refine c_V B hH hl hc K.2.2.1 (C := RX6) (T := TX6) (N := 9) (ci := 6) (As := [.int (i32 0)]) (ok_X6_value hl9 K.2.1 σ91 th 0 (by unfold rng; omega) (hth.up xσ91) hGσ91 hYσ91 h) wc_X6_165 1 hd_X6_value ⟨Nat.le_trans (Nat.le_of_ble_eq_true rfl) K.2.2.2.1, Nat.le_trans (Nat.le_of_ble_eq_true rfl) K.2.2.2.2.1⟩ (hth.up xσ91).1 (hth.up xσ91).2 (by decide) rfl rfl (rest := []) rfl (Nat.le_of_ble_eq_true rfl) dX6_matchText_128 (fun σ92 w hq => ?_) (fun σ9 E9 hx9 => hX σ9 E9 _ _ _ (tb_out K.2.2.2.2.2.1 rfl) hx9.1 hx9.2.1 hx9.2.2.1 ((hE.trans xσ91).trans hx9.2.2.2))
  obtain ⟨rfl, h, hGσ92, hYσ92, xσ92⟩ := hq
  have h := h xσ92
  intro H locs ls hH hl hc
  refine W.eq (g2 := F0 m 131 ls []) (rfl) ?_
  try dsimp only at h
  refine lv_aload_n B.1 B.2.1 dX6_matchText_131 rfl (lv_at hl 0 rfl) ?_
  refine f_getp B hH (hth.up (xσ91.trans xσ92)) (by decide) rfl wu_X6 7 (by decide) wf_X6_31 rfl rfl dX6_matchText_132 ?_
  refine lv_iconst (v := i32 0) B.1 B.2.1 dX6_matchText_135 (by decide) ?_
  refine lv_lconst (v := 0) B.1 B.2.1 dX6_matchText_136 (by decide) ?_
  obtain ⟨a95, ea95, h⟩ := h
  have ka95 : kO σ92 a95 4 := (hYσ92.get (hth.up (xσ91.trans xσ92)) (by decide)) a95 ea95
  have h := h ka95
  refine W.eq (g2 := F0 m 137 ls [.long 0, .int (i32 0), .ref a95]) (by rw [ea95]; rfl) ?_
  refine c_V B hH hl hc K.2.2.1 (C := RX4) (T := TX4) (N := 14) (ci := 4) (As := [.int (i32 0), .long 0]) (ok_X4_emit hl9 K.2.1 σ92 a95 0 0 (by unfold rng; omega) ka95 hGσ92 hYσ92 h) wc_X6_167 2 hd_X4_emit ⟨Nat.le_trans (Nat.le_of_ble_eq_true rfl) K.2.2.2.1, Nat.le_trans (Nat.le_of_ble_eq_true rfl) K.2.2.2.2.1⟩ ka95.1 ka95.2 (by decide) rfl rfl (rest := []) rfl (Nat.le_of_ble_eq_true rfl) dX6_matchText_137 (fun σ93 w hq => ?_) (fun σ9 E9 hx9 => hX σ9 E9 _ _ _ (tb_out K.2.2.2.2.2.1 rfl) hx9.1 hx9.2.1 hx9.2.2.1 (((hE.trans xσ91).trans xσ92).trans hx9.2.2.2))
  obtain ⟨r94, rfl, gr94, h, hGσ93, hYσ93, xσ93⟩ := hq
  have h := h xσ93
  intro H locs ls hH hl hc
  refine W.eq (g2 := F0 m 140 ls [.int (i32 r94)]) (rfl) ?_
  try dsimp only at h
  refine lv_pop B.1 B.2.1 dX6_matchText_140 rfl ?_
  refine lv_iload_n B.1 B.2.1 dX6_matchText_141 rfl (lv_at hl 1 rfl) ?_
  refine lv_if_le (tgt := 157) B.1 B.2.1 dX6_matchText_142 (by decide) (fun h9 => ?_) (fun h9 => ?_)
  · rw [if_pos ((z_le g1).mp h9)] at h
    exact a_X6_matchText_157 K hQ hX hTh hK117 _ _ g1 h hGσ93 hYσ93 (((hE.trans xσ91).trans xσ92).trans xσ93) (hth.up (xσ91.trans (xσ92.trans xσ93))) _ _ _ hH (lv_sub (l' := [(0, .ref th), (1, .int (i32 v1))]) hl [0, 1] rfl) hc
  · rw [if_neg (fun q => h9 ((z_le g1).mpr q))] at h
    exact a_X6_matchText_145 K hQ hX hTh hK117 _ _ g1 h hGσ93 hYσ93 (((hE.trans xσ91).trans xσ92).trans xσ93) (hth.up (xσ91.trans (xσ92.trans xσ93))) _ _ _ hH (lv_sub (l' := [(0, .ref th), (1, .int (i32 v1))]) hl [0, 1] rfl) hc
set_option maxRecDepth 20000 in
theorem a_X6_matchText_117 {Q : Sg → Unit → Prop} {X : Sg → String → Prop} {th : Nat} (K : MD l R p s m args c cX6_matchText 2 RX6 D cA tys A n0 s0 161 11223 []) (hQ : CQV p l e R s m args below meth c cX6_matchText D cA A n0 s0 QM σi Q) (hX : CX p l e R s m args below meth c 2 D cA A n0 s0 QM σi X) (hTh : CT p l e R s m args below meth c cX6_matchText 2 D cA A n0 s0 QM σi RX6 X) {K117 : Sg → Int → Prop} (hK117 : ∀ (σ : Sg) (v1 : Int) (g1 : rng v1), K117 σ v1 → RG σ → TY σ → Ext σi σ → kO σ th 6 → JJ p l e R s m args below meth c 2 D cA A n0 s0 QM σ 117 [(0, .ref th), (1, .int (i32 v1))] []) : ∀ (σ : Sg) (v1 : Int) (g1 : rng v1), w_X6_matchText_117 th K117 Q X σ v1 → RG σ → TY σ → Ext σi σ → kO σ th 6 → JJ p l e R s m args below meth c 2 D cA A n0 s0 QM σ 117 [(0, .ref th), (1, .int (i32 v1))] [] := by
  intro σ v1 g1 h hGσ hYσ hE hth H locs ls hH hl hc
  have B := K.1
  have hl9 := K.2.2.2.2.2.2
  unfold w_X6_matchText_117 at h
  refine lv_iload_n B.1 B.2.1 dX6_matchText_117 rfl (lv_at hl 1 rfl) ?_
  refine lv_iconst (v := i32 4) B.1 B.2.1 dX6_matchText_118 (by decide) ?_
  refine lv_icmp_ge (tgt := 197) B.1 B.2.1 dX6_matchText_119 (by decide) (fun h9 => ?_) (fun h9 => ?_)
  · rw [if_pos ((i32_le (by unfold rng; omega) g1).mp h9)] at h
    exact a_X6_matchText_197 K hQ hX hTh _ h hGσ hYσ hE hth _ _ _ hH (lv_sub (l' := [(0, .ref th)]) hl [0] rfl) hc
  · rw [if_neg (fun q => h9 ((i32_le (by unfold rng; omega) g1).mpr q))] at h
    exact a_X6_matchText_122 K hQ hX hTh hK117 _ _ g1 h hGσ hYσ hE hth _ _ _ hH (lv_sub (l' := [(0, .ref th), (1, .int (i32 v1))]) hl [0, 1] rfl) hc
theorem al_X6_matchText_117 {Q : Sg → Unit → Prop} {X : Sg → String → Prop} {th : Nat} (K : MD l R p s m args c cX6_matchText 2 RX6 D cA tys A n0 s0 161 11223 []) (hQ : CQV p l e R s m args below meth c cX6_matchText D cA A n0 s0 QM σi Q) (hX : CX p l e R s m args below meth c 2 D cA A n0 s0 QM σi X) (hTh : CT p l e R s m args below meth c cX6_matchText 2 D cA A n0 s0 QM σi RX6 X) : ∀ (n : Nat), ∀ (σ : Sg) (v1 : Int) (g1 : rng v1), wl_X6_matchText_117 th Q X n σ v1 → RG σ → TY σ → Ext σi σ → kO σ th 6 → JJ p l e R s m args below meth c 2 D cA A n0 s0 QM σ 117 [(0, .ref th), (1, .int (i32 v1))] [] := by
  intro n
  induction n with
  | zero => intro σ v1 g1 h; exact h.elim
  | succ n ih => exact fun σ v1 g1 h => a_X6_matchText_117 K hQ hX hTh ih σ v1 g1 h
set_option maxRecDepth 20000 in
theorem a_X6_matchText_74 {Q : Sg → Unit → Prop} {X : Sg → String → Prop} {th : Nat} (K : MD l R p s m args c cX6_matchText 2 RX6 D cA tys A n0 s0 161 11223 []) (hQ : CQV p l e R s m args below meth c cX6_matchText D cA A n0 s0 QM σi Q) (hX : CX p l e R s m args below meth c 2 D cA A n0 s0 QM σi X) (hTh : CT p l e R s m args below meth c cX6_matchText 2 D cA A n0 s0 QM σi RX6 X) : ∀ (σ : Sg), w_X6_matchText_74 th Q X σ → RG σ → TY σ → Ext σi σ → kO σ th 6 → JJ p l e R s m args below meth c 2 D cA A n0 s0 QM σ 74 [(0, .ref th)] [] := by
  intro σ h hGσ hYσ hE hth H locs ls hH hl hc
  have B := K.1
  have hl9 := K.2.2.2.2.2.2
  unfold w_X6_matchText_74 at h
  refine lv_aload_n B.1 B.2.1 dX6_matchText_74 rfl (lv_at hl 0 rfl) ?_
  refine f_getp B hH hth (by decide) rfl wu_X6 8 (by decide) wf_X6_88 rfl rfl dX6_matchText_75 ?_
  refine lv_aload_n B.1 B.2.1 dX6_matchText_78 rfl (lv_at hl 0 rfl) ?_
  refine f_getl B hH hth (by decide) rfl wu_X6 4 (by decide) wf_X6_73 rfl rfl dX6_matchText_79 ?_
  obtain ⟨a97, ea97, h⟩ := h
  have ka97 : kO σ a97 5 := (hYσ.get hth (by decide)) a97 ea97
  have h := h ka97
  refine W.eq (g2 := F0 m 82 ls [.long (gJ σ th 4), .ref a97]) (by rw [ea97]; rfl) ?_
  refine c_V B hH hl hc K.2.2.1 (C := RX5) (T := TX5) (N := 17) (ci := 5) (As := [.long (gJ σ th 4)]) (ok_X5_addColumn hl9 K.2.1 σ a97 (gJ σ th 4) ka97 hGσ hYσ h) wc_X6_192 1 hd_X5_addColumn ⟨Nat.le_trans (Nat.le_of_ble_eq_true rfl) K.2.2.2.1, Nat.le_trans (Nat.le_of_ble_eq_true rfl) K.2.2.2.2.1⟩ ka97.1 ka97.2 (by decide) rfl rfl (rest := []) rfl (Nat.le_of_ble_eq_true rfl) dX6_matchText_82 (fun σ96 w hq => ?_) (fun σ9 E9 hx9 => hX σ9 E9 _ _ _ (tb_out K.2.2.2.2.2.1 rfl) hx9.1 hx9.2.1 hx9.2.2.1 (hE.trans hx9.2.2.2))
  obtain ⟨rfl, h, hGσ96, hYσ96, xσ96⟩ := hq
  have h := h xσ96
  intro H locs ls hH hl hc
  refine W.eq (g2 := F0 m 85 ls []) (rfl) ?_
  try dsimp only at h
  refine lv_aload_n B.1 B.2.1 dX6_matchText_85 rfl (lv_at hl 0 rfl) ?_
  refine f_getp B hH (hth.up xσ96) (by decide) rfl wu_X6 8 (by decide) wf_X6_88 rfl rfl dX6_matchText_86 ?_
  refine lv_ldc2 B.1 B.2.1 B.2.2.1 (B.2.2.2.1 _ (wk_X6_229)) dX6_matchText_89 ?_
  obtain ⟨a99, ea99, h⟩ := h
  have ka99 : kO σ96 a99 5 := (hYσ96.get (hth.up xσ96) (by decide)) a99 ea99
  have h := h ka99
  refine W.eq (g2 := F0 m 92 ls [.long 1718775661, .ref a99]) (by rw [ea99]; rfl) ?_
  refine c_V B hH hl hc K.2.2.1 (C := RX5) (T := TX5) (N := 17) (ci := 5) (As := [.long 1718775661]) (ok_X5_addColumn hl9 K.2.1 σ96 a99 1718775661 ka99 hGσ96 hYσ96 h) wc_X6_192 1 hd_X5_addColumn ⟨Nat.le_trans (Nat.le_of_ble_eq_true rfl) K.2.2.2.1, Nat.le_trans (Nat.le_of_ble_eq_true rfl) K.2.2.2.2.1⟩ ka99.1 ka99.2 (by decide) rfl rfl (rest := []) rfl (Nat.le_of_ble_eq_true rfl) dX6_matchText_92 (fun σ98 w hq => ?_) (fun σ9 E9 hx9 => hX σ9 E9 _ _ _ (tb_out K.2.2.2.2.2.1 rfl) hx9.1 hx9.2.1 hx9.2.2.1 ((hE.trans xσ96).trans hx9.2.2.2))
  obtain ⟨rfl, h, hGσ98, hYσ98, xσ98⟩ := hq
  have h := h xσ98
  intro H locs ls hH hl hc
  refine W.eq (g2 := F0 m 95 ls []) (rfl) ?_
  try dsimp only at h
  refine lv_aload_n B.1 B.2.1 dX6_matchText_95 rfl (lv_at hl 0 rfl) ?_
  refine f_getp B hH (hth.up (xσ96.trans xσ98)) (by decide) rfl wu_X6 8 (by decide) wf_X6_88 rfl rfl dX6_matchText_96 ?_
  refine lv_ldc2 B.1 B.2.1 B.2.2.1 (B.2.2.2.1 _ (wk_X6_231)) dX6_matchText_99 ?_
  obtain ⟨a101, ea101, h⟩ := h
  have ka101 : kO σ98 a101 5 := (hYσ98.get (hth.up (xσ96.trans xσ98)) (by decide)) a101 ea101
  have h := h ka101
  refine W.eq (g2 := F0 m 102 ls [.long 29807, .ref a101]) (by rw [ea101]; rfl) ?_
  refine c_V B hH hl hc K.2.2.1 (C := RX5) (T := TX5) (N := 17) (ci := 5) (As := [.long 29807]) (ok_X5_addColumn hl9 K.2.1 σ98 a101 29807 ka101 hGσ98 hYσ98 h) wc_X6_192 1 hd_X5_addColumn ⟨Nat.le_trans (Nat.le_of_ble_eq_true rfl) K.2.2.2.1, Nat.le_trans (Nat.le_of_ble_eq_true rfl) K.2.2.2.2.1⟩ ka101.1 ka101.2 (by decide) rfl rfl (rest := []) rfl (Nat.le_of_ble_eq_true rfl) dX6_matchText_102 (fun σ100 w hq => ?_) (fun σ9 E9 hx9 => hX σ9 E9 _ _ _ (tb_out K.2.2.2.2.2.1 rfl) hx9.1 hx9.2.1 hx9.2.2.1 (((hE.trans xσ96).trans xσ98).trans hx9.2.2.2))
  obtain ⟨rfl, h, hGσ100, hYσ100, xσ100⟩ := hq
  have h := h xσ100
  intro H locs ls hH hl hc
  refine W.eq (g2 := F0 m 105 ls []) (rfl) ?_
  try dsimp only at h
  refine lv_aload_n B.1 B.2.1 dX6_matchText_105 rfl (lv_at hl 0 rfl) ?_
  refine W.eq (g2 := F0 m 106 ls [.ref th]) (rfl) ?_
  refine c_V B hH hl hc K.2.2.1 (C := RX6) (T := TX6) (N := 9) (ci := 6) (As := []) (ok_X6_next hl9 K.2.1 σ100 th (hth.up (xσ96.trans (xσ98.trans xσ100))) hGσ100 hYσ100 h) wc_X6_40 0 hd_X6_next ⟨Nat.le_trans (Nat.le_of_ble_eq_true rfl) K.2.2.2.1, Nat.le_trans (Nat.le_of_ble_eq_true rfl) K.2.2.2.2.1⟩ (hth.up (xσ96.trans (xσ98.trans xσ100))).1 (hth.up (xσ96.trans (xσ98.trans xσ100))).2 (by decide) rfl rfl (rest := []) rfl (Nat.le_of_ble_eq_true rfl) dX6_matchText_106 (fun σ102 w hq => ?_) (fun σ9 E9 hx9 => hX σ9 E9 _ _ _ (tb_out K.2.2.2.2.2.1 rfl) hx9.1 hx9.2.1 hx9.2.2.1 ((((hE.trans xσ96).trans xσ98).trans xσ100).trans hx9.2.2.2))
  obtain ⟨rfl, h, hGσ102, hYσ102, xσ102⟩ := hq
  have h := h xσ102
  intro H locs ls hH hl hc
  refine W.eq (g2 := F0 m 109 ls []) (rfl) ?_
  try dsimp only at h
  refine lv_aload_n B.1 B.2.1 dX6_matchText_109 rfl (lv_at hl 0 rfl) ?_
  refine lv_bipush (v := i32 58) B.1 B.2.1 dX6_matchText_110 (by decide) ?_
  refine W.eq (g2 := F0 m 112 ls [.int (i32 58), .ref th]) (rfl) ?_
  refine c_V B hH hl hc K.2.2.1 (C := RX6) (T := TX6) (N := 9) (ci := 6) (As := [.int (i32 58)]) (ok_X6_wantSign hl9 K.2.1 σ102 th 58 (by unfold rng; omega) (hth.up (xσ96.trans (xσ98.trans (xσ100.trans xσ102)))) hGσ102 hYσ102 h) wc_X6_57 1 hd_X6_wantSign ⟨Nat.le_trans (Nat.le_of_ble_eq_true rfl) K.2.2.2.1, Nat.le_trans (Nat.le_of_ble_eq_true rfl) K.2.2.2.2.1⟩ (hth.up (xσ96.trans (xσ98.trans (xσ100.trans xσ102)))).1 (hth.up (xσ96.trans (xσ98.trans (xσ100.trans xσ102)))).2 (by decide) rfl rfl (rest := []) rfl (Nat.le_of_ble_eq_true rfl) dX6_matchText_112 (fun σ103 w hq => ?_) (fun σ9 E9 hx9 => hX σ9 E9 _ _ _ (tb_out K.2.2.2.2.2.1 rfl) hx9.1 hx9.2.1 hx9.2.2.1 (((((hE.trans xσ96).trans xσ98).trans xσ100).trans xσ102).trans hx9.2.2.2))
  obtain ⟨rfl, h, hGσ103, hYσ103, xσ103⟩ := hq
  have h := h xσ103
  intro H locs ls hH hl hc
  refine W.eq (g2 := F0 m 115 ls []) (rfl) ?_
  try dsimp only at h
  refine lv_iconst (v := i32 0) B.1 B.2.1 dX6_matchText_115 (by decide) ?_
  refine lv_istore_n (lv' := [(1, .int (i32 0)), (0, .ref th)]) B.1 B.2.1 dX6_matchText_116 rfl hl (by decide) rfl (fun ls hl => ?_)
  obtain ⟨n9, h⟩ := h
  exact al_X6_matchText_117 K hQ hX hTh n9 _ _ (by unfold rng; omega) h hGσ103 hYσ103 (((((hE.trans xσ96).trans xσ98).trans xσ100).trans xσ102).trans xσ103) (hth.up (xσ96.trans (xσ98.trans (xσ100.trans (xσ102.trans xσ103))))) _ _ _ hH (lv_sub (l' := [(0, .ref th), (1, .int (i32 0))]) hl [1, 0] rfl) hc
set_option maxRecDepth 20000 in
theorem a_X6_matchText_68 {Q : Sg → Unit → Prop} {X : Sg → String → Prop} {th : Nat} (K : MD l R p s m args c cX6_matchText 2 RX6 D cA tys A n0 s0 161 11223 []) (hQ : CQV p l e R s m args below meth c cX6_matchText D cA A n0 s0 QM σi Q) (hX : CX p l e R s m args below meth c 2 D cA A n0 s0 QM σi X) (hTh : CT p l e R s m args below meth c cX6_matchText 2 D cA A n0 s0 QM σi RX6 X) : ∀ (σ : Sg), w_X6_matchText_68 th Q X σ → RG σ → TY σ → Ext σi σ → kO σ th 6 → JJ p l e R s m args below meth c 2 D cA A n0 s0 QM σ 68 [(0, .ref th)] [] := by
  intro σ h hGσ hYσ hE hth H locs ls hH hl hc
  have B := K.1
  have hl9 := K.2.2.2.2.2.2
  unfold w_X6_matchText_68 at h
  refine lv_aload_n B.1 B.2.1 dX6_matchText_68 rfl (lv_at hl 0 rfl) ?_
  refine lv_bipush (v := i32 6) B.1 B.2.1 dX6_matchText_69 (by decide) ?_
  refine W.eq (g2 := F0 m 71 ls [.int (i32 6), .ref th]) (rfl) ?_
  refine c_V B hH hl hc K.2.2.1 (C := RX6) (T := TX6) (N := 9) (ci := 6) (As := [.int (i32 6)]) (ok_X6_refuse hl9 K.2.1 σ th 6 (by unfold rng; omega) hth hGσ hYσ h) wc_X6_81 1 hd_X6_refuse ⟨Nat.le_trans (Nat.le_of_ble_eq_true rfl) K.2.2.2.1, Nat.le_trans (Nat.le_of_ble_eq_true rfl) K.2.2.2.2.1⟩ hth.1 hth.2 (by decide) rfl rfl (rest := []) rfl (Nat.le_of_ble_eq_true rfl) dX6_matchText_71 (fun σ104 w hq => ?_) (fun σ9 E9 hx9 => hX σ9 E9 _ _ _ (tb_out K.2.2.2.2.2.1 rfl) hx9.1 hx9.2.1 hx9.2.2.1 (hE.trans hx9.2.2.2))
  obtain ⟨rfl, h, hGσ104, hYσ104, xσ104⟩ := hq
  have h := h xσ104
  intro H locs ls hH hl hc
  refine W.eq (g2 := F0 m 74 ls []) (rfl) ?_
  try dsimp only at h
  exact a_X6_matchText_74 K hQ hX hTh _ h hGσ104 hYσ104 (hE.trans xσ104) (hth.up xσ104) _ _ _ hH (lv_sub (l' := [(0, .ref th)]) hl [0] rfl) hc
set_option maxRecDepth 20000 in
theorem a_X6_matchText_57 {Q : Sg → Unit → Prop} {X : Sg → String → Prop} {th : Nat} (K : MD l R p s m args c cX6_matchText 2 RX6 D cA tys A n0 s0 161 11223 []) (hQ : CQV p l e R s m args below meth c cX6_matchText D cA A n0 s0 QM σi Q) (hX : CX p l e R s m args below meth c 2 D cA A n0 s0 QM σi X) (hTh : CT p l e R s m args below meth c cX6_matchText 2 D cA A n0 s0 QM σi RX6 X) : ∀ (σ : Sg), w_X6_matchText_57 th Q X σ → RG σ → TY σ → Ext σi σ → kO σ th 6 → JJ p l e R s m args below meth c 2 D cA A n0 s0 QM σ 57 [(0, .ref th)] [] := by
  intro σ h hGσ hYσ hE hth H locs ls hH hl hc
  have B := K.1
  have hl9 := K.2.2.2.2.2.2
  unfold w_X6_matchText_57 at h
  refine lv_aload_n B.1 B.2.1 dX6_matchText_57 rfl (lv_at hl 0 rfl) ?_
  refine f_getl B hH hth (by decide) rfl wu_X6 4 (by decide) wf_X6_73 rfl rfl dX6_matchText_58 ?_
  refine lv_ldc2 B.1 B.2.1 B.2.2.1 (B.2.2.2.1 _ (wk_X6_231)) dX6_matchText_61 ?_
  refine W.lcmp B.1 B.2.1 dX6_matchText_64 ?_
  refine lv_if_ne (tgt := 74) B.1 B.2.1 dX6_matchText_65 (by decide) (fun h9 => ?_) (fun h9 => ?_)
  · rw [if_pos (fun q => h9 ((lg_cmp_eq _ _).mpr q))] at h
    exact a_X6_matchText_74 K hQ hX hTh _ h hGσ hYσ hE hth _ _ _ hH (lv_sub (l' := [(0, .ref th)]) hl [0] rfl) hc
  · rw [if_neg (fun q => q ((lg_cmp_eq _ _).mp h9))] at h
    exact a_X6_matchText_68 K hQ hX hTh _ h hGσ hYσ hE hth _ _ _ hH (lv_sub (l' := [(0, .ref th)]) hl [0] rfl) hc
set_option maxRecDepth 20000 in
theorem a_X6_matchText_0 {Q : Sg → Unit → Prop} {X : Sg → String → Prop} {th : Nat} (K : MD l R p s m args c cX6_matchText 2 RX6 D cA tys A n0 s0 161 11223 []) (hQ : CQV p l e R s m args below meth c cX6_matchText D cA A n0 s0 QM σi Q) (hX : CX p l e R s m args below meth c 2 D cA A n0 s0 QM σi X) (hTh : CT p l e R s m args below meth c cX6_matchText 2 D cA A n0 s0 QM σi RX6 X) : ∀ (σ : Sg), w_X6_matchText_0 th Q X σ → RG σ → TY σ → Ext σi σ → kO σ th 6 → JJ p l e R s m args below meth c 2 D cA A n0 s0 QM σ 0 [(0, .ref th)] [] := by
  intro σ h hGσ hYσ hE hth H locs ls hH hl hc
  have B := K.1
  have hl9 := K.2.2.2.2.2.2
  unfold w_X6_matchText_0 at h
  refine lv_aload_n B.1 B.2.1 dX6_matchText_0 rfl (lv_at hl 0 rfl) ?_
  refine W.eq (g2 := F0 m 1 ls [.ref th]) (rfl) ?_
  refine c_V B hH hl hc K.2.2.1 (C := RX6) (T := TX6) (N := 9) (ci := 6) (As := []) (ok_X6_next hl9 K.2.1 σ th hth hGσ hYσ h) wc_X6_40 0 hd_X6_next ⟨Nat.le_trans (Nat.le_of_ble_eq_true rfl) K.2.2.2.1, Nat.le_trans (Nat.le_of_ble_eq_true rfl) K.2.2.2.2.1⟩ hth.1 hth.2 (by decide) rfl rfl (rest := []) rfl (Nat.le_of_ble_eq_true rfl) dX6_matchText_1 (fun σ105 w hq => ?_) (fun σ9 E9 hx9 => hX σ9 E9 _ _ _ (tb_out K.2.2.2.2.2.1 rfl) hx9.1 hx9.2.1 hx9.2.2.1 (hE.trans hx9.2.2.2))
  obtain ⟨rfl, h, hGσ105, hYσ105, xσ105⟩ := hq
  have h := h xσ105
  intro H locs ls hH hl hc
  refine W.eq (g2 := F0 m 4 ls []) (rfl) ?_
  try dsimp only at h
  refine lv_aload_n B.1 B.2.1 dX6_matchText_4 rfl (lv_at hl 0 rfl) ?_
  refine lv_bipush (v := i32 8) B.1 B.2.1 dX6_matchText_5 (by decide) ?_
  refine W.eq (g2 := F0 m 7 ls [.int (i32 8), .ref th]) (rfl) ?_
  refine c_V B hH hl hc K.2.2.1 (C := RX6) (T := TX6) (N := 9) (ci := 6) (As := [.int (i32 8)]) (ok_X6_firstInput hl9 K.2.1 σ105 th 8 (by unfold rng; omega) (hth.up xσ105) hGσ105 hYσ105 h) wc_X6_152 1 hd_X6_firstInput ⟨Nat.le_trans (Nat.le_of_ble_eq_true rfl) K.2.2.2.1, Nat.le_trans (Nat.le_of_ble_eq_true rfl) K.2.2.2.2.1⟩ (hth.up xσ105).1 (hth.up xσ105).2 (by decide) rfl rfl (rest := []) rfl (Nat.le_of_ble_eq_true rfl) dX6_matchText_7 (fun σ106 w hq => ?_) (fun σ9 E9 hx9 => hX σ9 E9 _ _ _ (tb_out K.2.2.2.2.2.1 rfl) hx9.1 hx9.2.1 hx9.2.2.1 ((hE.trans xσ105).trans hx9.2.2.2))
  obtain ⟨rfl, h, hGσ106, hYσ106, xσ106⟩ := hq
  have h := h xσ106
  intro H locs ls hH hl hc
  refine W.eq (g2 := F0 m 10 ls []) (rfl) ?_
  try dsimp only at h
  refine lv_aload_n B.1 B.2.1 dX6_matchText_10 rfl (lv_at hl 0 rfl) ?_
  refine W.eq (g2 := F0 m 11 ls [.ref th]) (rfl) ?_
  refine c_V B hH hl hc K.2.2.1 (C := RX6) (T := TX6) (N := 9) (ci := 6) (As := []) (ok_X6_next hl9 K.2.1 σ106 th (hth.up (xσ105.trans xσ106)) hGσ106 hYσ106 h) wc_X6_40 0 hd_X6_next ⟨Nat.le_trans (Nat.le_of_ble_eq_true rfl) K.2.2.2.1, Nat.le_trans (Nat.le_of_ble_eq_true rfl) K.2.2.2.2.1⟩ (hth.up (xσ105.trans xσ106)).1 (hth.up (xσ105.trans xσ106)).2 (by decide) rfl rfl (rest := []) rfl (Nat.le_of_ble_eq_true rfl) dX6_matchText_11 (fun σ107 w hq => ?_) (fun σ9 E9 hx9 => hX σ9 E9 _ _ _ (tb_out K.2.2.2.2.2.1 rfl) hx9.1 hx9.2.1 hx9.2.2.1 (((hE.trans xσ105).trans xσ106).trans hx9.2.2.2))
  obtain ⟨rfl, h, hGσ107, hYσ107, xσ107⟩ := hq
  have h := h xσ107
  intro H locs ls hH hl hc
  refine W.eq (g2 := F0 m 14 ls []) (rfl) ?_
  try dsimp only at h
  refine lv_aload_n B.1 B.2.1 dX6_matchText_14 rfl (lv_at hl 0 rfl) ?_
  refine lv_bipush (v := i32 6) B.1 B.2.1 dX6_matchText_15 (by decide) ?_
  refine W.eq (g2 := F0 m 17 ls [.int (i32 6), .ref th]) (rfl) ?_
  refine c_V B hH hl hc K.2.2.1 (C := RX6) (T := TX6) (N := 9) (ci := 6) (As := [.int (i32 6)]) (ok_X6_wantWord hl9 K.2.1 σ107 th 6 (by unfold rng; omega) (hth.up (xσ105.trans (xσ106.trans xσ107))) hGσ107 hYσ107 h) wc_X6_146 1 hd_X6_wantWord ⟨Nat.le_trans (Nat.le_of_ble_eq_true rfl) K.2.2.2.1, Nat.le_trans (Nat.le_of_ble_eq_true rfl) K.2.2.2.2.1⟩ (hth.up (xσ105.trans (xσ106.trans xσ107))).1 (hth.up (xσ105.trans (xσ106.trans xσ107))).2 (by decide) rfl rfl (rest := []) rfl (Nat.le_of_ble_eq_true rfl) dX6_matchText_17 (fun σ108 w hq => ?_) (fun σ9 E9 hx9 => hX σ9 E9 _ _ _ (tb_out K.2.2.2.2.2.1 rfl) hx9.1 hx9.2.1 hx9.2.2.1 ((((hE.trans xσ105).trans xσ106).trans xσ107).trans hx9.2.2.2))
  obtain ⟨rfl, h, hGσ108, hYσ108, xσ108⟩ := hq
  have h := h xσ108
  intro H locs ls hH hl hc
  refine W.eq (g2 := F0 m 20 ls []) (rfl) ?_
  try dsimp only at h
  refine lv_aload_n B.1 B.2.1 dX6_matchText_20 rfl (lv_at hl 0 rfl) ?_
  refine f_getp B hH (hth.up (xσ105.trans (xσ106.trans (xσ107.trans xσ108)))) (by decide) rfl wu_X6 8 (by decide) wf_X6_88 rfl rfl dX6_matchText_21 ?_
  refine lv_aload_n B.1 B.2.1 dX6_matchText_24 rfl (lv_at hl 0 rfl) ?_
  refine lv_aload_n B.1 B.2.1 dX6_matchText_25 rfl (lv_at hl 0 rfl) ?_
  refine f_getp B hH (hth.up (xσ105.trans (xσ106.trans (xσ107.trans xσ108)))) (by decide) rfl wu_X6 7 (by decide) wf_X6_31 rfl rfl dX6_matchText_26 ?_
  obtain ⟨a109, ea109, h⟩ := h
  have ka109 : kO σ108 a109 4 := (hYσ108.get (hth.up (xσ105.trans (xσ106.trans (xσ107.trans xσ108)))) (by decide)) a109 ea109
  have h := h ka109
  refine W.eq (g2 := F0 m 29 ls [.ref a109, .ref th, va_rf (gP σ108 th 8)]) (by rw [ea109]; rfl) ?_
  refine f_getp B hH ka109 (by decide) rfl wu_X4 0 (by decide) wf_X6_84 rfl rfl dX6_matchText_29 ?_
  refine lv_aload_n B.1 B.2.1 dX6_matchText_32 rfl (lv_at hl 0 rfl) ?_
  refine f_getp B hH (hth.up (xσ105.trans (xσ106.trans (xσ107.trans xσ108)))) (by decide) rfl wu_X6 8 (by decide) wf_X6_88 rfl rfl dX6_matchText_33 ?_
  obtain ⟨a110, ea110, h⟩ := h
  have ka110 : kO σ108 a110 5 := (hYσ108.get (hth.up (xσ105.trans (xσ106.trans (xσ107.trans xσ108)))) (by decide)) a110 ea110
  have h := h ka110
  refine W.eq (g2 := F0 m 36 ls [.ref a110, va_rf (gP σ108 a109 0), .ref th, va_rf (gP σ108 th 8)]) (by rw [ea110]; rfl) ?_
  refine f_geti B hH ka110 (by decide) rfl wu_X5 7 (by decide) wf_X6_155 rfl rfl dX6_matchText_36 ?_
  obtain ⟨a111, ea111, h⟩ := h
  have ka111 : kO σ108 a111 115 := (hYσ108.get ka109 (by decide)) a111 ea111
  have h := h ka111
  obtain ⟨q1, h⟩ := h
  refine W.eq (g2 := F0 m 39 ls [.int (i32 (gI σ108 a110 7)), .ref a111, .ref th, va_rf (gP σ108 th 8)]) (by rw [ea111]; rfl) ?_
  refine y_aald B hH (t0 := 6) ka111 (by decide) K.2.1.2.2.2.1 q1 (hYσ108.2 _) dX6_matchText_39 ?_
  refine W.eq (g2 := F0 m 40 ls [va_rf (gP σ108 a111 (gI σ108 a110 7).toNat), .ref th, va_rf (gP σ108 th 8)]) (rfl) ?_
  refine c_V B hH hl hc K.2.2.1 (C := RX6) (T := TX6) (N := 9) (ci := 6) (As := [va_rf (gP σ108 a111 (gI σ108 a110 7).toNat)]) (ok_X6_column hl9 K.2.1 σ108 th (gP σ108 a111 (gI σ108 a110 7).toNat) (hYσ108.get ka111 rfl) (hth.up (xσ105.trans (xσ106.trans (xσ107.trans xσ108)))) hGσ108 hYσ108 h) wc_X6_185 1 hd_X6_column ⟨Nat.le_trans (Nat.le_of_ble_eq_true rfl) K.2.2.2.1, Nat.le_trans (Nat.le_of_ble_eq_true rfl) K.2.2.2.2.1⟩ (hth.up (xσ105.trans (xσ106.trans (xσ107.trans xσ108)))).1 (hth.up (xσ105.trans (xσ106.trans (xσ107.trans xσ108)))).2 (by decide) rfl rfl (rest := [va_rf (gP σ108 th 8)]) rfl (by simp only [List.map_cons, List.map_nil, rf_cat]; exact Nat.le_of_ble_eq_true rfl) dX6_matchText_40 (fun σ112 w hq => ?_) (fun σ9 E9 hx9 => hX σ9 E9 _ _ _ (tb_out K.2.2.2.2.2.1 rfl) hx9.1 hx9.2.1 hx9.2.2.1 (((((hE.trans xσ105).trans xσ106).trans xσ107).trans xσ108).trans hx9.2.2.2))
  obtain ⟨r113, rfl, gr113, h, hGσ112, hYσ112, xσ112⟩ := hq
  have h := h xσ112
  intro H locs ls hH hl hc
  refine W.eq (g2 := F0 m 43 ls [.int (i32 r113), va_rf (gP σ108 th 8)]) (rfl) ?_
  try dsimp only at h
  obtain ⟨σ114, eσ114⟩ : ∃ z, z = pI σ112 a110 13 r113 := ⟨_, rfl⟩
  have h := h σ114 eσ114
  refine W.eq (g2 := F0 m 43 ls [.int (i32 r113), .ref a110]) (by rw [ea110]; rfl) ?_
  refine f_puti B hH (ka110.up xσ112) (by decide) rfl wu_X5 tyX5 tyX5_ok nmX5 13 (by decide) wf_X6_189 rfl (ty := .int) rfl rfl rfl rfl rfl dX6_matchText_43 (fun H locs hH => ?_)
  have hH : Hd D cA A s (pI σ112 a110 13 r113) H locs := hH
  rw [← eσ114] at hH
  have hGσ114 : RG σ114 := by rw [eσ114]; exact hGσ112.pI gr113
  have hYσ114 : TY σ114 := by rw [eσ114]; exact hYσ112.pI
  have xσ114 : Ext σ112 σ114 := by rw [eσ114]; exact Ext.pI
  have hc : CB n0 s0 σ114 := by rw [eσ114]; exact hc
  rw [show gc σ112 = gc σ114 by rw [eσ114]; try rfl, show gs σ112 = gs σ114 by rw [eσ114]; try rfl]
  refine lv_aload_n B.1 B.2.1 dX6_matchText_46 rfl (lv_at hl 0 rfl) ?_
  refine f_getl B hH (hth.up (xσ105.trans (xσ106.trans (xσ107.trans (xσ108.trans (xσ112.trans xσ114)))))) (by decide) rfl wu_X6 4 (by decide) wf_X6_73 rfl rfl dX6_matchText_47 ?_
  refine lv_ldc2 B.1 B.2.1 B.2.2.1 (B.2.2.2.1 _ (wk_X6_229)) dX6_matchText_50 ?_
  refine W.lcmp B.1 B.2.1 dX6_matchText_53 ?_
  refine lv_if_eq (tgt := 68) B.1 B.2.1 dX6_matchText_54 (by decide) (fun h9 => ?_) (fun h9 => ?_)
  · rw [if_pos ((lg_cmp_eq _ _).mp h9)] at h
    exact a_X6_matchText_68 K hQ hX hTh _ h hGσ114 hYσ114 ((((((hE.trans xσ105).trans xσ106).trans xσ107).trans xσ108).trans xσ112).trans xσ114) (hth.up (xσ105.trans (xσ106.trans (xσ107.trans (xσ108.trans (xσ112.trans xσ114)))))) _ _ _ hH (lv_sub (l' := [(0, .ref th)]) hl [0] rfl) hc
  · rw [if_neg (fun q => h9 ((lg_cmp_eq _ _).mpr q))] at h
    exact a_X6_matchText_57 K hQ hX hTh _ h hGσ114 hYσ114 ((((((hE.trans xσ105).trans xσ106).trans xσ107).trans xσ108).trans xσ112).trans xσ114) (hth.up (xσ105.trans (xσ106.trans (xσ107.trans (xσ108.trans (xσ112.trans xσ114)))))) _ _ _ hH (lv_sub (l' := [(0, .ref th)]) hl [0] rfl) hc
theorem ok_X6_matchText (hl0 : l.stackTraces = false) (hT : TyC cA tys) {Q : Sg → Unit → Prop} {X : Sg → String → Prop} (σ : Sg) (th : Nat) (hth : kO σ th 6) (hG : RG σ) (hY : TY σ) (h : wp_X6_matchText th σ Q X) : Ok l D cA tys A yX6_matchText (.code yX6_matchText cX6_matchText 2 none) 161 11223 [.ref th] σ (QcV σ Q) (QxC σ X) := by
  unfold wp_X6_matchText at h
  exact oc_V hl0 (by decide) (by exact Nat.le_of_ble_eq_true rfl) hT (fun p e R s m args below meth c K hQ hX hTh hin9 H locs ls hH hl hc => a_X6_matchText_0 K hQ hX hTh σ h hG hY (Ext.rfl' σ) hth H locs ls hH (lv_sub (l' := [(0, .ref th)]) hl [0] rfl) hc)
theorem dX6_outputText_0 : decode cX6_outputText 0 = .ok (.aload_n 0, 1) := by decide +kernel
theorem dX6_outputText_1 : decode cX6_outputText 1 = .ok (.invokevirtual 40, 3) := by decide +kernel
theorem dX6_outputText_4 : decode cX6_outputText 4 = .ok (.aload_n 0, 1) := by decide +kernel
theorem dX6_outputText_5 : decode cX6_outputText 5 = .ok (.bipush 11, 2) := by decide +kernel
theorem dX6_outputText_7 : decode cX6_outputText 7 = .ok (.invokevirtual 152, 3) := by decide +kernel
theorem dX6_outputText_10 : decode cX6_outputText 10 = .ok (.aload_n 0, 1) := by decide +kernel
theorem dX6_outputText_11 : decode cX6_outputText 11 = .ok (.invokevirtual 40, 3) := by decide +kernel
theorem dX6_outputText_14 : decode cX6_outputText 14 = .ok (.aload_n 0, 1) := by decide +kernel
theorem dX6_outputText_15 : decode cX6_outputText 15 = .ok (.getfield 88, 3) := by decide +kernel
theorem dX6_outputText_18 : decode cX6_outputText 18 = .ok (.aload_n 0, 1) := by decide +kernel
theorem dX6_outputText_19 : decode cX6_outputText 19 = .ok (.getfield 31, 3) := by decide +kernel
theorem dX6_outputText_22 : decode cX6_outputText 22 = .ok (.getfield 84, 3) := by decide +kernel
theorem dX6_outputText_25 : decode cX6_outputText 25 = .ok (.aload_n 0, 1) := by decide +kernel
theorem dX6_outputText_26 : decode cX6_outputText 26 = .ok (.getfield 88, 3) := by decide +kernel
theorem dX6_outputText_29 : decode cX6_outputText 29 = .ok (.getfield 155, 3) := by decide +kernel
theorem dX6_outputText_32 : decode cX6_outputText 32 = .ok (.aaload, 1) := by decide +kernel
theorem dX6_outputText_33 : decode cX6_outputText 33 = .ok (.invokevirtual 158, 3) := by decide +kernel
theorem dX6_outputText_36 : decode cX6_outputText 36 = .ok (.aload_n 0, 1) := by decide +kernel
theorem dX6_outputText_37 : decode cX6_outputText 37 = .ok (.getfield 88, 3) := by decide +kernel
theorem dX6_outputText_40 : decode cX6_outputText 40 = .ok (.aload_n 0, 1) := by decide +kernel
theorem dX6_outputText_41 : decode cX6_outputText 41 = .ok (.getfield 31, 3) := by decide +kernel
theorem dX6_outputText_44 : decode cX6_outputText 44 = .ok (.getfield 46, 3) := by decide +kernel
theorem dX6_outputText_47 : decode cX6_outputText 47 = .ok (.putfield 137, 3) := by decide +kernel
theorem dX6_outputText_50 : decode cX6_outputText 50 = .ok (.aload_n 0, 1) := by decide +kernel
theorem dX6_outputText_51 : decode cX6_outputText 51 = .ok (.getfield 31, 3) := by decide +kernel
theorem dX6_outputText_54 : decode cX6_outputText 54 = .ok (.getfield 236, 3) := by decide +kernel
theorem dX6_outputText_57 : decode cX6_outputText 57 = .ok (.aload_n 0, 1) := by decide +kernel
theorem dX6_outputText_58 : decode cX6_outputText 58 = .ok (.getfield 31, 3) := by decide +kernel
theorem dX6_outputText_61 : decode cX6_outputText 61 = .ok (.getfield 46, 3) := by decide +kernel
theorem dX6_outputText_64 : decode cX6_outputText 64 = .ok (.aload_n 0, 1) := by decide +kernel
theorem dX6_outputText_65 : decode cX6_outputText 65 = .ok (.getfield 31, 3) := by decide +kernel
theorem dX6_outputText_68 : decode cX6_outputText 68 = .ok (.getfield 61, 3) := by decide +kernel
theorem dX6_outputText_71 : decode cX6_outputText 71 = .ok (.iastore, 1) := by decide +kernel
theorem dX6_outputText_72 : decode cX6_outputText 72 = .ok (.aload_n 0, 1) := by decide +kernel
theorem dX6_outputText_73 : decode cX6_outputText 73 = .ok (.getfield 31, 3) := by decide +kernel
theorem dX6_outputText_76 : decode cX6_outputText 76 = .ok (.dup, 1) := by decide +kernel
theorem dX6_outputText_77 : decode cX6_outputText 77 = .ok (.getfield 46, 3) := by decide +kernel
theorem dX6_outputText_80 : decode cX6_outputText 80 = .ok (.iconst 1, 1) := by decide +kernel
theorem dX6_outputText_81 : decode cX6_outputText 81 = .ok (.iadd, 1) := by decide +kernel
theorem dX6_outputText_82 : decode cX6_outputText 82 = .ok (.putfield 46, 3) := by decide +kernel
theorem dX6_outputText_85 : decode cX6_outputText 85 = .ok (.return_, 1) := by decide +kernel
set_option maxRecDepth 20000 in
theorem a_X6_outputText_0 {Q : Sg → Unit → Prop} {X : Sg → String → Prop} {th : Nat} (K : MD l R p s m args c cX6_outputText 1 RX6 D cA tys A n0 s0 10 173 []) (hQ : CQV p l e R s m args below meth c cX6_outputText D cA A n0 s0 QM σi Q) (hX : CX p l e R s m args below meth c 1 D cA A n0 s0 QM σi X) (hTh : CT p l e R s m args below meth c cX6_outputText 1 D cA A n0 s0 QM σi RX6 X) : ∀ (σ : Sg), w_X6_outputText_0 th Q X σ → RG σ → TY σ → Ext σi σ → kO σ th 6 → JJ p l e R s m args below meth c 1 D cA A n0 s0 QM σ 0 [(0, .ref th)] [] := by
  intro σ h hGσ hYσ hE hth H locs ls hH hl hc
  have B := K.1
  have hl9 := K.2.2.2.2.2.2
  unfold w_X6_outputText_0 at h
  refine lv_aload_n B.1 B.2.1 dX6_outputText_0 rfl (lv_at hl 0 rfl) ?_
  refine W.eq (g2 := F0 m 1 ls [.ref th]) (rfl) ?_
  refine c_V B hH hl hc K.2.2.1 (C := RX6) (T := TX6) (N := 9) (ci := 6) (As := []) (ok_X6_next hl9 K.2.1 σ th hth hGσ hYσ h) wc_X6_40 0 hd_X6_next ⟨Nat.le_trans (Nat.le_of_ble_eq_true rfl) K.2.2.2.1, Nat.le_trans (Nat.le_of_ble_eq_true rfl) K.2.2.2.2.1⟩ hth.1 hth.2 (by decide) rfl rfl (rest := []) rfl (Nat.le_of_ble_eq_true rfl) dX6_outputText_1 (fun σ31 w hq => ?_) (fun σ9 E9 hx9 => hX σ9 E9 _ _ _ (tb_out K.2.2.2.2.2.1 rfl) hx9.1 hx9.2.1 hx9.2.2.1 (hE.trans hx9.2.2.2))
  obtain ⟨rfl, h, hGσ31, hYσ31, xσ31⟩ := hq
  have h := h xσ31
  intro H locs ls hH hl hc
  refine W.eq (g2 := F0 m 4 ls []) (rfl) ?_
  try dsimp only at h
  refine lv_aload_n B.1 B.2.1 dX6_outputText_4 rfl (lv_at hl 0 rfl) ?_
  refine lv_bipush (v := i32 11) B.1 B.2.1 dX6_outputText_5 (by decide) ?_
  refine W.eq (g2 := F0 m 7 ls [.int (i32 11), .ref th]) (rfl) ?_
  refine c_V B hH hl hc K.2.2.1 (C := RX6) (T := TX6) (N := 9) (ci := 6) (As := [.int (i32 11)]) (ok_X6_firstInput hl9 K.2.1 σ31 th 11 (by unfold rng; omega) (hth.up xσ31) hGσ31 hYσ31 h) wc_X6_152 1 hd_X6_firstInput ⟨Nat.le_trans (Nat.le_of_ble_eq_true rfl) K.2.2.2.1, Nat.le_trans (Nat.le_of_ble_eq_true rfl) K.2.2.2.2.1⟩ (hth.up xσ31).1 (hth.up xσ31).2 (by decide) rfl rfl (rest := []) rfl (Nat.le_of_ble_eq_true rfl) dX6_outputText_7 (fun σ32 w hq => ?_) (fun σ9 E9 hx9 => hX σ9 E9 _ _ _ (tb_out K.2.2.2.2.2.1 rfl) hx9.1 hx9.2.1 hx9.2.2.1 ((hE.trans xσ31).trans hx9.2.2.2))
  obtain ⟨rfl, h, hGσ32, hYσ32, xσ32⟩ := hq
  have h := h xσ32
  intro H locs ls hH hl hc
  refine W.eq (g2 := F0 m 10 ls []) (rfl) ?_
  try dsimp only at h
  refine lv_aload_n B.1 B.2.1 dX6_outputText_10 rfl (lv_at hl 0 rfl) ?_
  refine W.eq (g2 := F0 m 11 ls [.ref th]) (rfl) ?_
  refine c_V B hH hl hc K.2.2.1 (C := RX6) (T := TX6) (N := 9) (ci := 6) (As := []) (ok_X6_next hl9 K.2.1 σ32 th (hth.up (xσ31.trans xσ32)) hGσ32 hYσ32 h) wc_X6_40 0 hd_X6_next ⟨Nat.le_trans (Nat.le_of_ble_eq_true rfl) K.2.2.2.1, Nat.le_trans (Nat.le_of_ble_eq_true rfl) K.2.2.2.2.1⟩ (hth.up (xσ31.trans xσ32)).1 (hth.up (xσ31.trans xσ32)).2 (by decide) rfl rfl (rest := []) rfl (Nat.le_of_ble_eq_true rfl) dX6_outputText_11 (fun σ33 w hq => ?_) (fun σ9 E9 hx9 => hX σ9 E9 _ _ _ (tb_out K.2.2.2.2.2.1 rfl) hx9.1 hx9.2.1 hx9.2.2.1 (((hE.trans xσ31).trans xσ32).trans hx9.2.2.2))
  obtain ⟨rfl, h, hGσ33, hYσ33, xσ33⟩ := hq
  have h := h xσ33
  intro H locs ls hH hl hc
  refine W.eq (g2 := F0 m 14 ls []) (rfl) ?_
  try dsimp only at h
  refine lv_aload_n B.1 B.2.1 dX6_outputText_14 rfl (lv_at hl 0 rfl) ?_
  refine f_getp B hH (hth.up (xσ31.trans (xσ32.trans xσ33))) (by decide) rfl wu_X6 8 (by decide) wf_X6_88 rfl rfl dX6_outputText_15 ?_
  refine lv_aload_n B.1 B.2.1 dX6_outputText_18 rfl (lv_at hl 0 rfl) ?_
  refine f_getp B hH (hth.up (xσ31.trans (xσ32.trans xσ33))) (by decide) rfl wu_X6 7 (by decide) wf_X6_31 rfl rfl dX6_outputText_19 ?_
  obtain ⟨a34, ea34, h⟩ := h
  have ka34 : kO σ33 a34 4 := (hYσ33.get (hth.up (xσ31.trans (xσ32.trans xσ33))) (by decide)) a34 ea34
  have h := h ka34
  refine W.eq (g2 := F0 m 22 ls [.ref a34, va_rf (gP σ33 th 8)]) (by rw [ea34]; rfl) ?_
  refine f_getp B hH ka34 (by decide) rfl wu_X4 0 (by decide) wf_X6_84 rfl rfl dX6_outputText_22 ?_
  refine lv_aload_n B.1 B.2.1 dX6_outputText_25 rfl (lv_at hl 0 rfl) ?_
  refine f_getp B hH (hth.up (xσ31.trans (xσ32.trans xσ33))) (by decide) rfl wu_X6 8 (by decide) wf_X6_88 rfl rfl dX6_outputText_26 ?_
  obtain ⟨a35, ea35, h⟩ := h
  have ka35 : kO σ33 a35 5 := (hYσ33.get (hth.up (xσ31.trans (xσ32.trans xσ33))) (by decide)) a35 ea35
  have h := h ka35
  refine W.eq (g2 := F0 m 29 ls [.ref a35, va_rf (gP σ33 a34 0), va_rf (gP σ33 th 8)]) (by rw [ea35]; rfl) ?_
  refine f_geti B hH ka35 (by decide) rfl wu_X5 7 (by decide) wf_X6_155 rfl rfl dX6_outputText_29 ?_
  obtain ⟨a36, ea36, h⟩ := h
  have ka36 : kO σ33 a36 115 := (hYσ33.get ka34 (by decide)) a36 ea36
  have h := h ka36
  obtain ⟨q1, h⟩ := h
  refine W.eq (g2 := F0 m 32 ls [.int (i32 (gI σ33 a35 7)), .ref a36, va_rf (gP σ33 th 8)]) (by rw [ea36]; rfl) ?_
  refine y_aald B hH (t0 := 6) ka36 (by decide) K.2.1.2.2.2.1 q1 (hYσ33.2 _) dX6_outputText_32 ?_
  refine W.eq (g2 := F0 m 33 ls [va_rf (gP σ33 a36 (gI σ33 a35 7).toNat), .ref a35]) (by rw [ea35]; rfl) ?_
  refine c_V B hH hl hc K.2.2.1 (C := RX5) (T := TX5) (N := 17) (ci := 5) (As := [va_rf (gP σ33 a36 (gI σ33 a35 7).toNat)]) (ok_X5_addColumnsOf hl9 K.2.1 σ33 a35 (gP σ33 a36 (gI σ33 a35 7).toNat) (hYσ33.get ka36 rfl) ka35 hGσ33 hYσ33 h) wc_X6_158 1 hd_X5_addColumnsOf ⟨Nat.le_trans (Nat.le_of_ble_eq_true rfl) K.2.2.2.1, Nat.le_trans (Nat.le_of_ble_eq_true rfl) K.2.2.2.2.1⟩ ka35.1 ka35.2 (by decide) rfl rfl (rest := []) rfl (Nat.le_of_ble_eq_true rfl) dX6_outputText_33 (fun σ37 w hq => ?_) (fun σ9 E9 hx9 => hX σ9 E9 _ _ _ (tb_out K.2.2.2.2.2.1 rfl) hx9.1 hx9.2.1 hx9.2.2.1 ((((hE.trans xσ31).trans xσ32).trans xσ33).trans hx9.2.2.2))
  obtain ⟨rfl, h, hGσ37, hYσ37, xσ37⟩ := hq
  have h := h xσ37
  intro H locs ls hH hl hc
  refine W.eq (g2 := F0 m 36 ls []) (rfl) ?_
  try dsimp only at h
  refine lv_aload_n B.1 B.2.1 dX6_outputText_36 rfl (lv_at hl 0 rfl) ?_
  refine f_getp B hH (hth.up (xσ31.trans (xσ32.trans (xσ33.trans xσ37)))) (by decide) rfl wu_X6 8 (by decide) wf_X6_88 rfl rfl dX6_outputText_37 ?_
  refine lv_aload_n B.1 B.2.1 dX6_outputText_40 rfl (lv_at hl 0 rfl) ?_
  refine f_getp B hH (hth.up (xσ31.trans (xσ32.trans (xσ33.trans xσ37)))) (by decide) rfl wu_X6 7 (by decide) wf_X6_31 rfl rfl dX6_outputText_41 ?_
  obtain ⟨a38, ea38, h⟩ := h
  have ka38 : kO σ37 a38 4 := (hYσ37.get (hth.up (xσ31.trans (xσ32.trans (xσ33.trans xσ37)))) (by decide)) a38 ea38
  have h := h ka38
  refine W.eq (g2 := F0 m 44 ls [.ref a38, va_rf (gP σ37 th 8)]) (by rw [ea38]; rfl) ?_
  refine f_geti B hH ka38 (by decide) rfl wu_X4 2 (by decide) wf_X6_46 rfl rfl dX6_outputText_44 ?_
  obtain ⟨a39, ea39, h⟩ := h
  have ka39 : kO σ37 a39 5 := (hYσ37.get (hth.up (xσ31.trans (xσ32.trans (xσ33.trans xσ37)))) (by decide)) a39 ea39
  have h := h ka39
  obtain ⟨σ40, eσ40⟩ : ∃ z, z = pI σ37 a39 9 (gI σ37 a38 2) := ⟨_, rfl⟩
  have h := h σ40 eσ40
  refine W.eq (g2 := F0 m 47 ls [.int (i32 (gI σ37 a38 2)), .ref a39]) (by rw [ea39]; rfl) ?_
  refine f_puti B hH ka39 (by decide) rfl wu_X5 tyX5 tyX5_ok nmX5 9 (by decide) wf_X6_137 rfl (ty := .int) rfl rfl rfl rfl rfl dX6_outputText_47 (fun H locs hH => ?_)
  have hH : Hd D cA A s (pI σ37 a39 9 (gI σ37 a38 2)) H locs := hH
  rw [← eσ40] at hH
  have hGσ40 : RG σ40 := by rw [eσ40]; exact hGσ37.pI (hGσ37 _ _)
  have hYσ40 : TY σ40 := by rw [eσ40]; exact hYσ37.pI
  have xσ40 : Ext σ37 σ40 := by rw [eσ40]; exact Ext.pI
  have hc : CB n0 s0 σ40 := by rw [eσ40]; exact hc
  rw [show gc σ37 = gc σ40 by rw [eσ40]; try rfl, show gs σ37 = gs σ40 by rw [eσ40]; try rfl]
  refine lv_aload_n B.1 B.2.1 dX6_outputText_50 rfl (lv_at hl 0 rfl) ?_
  refine f_getp B hH (hth.up (xσ31.trans (xσ32.trans (xσ33.trans (xσ37.trans xσ40))))) (by decide) rfl wu_X6 7 (by decide) wf_X6_31 rfl rfl dX6_outputText_51 ?_
  obtain ⟨a41, ea41, h⟩ := h
  have ka41 : kO σ40 a41 4 := (hYσ40.get (hth.up (xσ31.trans (xσ32.trans (xσ33.trans (xσ37.trans xσ40))))) (by decide)) a41 ea41
  have h := h ka41
  refine W.eq (g2 := F0 m 54 ls [.ref a41]) (by rw [ea41]; rfl) ?_
  refine f_getp B hH ka41 (by decide) rfl wu_X4 3 (by decide) wf_X6_236 rfl rfl dX6_outputText_54 ?_
  refine lv_aload_n B.1 B.2.1 dX6_outputText_57 rfl (lv_at hl 0 rfl) ?_
  refine f_getp B hH (hth.up (xσ31.trans (xσ32.trans (xσ33.trans (xσ37.trans xσ40))))) (by decide) rfl wu_X6 7 (by decide) wf_X6_31 rfl rfl dX6_outputText_58 ?_
  refine W.eq (g2 := F0 m 61 ls [.ref a41, va_rf (gP σ40 a41 3)]) (by rw [ea41]; rfl) ?_
  refine f_geti B hH ka41 (by decide) rfl wu_X4 2 (by decide) wf_X6_46 rfl rfl dX6_outputText_61 ?_
  refine lv_aload_n B.1 B.2.1 dX6_outputText_64 rfl (lv_at hl 0 rfl) ?_
  refine f_getp B hH (hth.up (xσ31.trans (xσ32.trans (xσ33.trans (xσ37.trans xσ40))))) (by decide) rfl wu_X6 7 (by decide) wf_X6_31 rfl rfl dX6_outputText_65 ?_
  refine W.eq (g2 := F0 m 68 ls [.ref a41, .int (i32 (gI σ40 a41 2)), va_rf (gP σ40 a41 3)]) (by rw [ea41]; rfl) ?_
  refine f_geti B hH ka41 (by decide) rfl wu_X4 1 (by decide) wf_X6_61 rfl rfl dX6_outputText_68 ?_
  obtain ⟨a42, ea42, h⟩ := h
  have ka42 : kO σ40 a42 100 := (hYσ40.get ka41 (by decide)) a42 ea42
  have h := h ka42
  obtain ⟨q2, h⟩ := h
  obtain ⟨σ43, eσ43⟩ : ∃ z, z = pI σ40 a42 (gI σ40 a41 2).toNat (gI σ40 a41 1) := ⟨_, rfl⟩
  have h := h σ43 eσ43
  refine W.eq (g2 := F0 m 71 ls [.int (i32 (gI σ40 a41 1)), .int (i32 (gI σ40 a41 2)), .ref a42]) (by rw [ea42]; rfl) ?_
  refine y_iast B K.2.1 hH ka42 q2 dX6_outputText_71 (hYσ40.2 _) (fun H locs hH => ?_)
  have hH : Hd D cA A s (pI σ40 a42 (gI σ40 a41 2).toNat (gI σ40 a41 1)) H locs := hH
  rw [← eσ43] at hH
  have hGσ43 : RG σ43 := by rw [eσ43]; exact hGσ40.pI (hGσ40 _ _)
  have hYσ43 : TY σ43 := by rw [eσ43]; exact hYσ40.pI
  have xσ43 : Ext σ40 σ43 := by rw [eσ43]; exact Ext.pI
  have hc : CB n0 s0 σ43 := by rw [eσ43]; exact hc
  rw [show gc σ40 = gc σ43 by rw [eσ43]; try rfl, show gs σ40 = gs σ43 by rw [eσ43]; try rfl]
  refine lv_aload_n B.1 B.2.1 dX6_outputText_72 rfl (lv_at hl 0 rfl) ?_
  refine f_getp B hH (hth.up (xσ31.trans (xσ32.trans (xσ33.trans (xσ37.trans (xσ40.trans xσ43)))))) (by decide) rfl wu_X6 7 (by decide) wf_X6_31 rfl rfl dX6_outputText_73 ?_
  refine lv_dup B.1 B.2.1 dX6_outputText_76 (rf_cat _) ?_
  obtain ⟨a44, ea44, h⟩ := h
  have ka44 : kO σ43 a44 4 := (hYσ43.get (hth.up (xσ31.trans (xσ32.trans (xσ33.trans (xσ37.trans (xσ40.trans xσ43)))))) (by decide)) a44 ea44
  have h := h ka44
  refine W.eq (g2 := F0 m 77 ls [.ref a44, va_rf (gP σ43 th 7)]) (by rw [ea44]; rfl) ?_
  refine f_geti B hH ka44 (by decide) rfl wu_X4 2 (by decide) wf_X6_46 rfl rfl dX6_outputText_77 ?_
  refine lv_iconst (v := i32 1) B.1 B.2.1 dX6_outputText_80 (by decide) ?_
  obtain ⟨q3, h⟩ := h
  refine lv_iadd B.1 B.2.1 dX6_outputText_81 ?_
  rw [i32_add]
  obtain ⟨σ45, eσ45⟩ : ∃ z, z = pI σ43 a44 2 (gI σ43 a44 2 + 1) := ⟨_, rfl⟩
  have h := h σ45 eσ45
  refine W.eq (g2 := F0 m 82 ls [.int (i32 (gI σ43 a44 2 + 1)), .ref a44]) (by rw [ea44]; rfl) ?_
  refine f_puti B hH ka44 (by decide) rfl wu_X4 tyX4 tyX4_ok nmX4 2 (by decide) wf_X6_46 rfl (ty := .int) rfl rfl rfl rfl rfl dX6_outputText_82 (fun H locs hH => ?_)
  have hH : Hd D cA A s (pI σ43 a44 2 (gI σ43 a44 2 + 1)) H locs := hH
  rw [← eσ45] at hH
  have hGσ45 : RG σ45 := by rw [eσ45]; exact hGσ43.pI q3
  have hYσ45 : TY σ45 := by rw [eσ45]; exact hYσ43.pI
  have xσ45 : Ext σ43 σ45 := by rw [eσ45]; exact Ext.pI
  have hc : CB n0 s0 σ45 := by rw [eσ45]; exact hc
  rw [show gc σ43 = gc σ45 by rw [eσ45]; try rfl, show gs σ43 = gs σ45 by rw [eσ45]; try rfl]
  exact hQ _ _ _ _ _ dX6_outputText_85 hH hc h hGσ45 hYσ45 (((((((hE.trans xσ31).trans xσ32).trans xσ33).trans xσ37).trans xσ40).trans xσ43).trans xσ45)
theorem ok_X6_outputText (hl0 : l.stackTraces = false) (hT : TyC cA tys) {Q : Sg → Unit → Prop} {X : Sg → String → Prop} (σ : Sg) (th : Nat) (hth : kO σ th 6) (hG : RG σ) (hY : TY σ) (h : wp_X6_outputText th σ Q X) : Ok l D cA tys A yX6_outputText (.code yX6_outputText cX6_outputText 1 none) 10 173 [.ref th] σ (QcV σ Q) (QxC σ X) := by
  unfold wp_X6_outputText at h
  exact oc_V hl0 (by decide) (by exact Nat.le_of_ble_eq_true rfl) hT (fun p e R s m args below meth c K hQ hX hTh hin9 H locs ls hH hl hc => a_X6_outputText_0 K hQ hX hTh σ h hG hY (Ext.rfl' σ) hth H locs ls hH (lv_sub (l' := [(0, .ref th)]) hl [0] rfl) hc)
end C82

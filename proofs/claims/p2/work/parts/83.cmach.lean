section C83
variable {p : Program} {l : Launch} {e : Env} {R : Room} {s : State} {m : MethodId} {args : Array Value} {below : List Frame} {meth : Method} {c : Code} {D : va_G} {cA : Nat → ClassId} {tys : List (ClassId × FieldType)} {A : Nat → Prop} {n0 s0 : Nat} {QM : State → Prop} {σi : Sg}
theorem dX5_sharesColumnWith_0 : decode cX5_sharesColumnWith 0 = .ok (.iconst 0, 1) := by decide +kernel
theorem dX5_sharesColumnWith_1 : decode cX5_sharesColumnWith 1 = .ok (.istore_n 2, 1) := by decide +kernel
theorem dX5_sharesColumnWith_2 : decode cX5_sharesColumnWith 2 = .ok (.iload_n 2, 1) := by decide +kernel
theorem dX5_sharesColumnWith_3 : decode cX5_sharesColumnWith 3 = .ok (.aload_n 0, 1) := by decide +kernel
theorem dX5_sharesColumnWith_4 : decode cX5_sharesColumnWith 4 = .ok (.getfield 22, 3) := by decide +kernel
theorem dX5_sharesColumnWith_7 : decode cX5_sharesColumnWith 7 = .ok (.if_icmp .ge 25, 3) := by decide +kernel
theorem dX5_sharesColumnWith_10 : decode cX5_sharesColumnWith 10 = .ok (.aload_n 1, 1) := by decide +kernel
theorem dX5_sharesColumnWith_11 : decode cX5_sharesColumnWith 11 = .ok (.aload_n 0, 1) := by decide +kernel
theorem dX5_sharesColumnWith_12 : decode cX5_sharesColumnWith 12 = .ok (.getfield 9, 3) := by decide +kernel
theorem dX5_sharesColumnWith_15 : decode cX5_sharesColumnWith 15 = .ok (.iload_n 2, 1) := by decide +kernel
theorem dX5_sharesColumnWith_16 : decode cX5_sharesColumnWith 16 = .ok (.laload, 1) := by decide +kernel
theorem dX5_sharesColumnWith_17 : decode cX5_sharesColumnWith 17 = .ok (.invokevirtual 70, 3) := by decide +kernel
theorem dX5_sharesColumnWith_20 : decode cX5_sharesColumnWith 20 = .ok (.iconst (-1), 1) := by decide +kernel
theorem dX5_sharesColumnWith_21 : decode cX5_sharesColumnWith 21 = .ok (.if_icmp .eq 5, 3) := by decide +kernel
theorem dX5_sharesColumnWith_24 : decode cX5_sharesColumnWith 24 = .ok (.iconst 1, 1) := by decide +kernel
theorem dX5_sharesColumnWith_25 : decode cX5_sharesColumnWith 25 = .ok (.ireturn, 1) := by decide +kernel
theorem dX5_sharesColumnWith_26 : decode cX5_sharesColumnWith 26 = .ok (.iinc 2 1, 3) := by decide +kernel
theorem dX5_sharesColumnWith_29 : decode cX5_sharesColumnWith 29 = .ok (.goto (-27), 3) := by decide +kernel
theorem dX5_sharesColumnWith_32 : decode cX5_sharesColumnWith 32 = .ok (.iconst 0, 1) := by decide +kernel
theorem dX5_sharesColumnWith_33 : decode cX5_sharesColumnWith 33 = .ok (.ireturn, 1) := by decide +kernel
set_option maxRecDepth 20000 in
theorem a_X5_sharesColumnWith_32 {Q : Sg → Int → Prop} {X : Sg → String → Prop} {th : Nat} (K : MD l R p s m args c cX5_sharesColumnWith 3 RX5 D cA tys A n0 s0 1 23 []) (hQ : CQZ p l e R s m args below meth c cX5_sharesColumnWith D cA A n0 s0 QM σi Q) (hX : CX p l e R s m args below meth c 3 D cA A n0 s0 QM σi X) (hTh : CT p l e R s m args below meth c cX5_sharesColumnWith 3 D cA A n0 s0 QM σi RX5 X) : ∀ (σ : Sg), w_X5_sharesColumnWith_32 th Q X σ → RG σ → TY σ → Ext σi σ → kO σ th 5 → JJ p l e R s m args below meth c 3 D cA A n0 s0 QM σ 32 [(0, .ref th)] [] := by
  intro σ h hGσ hYσ hE hth H locs ls hH hl hc
  have B := K.1
  have hl9 := K.2.2.2.2.2.2
  unfold w_X5_sharesColumnWith_32 at h
  refine lv_iconst (v := i32 0) B.1 B.2.1 dX5_sharesColumnWith_32 (by decide) ?_
  exact hQ _ _ _ _ _ _ (by unfold rng; omega) (Or.inl rfl) dX5_sharesColumnWith_33 hH hc h hGσ hYσ hE
set_option maxRecDepth 20000 in
theorem a_X5_sharesColumnWith_26 {Q : Sg → Int → Prop} {X : Sg → String → Prop} {th : Nat} (K : MD l R p s m args c cX5_sharesColumnWith 3 RX5 D cA tys A n0 s0 1 23 []) (hQ : CQZ p l e R s m args below meth c cX5_sharesColumnWith D cA A n0 s0 QM σi Q) (hX : CX p l e R s m args below meth c 3 D cA A n0 s0 QM σi X) (hTh : CT p l e R s m args below meth c cX5_sharesColumnWith 3 D cA A n0 s0 QM σi RX5 X) {K2 : Sg → Option Nat → Int → Prop} (hK2 : ∀ (σ : Sg) (v1 : Option Nat) (v2 : Int) (g1 : tyV σ 5 v1) (g2 : rng v2), K2 σ v1 v2 → RG σ → TY σ → Ext σi σ → kO σ th 5 → JJ p l e R s m args below meth c 3 D cA A n0 s0 QM σ 2 [(0, .ref th), (1, va_rf v1), (2, .int (i32 v2))] []) : ∀ (σ : Sg) (v1 : Option Nat) (v2 : Int) (g1 : tyV σ 5 v1) (g2 : rng v2), w_X5_sharesColumnWith_26 th K2 Q X σ v1 v2 → RG σ → TY σ → Ext σi σ → kO σ th 5 → JJ p l e R s m args below meth c 3 D cA A n0 s0 QM σ 26 [(0, .ref th), (1, va_rf v1), (2, .int (i32 v2))] [] := by
  intro σ v1 v2 g1 g2 h hGσ hYσ hE hth H locs ls hH hl hc
  have B := K.1
  have hl9 := K.2.2.2.2.2.2
  unfold w_X5_sharesColumnWith_26 at h
  obtain ⟨q1, h⟩ := h
  refine lv_iinc (k := 2) (v := i32 (v2 + 1)) (lv' := [(2, .int (i32 (v2 + 1))), (0, .ref th), (1, va_rf v1)]) B.1 B.2.1 dX5_sharesColumnWith_26 hl rfl (i32_add _ _) (by decide) (by generalize v1 = w9; cases w9 <;> rfl) (fun ls hl => ?_)
  refine lv_goto (tgt := 2) B.1 B.2.1 dX5_sharesColumnWith_29 (by decide) ?_
  exact hK2 _ _ _ g1 q1 h hGσ hYσ hE hth _ _ _ hH (lv_sub (l' := [(0, .ref th), (1, va_rf v1), (2, .int (i32 (v2 + 1)))]) hl [1, 2, 0] rfl) hc
set_option maxRecDepth 20000 in
theorem a_X5_sharesColumnWith_24 {Q : Sg → Int → Prop} {X : Sg → String → Prop} {th : Nat} (K : MD l R p s m args c cX5_sharesColumnWith 3 RX5 D cA tys A n0 s0 1 23 []) (hQ : CQZ p l e R s m args below meth c cX5_sharesColumnWith D cA A n0 s0 QM σi Q) (hX : CX p l e R s m args below meth c 3 D cA A n0 s0 QM σi X) (hTh : CT p l e R s m args below meth c cX5_sharesColumnWith 3 D cA A n0 s0 QM σi RX5 X) : ∀ (σ : Sg), w_X5_sharesColumnWith_24 th Q X σ → RG σ → TY σ → Ext σi σ → kO σ th 5 → JJ p l e R s m args below meth c 3 D cA A n0 s0 QM σ 24 [(0, .ref th)] [] := by
  intro σ h hGσ hYσ hE hth H locs ls hH hl hc
  have B := K.1
  have hl9 := K.2.2.2.2.2.2
  unfold w_X5_sharesColumnWith_24 at h
  refine lv_iconst (v := i32 1) B.1 B.2.1 dX5_sharesColumnWith_24 (by decide) ?_
  exact hQ _ _ _ _ _ _ (by unfold rng; omega) (Or.inr rfl) dX5_sharesColumnWith_25 hH hc h hGσ hYσ hE
set_option maxRecDepth 20000 in
theorem a_X5_sharesColumnWith_10 {Q : Sg → Int → Prop} {X : Sg → String → Prop} {th : Nat} (K : MD l R p s m args c cX5_sharesColumnWith 3 RX5 D cA tys A n0 s0 1 23 []) (hQ : CQZ p l e R s m args below meth c cX5_sharesColumnWith D cA A n0 s0 QM σi Q) (hX : CX p l e R s m args below meth c 3 D cA A n0 s0 QM σi X) (hTh : CT p l e R s m args below meth c cX5_sharesColumnWith 3 D cA A n0 s0 QM σi RX5 X) {K2 : Sg → Option Nat → Int → Prop} (hK2 : ∀ (σ : Sg) (v1 : Option Nat) (v2 : Int) (g1 : tyV σ 5 v1) (g2 : rng v2), K2 σ v1 v2 → RG σ → TY σ → Ext σi σ → kO σ th 5 → JJ p l e R s m args below meth c 3 D cA A n0 s0 QM σ 2 [(0, .ref th), (1, va_rf v1), (2, .int (i32 v2))] []) : ∀ (σ : Sg) (v1 : Option Nat) (v2 : Int) (g1 : tyV σ 5 v1) (g2 : rng v2), w_X5_sharesColumnWith_10 th K2 Q X σ v1 v2 → RG σ → TY σ → Ext σi σ → kO σ th 5 → JJ p l e R s m args below meth c 3 D cA A n0 s0 QM σ 10 [(0, .ref th), (1, va_rf v1), (2, .int (i32 v2))] [] := by
  intro σ v1 v2 g1 g2 h hGσ hYσ hE hth H locs ls hH hl hc
  have B := K.1
  have hl9 := K.2.2.2.2.2.2
  unfold w_X5_sharesColumnWith_10 at h
  refine lv_aload_nQ B.1 B.2.1 dX5_sharesColumnWith_10 rfl (lv_at hl 1 rfl) ?_
  refine lv_aload_n B.1 B.2.1 dX5_sharesColumnWith_11 rfl (lv_at hl 0 rfl) ?_
  refine f_getp B hH hth (by decide) rfl wu_X5 0 (by decide) wf_X5_9 rfl rfl dX5_sharesColumnWith_12 ?_
  refine lv_iload_n B.1 B.2.1 dX5_sharesColumnWith_15 rfl (lv_at hl 2 rfl) ?_
  obtain ⟨a9, ea9, h⟩ := h
  have ka9 : kO σ a9 101 := (hYσ.get hth (by decide)) a9 ea9
  have h := h ka9
  obtain ⟨q1, h⟩ := h
  refine W.eq (g2 := F0 m 16 ls [.int (i32 v2), .ref a9, va_rf v1]) (by rw [ea9]; rfl) ?_
  refine y_lald B K.2.1 hH ka9 q1 dX5_sharesColumnWith_16 (hYσ.2 _) ?_
  obtain ⟨a12, ea12, h⟩ := h
  have ka12 : kO σ a12 5 := g1 a12 ea12
  have h := h ka12
  refine W.eq (g2 := F0 m 17 ls [.long (gJ σ a9 v2.toNat), .ref a12]) (by rw [ea12]; rfl) ?_
  refine c_V B hH hl hc K.2.2.1 (C := RX5) (T := TX5) (N := 17) (ci := 5) (As := [.long (gJ σ a9 v2.toNat)]) (ok_X5_find hl9 K.2.1 σ a12 (gJ σ a9 v2.toNat) ka12 hGσ hYσ h) wc_X5_70 1 hd_X5_find ⟨Nat.le_trans (Nat.le_of_ble_eq_true rfl) K.2.2.2.1, Nat.le_trans (Nat.le_of_ble_eq_true rfl) K.2.2.2.2.1⟩ ka12.1 ka12.2 (by decide) rfl rfl (rest := []) rfl (Nat.le_of_ble_eq_true rfl) dX5_sharesColumnWith_17 (fun σ10 w hq => ?_) (fun σ9 E9 hx9 => hX σ9 E9 _ _ _ (tb_out K.2.2.2.2.2.1 rfl) hx9.1 hx9.2.1 hx9.2.2.1 (hE.trans hx9.2.2.2))
  obtain ⟨r11, rfl, gr11, h, hGσ10, hYσ10, xσ10⟩ := hq
  have h := h xσ10
  intro H locs ls hH hl hc
  refine W.eq (g2 := F0 m 20 ls [.int (i32 r11)]) (rfl) ?_
  try dsimp only at h
  refine lv_iconst (v := i32 (-1)) B.1 B.2.1 dX5_sharesColumnWith_20 (by decide) ?_
  refine lv_icmp_eq (tgt := 26) B.1 B.2.1 dX5_sharesColumnWith_21 (by decide) (fun h9 => ?_) (fun h9 => ?_)
  · rw [if_pos ((i32_eq gr11 (by unfold rng; omega)).mp h9)] at h
    exact a_X5_sharesColumnWith_26 K hQ hX hTh hK2 _ _ _ (g1.up xσ10) g2 h hGσ10 hYσ10 (hE.trans xσ10) (hth.up xσ10) _ _ _ hH (lv_sub (l' := [(0, .ref th), (1, va_rf v1), (2, .int (i32 v2))]) hl [0, 1, 2] rfl) hc
  · rw [if_neg (fun q => h9 ((i32_eq gr11 (by unfold rng; omega)).mpr q))] at h
    exact a_X5_sharesColumnWith_24 K hQ hX hTh _ h hGσ10 hYσ10 (hE.trans xσ10) (hth.up xσ10) _ _ _ hH (lv_sub (l' := [(0, .ref th)]) hl [0] rfl) hc
set_option maxRecDepth 20000 in
theorem a_X5_sharesColumnWith_2 {Q : Sg → Int → Prop} {X : Sg → String → Prop} {th : Nat} (K : MD l R p s m args c cX5_sharesColumnWith 3 RX5 D cA tys A n0 s0 1 23 []) (hQ : CQZ p l e R s m args below meth c cX5_sharesColumnWith D cA A n0 s0 QM σi Q) (hX : CX p l e R s m args below meth c 3 D cA A n0 s0 QM σi X) (hTh : CT p l e R s m args below meth c cX5_sharesColumnWith 3 D cA A n0 s0 QM σi RX5 X) {K2 : Sg → Option Nat → Int → Prop} (hK2 : ∀ (σ : Sg) (v1 : Option Nat) (v2 : Int) (g1 : tyV σ 5 v1) (g2 : rng v2), K2 σ v1 v2 → RG σ → TY σ → Ext σi σ → kO σ th 5 → JJ p l e R s m args below meth c 3 D cA A n0 s0 QM σ 2 [(0, .ref th), (1, va_rf v1), (2, .int (i32 v2))] []) : ∀ (σ : Sg) (v1 : Option Nat) (v2 : Int) (g1 : tyV σ 5 v1) (g2 : rng v2), w_X5_sharesColumnWith_2 th K2 Q X σ v1 v2 → RG σ → TY σ → Ext σi σ → kO σ th 5 → JJ p l e R s m args below meth c 3 D cA A n0 s0 QM σ 2 [(0, .ref th), (1, va_rf v1), (2, .int (i32 v2))] [] := by
  intro σ v1 v2 g1 g2 h hGσ hYσ hE hth H locs ls hH hl hc
  have B := K.1
  have hl9 := K.2.2.2.2.2.2
  unfold w_X5_sharesColumnWith_2 at h
  refine lv_iload_n B.1 B.2.1 dX5_sharesColumnWith_2 rfl (lv_at hl 2 rfl) ?_
  refine lv_aload_n B.1 B.2.1 dX5_sharesColumnWith_3 rfl (lv_at hl 0 rfl) ?_
  refine f_geti B hH hth (by decide) rfl wu_X5 3 (by decide) wf_X5_22 rfl rfl dX5_sharesColumnWith_4 ?_
  refine lv_icmp_ge (tgt := 32) B.1 B.2.1 dX5_sharesColumnWith_7 (by decide) (fun h9 => ?_) (fun h9 => ?_)
  · rw [if_pos ((i32_le (hGσ _ _) g2).mp h9)] at h
    exact a_X5_sharesColumnWith_32 K hQ hX hTh _ h hGσ hYσ hE hth _ _ _ hH (lv_sub (l' := [(0, .ref th)]) hl [0] rfl) hc
  · rw [if_neg (fun q => h9 ((i32_le (hGσ _ _) g2).mpr q))] at h
    exact a_X5_sharesColumnWith_10 K hQ hX hTh hK2 _ _ _ g1 g2 h hGσ hYσ hE hth _ _ _ hH (lv_sub (l' := [(0, .ref th), (1, va_rf v1), (2, .int (i32 v2))]) hl [0, 1, 2] rfl) hc
theorem al_X5_sharesColumnWith_2 {Q : Sg → Int → Prop} {X : Sg → String → Prop} {th : Nat} (K : MD l R p s m args c cX5_sharesColumnWith 3 RX5 D cA tys A n0 s0 1 23 []) (hQ : CQZ p l e R s m args below meth c cX5_sharesColumnWith D cA A n0 s0 QM σi Q) (hX : CX p l e R s m args below meth c 3 D cA A n0 s0 QM σi X) (hTh : CT p l e R s m args below meth c cX5_sharesColumnWith 3 D cA A n0 s0 QM σi RX5 X) : ∀ (n : Nat), ∀ (σ : Sg) (v1 : Option Nat) (v2 : Int) (g1 : tyV σ 5 v1) (g2 : rng v2), wl_X5_sharesColumnWith_2 th Q X n σ v1 v2 → RG σ → TY σ → Ext σi σ → kO σ th 5 → JJ p l e R s m args below meth c 3 D cA A n0 s0 QM σ 2 [(0, .ref th), (1, va_rf v1), (2, .int (i32 v2))] [] := by
  intro n
  induction n with
  | zero => intro σ v1 v2 g1 g2 h; exact h.elim
  | succ n ih => exact fun σ v1 v2 g1 g2 h => a_X5_sharesColumnWith_2 K hQ hX hTh ih σ v1 v2 g1 g2 h
set_option maxRecDepth 20000 in
theorem a_X5_sharesColumnWith_0 {Q : Sg → Int → Prop} {X : Sg → String → Prop} {th : Nat} (K : MD l R p s m args c cX5_sharesColumnWith 3 RX5 D cA tys A n0 s0 1 23 []) (hQ : CQZ p l e R s m args below meth c cX5_sharesColumnWith D cA A n0 s0 QM σi Q) (hX : CX p l e R s m args below meth c 3 D cA A n0 s0 QM σi X) (hTh : CT p l e R s m args below meth c cX5_sharesColumnWith 3 D cA A n0 s0 QM σi RX5 X) : ∀ (σ : Sg) (v1 : Option Nat) (g1 : tyV σ 5 v1), w_X5_sharesColumnWith_0 th Q X σ v1 → RG σ → TY σ → Ext σi σ → kO σ th 5 → JJ p l e R s m args below meth c 3 D cA A n0 s0 QM σ 0 [(0, .ref th), (1, va_rf v1)] [] := by
  intro σ v1 g1 h hGσ hYσ hE hth H locs ls hH hl hc
  have B := K.1
  have hl9 := K.2.2.2.2.2.2
  unfold w_X5_sharesColumnWith_0 at h
  refine lv_iconst (v := i32 0) B.1 B.2.1 dX5_sharesColumnWith_0 (by decide) ?_
  refine lv_istore_n (lv' := [(2, .int (i32 0)), (0, .ref th), (1, va_rf v1)]) B.1 B.2.1 dX5_sharesColumnWith_1 rfl hl (by decide) (by generalize v1 = w9; cases w9 <;> rfl) (fun ls hl => ?_)
  obtain ⟨n9, h⟩ := h
  exact al_X5_sharesColumnWith_2 K hQ hX hTh n9 _ _ _ g1 (by unfold rng; omega) h hGσ hYσ hE hth _ _ _ hH (lv_sub (l' := [(0, .ref th), (1, va_rf v1), (2, .int (i32 0))]) hl [1, 2, 0] rfl) hc
theorem ok_X5_sharesColumnWith (hl0 : l.stackTraces = false) (hT : TyC cA tys) {Q : Sg → Int → Prop} {X : Sg → String → Prop} (σ : Sg) (th : Nat) (v1 : Option Nat) (g1 : tyV σ 5 v1) (hth : kO σ th 5) (hG : RG σ) (hY : TY σ) (h : wp_X5_sharesColumnWith th v1 σ Q X) : Ok l D cA tys A yX5_sharesColumnWith (.code yX5_sharesColumnWith cX5_sharesColumnWith 3 (some .boolean)) 1 23 [.ref th, va_rf v1] σ (QcZ σ Q) (QxC σ X) := by
  unfold wp_X5_sharesColumnWith at h
  exact oc_Z hl0 (by decide) (by cases v1 <;> exact Nat.le_of_ble_eq_true rfl) hT (fun p e R s m args below meth c K hQ hX hTh H locs ls hH hl hc => a_X5_sharesColumnWith_0 K hQ hX hTh σ v1 g1 h hG hY (Ext.rfl' σ) hth H locs ls hH (lv_sub (l' := [(0, .ref th), (1, va_rf v1)]) hl [0, 1] (by cases v1 <;> rfl)) hc)
theorem dX6_signedNumber_0 : decode cX6_signedNumber 0 = .ok (.aload_n 0, 1) := by decide +kernel
theorem dX6_signedNumber_1 : decode cX6_signedNumber 1 = .ok (.bipush 45, 2) := by decide +kernel
theorem dX6_signedNumber_3 : decode cX6_signedNumber 3 = .ok (.invokevirtual 171, 3) := by decide +kernel
theorem dX6_signedNumber_6 : decode cX6_signedNumber 6 = .ok (.istore_n 1, 1) := by decide +kernel
theorem dX6_signedNumber_7 : decode cX6_signedNumber 7 = .ok (.iload_n 1, 1) := by decide +kernel
theorem dX6_signedNumber_8 : decode cX6_signedNumber 8 = .ok (.ifCond .eq 7, 3) := by decide +kernel
theorem dX6_signedNumber_11 : decode cX6_signedNumber 11 = .ok (.aload_n 0, 1) := by decide +kernel
theorem dX6_signedNumber_12 : decode cX6_signedNumber 12 = .ok (.invokevirtual 40, 3) := by decide +kernel
theorem dX6_signedNumber_15 : decode cX6_signedNumber 15 = .ok (.aload_n 0, 1) := by decide +kernel
theorem dX6_signedNumber_16 : decode cX6_signedNumber 16 = .ok (.iconst 0, 1) := by decide +kernel
theorem dX6_signedNumber_17 : decode cX6_signedNumber 17 = .ok (.sipush 1000, 3) := by decide +kernel
theorem dX6_signedNumber_20 : decode cX6_signedNumber 20 = .ok (.invokevirtual 134, 3) := by decide +kernel
theorem dX6_signedNumber_23 : decode cX6_signedNumber 23 = .ok (.istore_n 2, 1) := by decide +kernel
theorem dX6_signedNumber_24 : decode cX6_signedNumber 24 = .ok (.iload_n 1, 1) := by decide +kernel
theorem dX6_signedNumber_25 : decode cX6_signedNumber 25 = .ok (.ifCond .eq 8, 3) := by decide +kernel
theorem dX6_signedNumber_28 : decode cX6_signedNumber 28 = .ok (.iload_n 2, 1) := by decide +kernel
theorem dX6_signedNumber_29 : decode cX6_signedNumber 29 = .ok (.ineg, 1) := by decide +kernel
theorem dX6_signedNumber_30 : decode cX6_signedNumber 30 = .ok (.goto 4, 3) := by decide +kernel
theorem dX6_signedNumber_33 : decode cX6_signedNumber 33 = .ok (.iload_n 2, 1) := by decide +kernel
theorem dX6_signedNumber_34 : decode cX6_signedNumber 34 = .ok (.ireturn, 1) := by decide +kernel
set_option maxRecDepth 20000 in
theorem a_X6_signedNumber_34 {Q : Sg → Int → Prop} {X : Sg → String → Prop} {th : Nat} (K : MD l R p s m args c cX6_signedNumber 3 RX6 D cA tys A n0 s0 9 153 []) (hQ : CQI p l e R s m args below meth c cX6_signedNumber D cA A n0 s0 QM σi Q) (hX : CX p l e R s m args below meth c 3 D cA A n0 s0 QM σi X) (hTh : CT p l e R s m args below meth c cX6_signedNumber 3 D cA A n0 s0 QM σi RX6 X) : ∀ (σ : Sg) (u0 : Int) (gu0 : rng u0), w_X6_signedNumber_34 th Q X σ u0 → RG σ → TY σ → Ext σi σ → kO σ th 6 → JJ p l e R s m args below meth c 3 D cA A n0 s0 QM σ 34 [(0, .ref th)] [.int (i32 u0)] := by
  intro σ u0 gu0 h hGσ hYσ hE hth H locs ls hH hl hc
  have B := K.1
  have hl9 := K.2.2.2.2.2.2
  unfold w_X6_signedNumber_34 at h
  exact hQ _ _ _ _ _ _ gu0 dX6_signedNumber_34 hH hc h hGσ hYσ hE
set_option maxRecDepth 20000 in
theorem a_X6_signedNumber_33 {Q : Sg → Int → Prop} {X : Sg → String → Prop} {th : Nat} (K : MD l R p s m args c cX6_signedNumber 3 RX6 D cA tys A n0 s0 9 153 []) (hQ : CQI p l e R s m args below meth c cX6_signedNumber D cA A n0 s0 QM σi Q) (hX : CX p l e R s m args below meth c 3 D cA A n0 s0 QM σi X) (hTh : CT p l e R s m args below meth c cX6_signedNumber 3 D cA A n0 s0 QM σi RX6 X) : ∀ (σ : Sg) (v2 : Int) (g2 : rng v2), w_X6_signedNumber_33 th Q X σ v2 → RG σ → TY σ → Ext σi σ → kO σ th 6 → JJ p l e R s m args below meth c 3 D cA A n0 s0 QM σ 33 [(0, .ref th), (2, .int (i32 v2))] [] := by
  intro σ v2 g2 h hGσ hYσ hE hth H locs ls hH hl hc
  have B := K.1
  have hl9 := K.2.2.2.2.2.2
  unfold w_X6_signedNumber_33 at h
  refine lv_iload_n B.1 B.2.1 dX6_signedNumber_33 rfl (lv_at hl 1 rfl) ?_
  exact a_X6_signedNumber_34 K hQ hX hTh _ _ g2 h hGσ hYσ hE hth _ _ _ hH (lv_sub (l' := [(0, .ref th)]) hl [0] rfl) hc
set_option maxRecDepth 20000 in
theorem a_X6_signedNumber_28 {Q : Sg → Int → Prop} {X : Sg → String → Prop} {th : Nat} (K : MD l R p s m args c cX6_signedNumber 3 RX6 D cA tys A n0 s0 9 153 []) (hQ : CQI p l e R s m args below meth c cX6_signedNumber D cA A n0 s0 QM σi Q) (hX : CX p l e R s m args below meth c 3 D cA A n0 s0 QM σi X) (hTh : CT p l e R s m args below meth c cX6_signedNumber 3 D cA A n0 s0 QM σi RX6 X) : ∀ (σ : Sg) (v2 : Int) (g2 : rng v2), w_X6_signedNumber_28 th Q X σ v2 → RG σ → TY σ → Ext σi σ → kO σ th 6 → JJ p l e R s m args below meth c 3 D cA A n0 s0 QM σ 28 [(0, .ref th), (2, .int (i32 v2))] [] := by
  intro σ v2 g2 h hGσ hYσ hE hth H locs ls hH hl hc
  have B := K.1
  have hl9 := K.2.2.2.2.2.2
  unfold w_X6_signedNumber_28 at h
  refine lv_iload_n B.1 B.2.1 dX6_signedNumber_28 rfl (lv_at hl 1 rfl) ?_
  obtain ⟨q1, h⟩ := h
  refine lv_ineg B.1 B.2.1 dX6_signedNumber_29 ?_
  rw [i32_neg]
  refine lv_goto (tgt := 34) B.1 B.2.1 dX6_signedNumber_30 (by decide) ?_
  exact a_X6_signedNumber_34 K hQ hX hTh _ _ q1 h hGσ hYσ hE hth _ _ _ hH (lv_sub (l' := [(0, .ref th)]) hl [0] rfl) hc
set_option maxRecDepth 20000 in
theorem a_X6_signedNumber_15 {Q : Sg → Int → Prop} {X : Sg → String → Prop} {th : Nat} (K : MD l R p s m args c cX6_signedNumber 3 RX6 D cA tys A n0 s0 9 153 []) (hQ : CQI p l e R s m args below meth c cX6_signedNumber D cA A n0 s0 QM σi Q) (hX : CX p l e R s m args below meth c 3 D cA A n0 s0 QM σi X) (hTh : CT p l e R s m args below meth c cX6_signedNumber 3 D cA A n0 s0 QM σi RX6 X) : ∀ (σ : Sg) (v1 : Int) (g1 : rng v1), w_X6_signedNumber_15 th Q X σ v1 → RG σ → TY σ → Ext σi σ → kO σ th 6 → JJ p l e R s m args below meth c 3 D cA A n0 s0 QM σ 15 [(0, .ref th), (1, .int (i32 v1))] [] := by
  intro σ v1 g1 h hGσ hYσ hE hth H locs ls hH hl hc
  have B := K.1
  have hl9 := K.2.2.2.2.2.2
  unfold w_X6_signedNumber_15 at h
  refine lv_aload_n B.1 B.2.1 dX6_signedNumber_15 rfl (lv_at hl 0 rfl) ?_
  refine lv_iconst (v := i32 0) B.1 B.2.1 dX6_signedNumber_16 (by decide) ?_
  refine lv_sipush (v := i32 1000) B.1 B.2.1 dX6_signedNumber_17 (by decide) ?_
  refine W.eq (g2 := F0 m 20 ls [.int (i32 1000), .int (i32 0), .ref th]) (rfl) ?_
  refine c_V B hH hl hc K.2.2.1 (C := RX6) (T := TX6) (N := 9) (ci := 6) (As := [.int (i32 0), .int (i32 1000)]) (ok_X6_number hl9 K.2.1 σ th 0 1000 (by unfold rng; omega) (by unfold rng; omega) hth hGσ hYσ h) wc_X6_134 2 hd_X6_number ⟨Nat.le_trans (Nat.le_of_ble_eq_true rfl) K.2.2.2.1, Nat.le_trans (Nat.le_of_ble_eq_true rfl) K.2.2.2.2.1⟩ hth.1 hth.2 (by decide) rfl rfl (rest := []) rfl (Nat.le_of_ble_eq_true rfl) dX6_signedNumber_20 (fun σ11 w hq => ?_) (fun σ9 E9 hx9 => hX σ9 E9 _ _ _ (tb_out K.2.2.2.2.2.1 rfl) hx9.1 hx9.2.1 hx9.2.2.1 (hE.trans hx9.2.2.2))
  obtain ⟨r12, rfl, gr12, h, hGσ11, hYσ11, xσ11⟩ := hq
  have h := h xσ11
  intro H locs ls hH hl hc
  refine W.eq (g2 := F0 m 23 ls [.int (i32 r12)]) (rfl) ?_
  try dsimp only at h
  refine lv_istore_n (lv' := [(2, .int (i32 r12)), (0, .ref th), (1, .int (i32 v1))]) B.1 B.2.1 dX6_signedNumber_23 rfl hl (by decide) rfl (fun ls hl => ?_)
  refine lv_iload_n B.1 B.2.1 dX6_signedNumber_24 rfl (lv_at hl 2 rfl) ?_
  refine lv_if_eq (tgt := 33) B.1 B.2.1 dX6_signedNumber_25 (by decide) (fun h9 => ?_) (fun h9 => ?_)
  · rw [if_pos ((z_eq g1).mp h9)] at h
    exact a_X6_signedNumber_33 K hQ hX hTh _ _ gr12 h hGσ11 hYσ11 (hE.trans xσ11) (hth.up xσ11) _ _ _ hH (lv_sub (l' := [(0, .ref th), (2, .int (i32 r12))]) hl [1, 0] rfl) hc
  · rw [if_neg (fun q => h9 ((z_eq g1).mpr q))] at h
    exact a_X6_signedNumber_28 K hQ hX hTh _ _ gr12 h hGσ11 hYσ11 (hE.trans xσ11) (hth.up xσ11) _ _ _ hH (lv_sub (l' := [(0, .ref th), (2, .int (i32 r12))]) hl [1, 0] rfl) hc
set_option maxRecDepth 20000 in
theorem a_X6_signedNumber_11 {Q : Sg → Int → Prop} {X : Sg → String → Prop} {th : Nat} (K : MD l R p s m args c cX6_signedNumber 3 RX6 D cA tys A n0 s0 9 153 []) (hQ : CQI p l e R s m args below meth c cX6_signedNumber D cA A n0 s0 QM σi Q) (hX : CX p l e R s m args below meth c 3 D cA A n0 s0 QM σi X) (hTh : CT p l e R s m args below meth c cX6_signedNumber 3 D cA A n0 s0 QM σi RX6 X) : ∀ (σ : Sg) (v1 : Int) (g1 : rng v1), w_X6_signedNumber_11 th Q X σ v1 → RG σ → TY σ → Ext σi σ → kO σ th 6 → JJ p l e R s m args below meth c 3 D cA A n0 s0 QM σ 11 [(0, .ref th), (1, .int (i32 v1))] [] := by
  intro σ v1 g1 h hGσ hYσ hE hth H locs ls hH hl hc
  have B := K.1
  have hl9 := K.2.2.2.2.2.2
  unfold w_X6_signedNumber_11 at h
  refine lv_aload_n B.1 B.2.1 dX6_signedNumber_11 rfl (lv_at hl 0 rfl) ?_
  refine W.eq (g2 := F0 m 12 ls [.ref th]) (rfl) ?_
  refine c_V B hH hl hc K.2.2.1 (C := RX6) (T := TX6) (N := 9) (ci := 6) (As := []) (ok_X6_next hl9 K.2.1 σ th hth hGσ hYσ h) wc_X6_40 0 hd_X6_next ⟨Nat.le_trans (Nat.le_of_ble_eq_true rfl) K.2.2.2.1, Nat.le_trans (Nat.le_of_ble_eq_true rfl) K.2.2.2.2.1⟩ hth.1 hth.2 (by decide) rfl rfl (rest := []) rfl (Nat.le_of_ble_eq_true rfl) dX6_signedNumber_12 (fun σ13 w hq => ?_) (fun σ9 E9 hx9 => hX σ9 E9 _ _ _ (tb_out K.2.2.2.2.2.1 rfl) hx9.1 hx9.2.1 hx9.2.2.1 (hE.trans hx9.2.2.2))
  obtain ⟨rfl, h, hGσ13, hYσ13, xσ13⟩ := hq
  have h := h xσ13
  intro H locs ls hH hl hc
  refine W.eq (g2 := F0 m 15 ls []) (rfl) ?_
  try dsimp only at h
  exact a_X6_signedNumber_15 K hQ hX hTh _ _ g1 h hGσ13 hYσ13 (hE.trans xσ13) (hth.up xσ13) _ _ _ hH (lv_sub (l' := [(0, .ref th), (1, .int (i32 v1))]) hl [0, 1] rfl) hc
set_option maxRecDepth 20000 in
theorem a_X6_signedNumber_0 {Q : Sg → Int → Prop} {X : Sg → String → Prop} {th : Nat} (K : MD l R p s m args c cX6_signedNumber 3 RX6 D cA tys A n0 s0 9 153 []) (hQ : CQI p l e R s m args below meth c cX6_signedNumber D cA A n0 s0 QM σi Q) (hX : CX p l e R s m args below meth c 3 D cA A n0 s0 QM σi X) (hTh : CT p l e R s m args below meth c cX6_signedNumber 3 D cA A n0 s0 QM σi RX6 X) : ∀ (σ : Sg), w_X6_signedNumber_0 th Q X σ → RG σ → TY σ → Ext σi σ → kO σ th 6 → JJ p l e R s m args below meth c 3 D cA A n0 s0 QM σ 0 [(0, .ref th)] [] := by
  intro σ h hGσ hYσ hE hth H locs ls hH hl hc
  have B := K.1
  have hl9 := K.2.2.2.2.2.2
  unfold w_X6_signedNumber_0 at h
  refine lv_aload_n B.1 B.2.1 dX6_signedNumber_0 rfl (lv_at hl 0 rfl) ?_
  refine lv_bipush (v := i32 45) B.1 B.2.1 dX6_signedNumber_1 (by decide) ?_
  refine W.eq (g2 := F0 m 3 ls [.int (i32 45), .ref th]) (rfl) ?_
  refine c_V B hH hl hc K.2.2.1 (C := RX6) (T := TX6) (N := 9) (ci := 6) (As := [.int (i32 45)]) (ok_X6_isSign hl9 K.2.1 σ th 45 (by unfold rng; omega) hth hGσ hYσ h) wc_X6_171 1 hd_X6_isSign ⟨Nat.le_trans (Nat.le_of_ble_eq_true rfl) K.2.2.2.1, Nat.le_trans (Nat.le_of_ble_eq_true rfl) K.2.2.2.2.1⟩ hth.1 hth.2 (by decide) rfl rfl (rest := []) rfl (Nat.le_of_ble_eq_true rfl) dX6_signedNumber_3 (fun σ14 w hq => ?_) (fun σ9 E9 hx9 => hX σ9 E9 _ _ _ (tb_out K.2.2.2.2.2.1 rfl) hx9.1 hx9.2.1 hx9.2.2.1 (hE.trans hx9.2.2.2))
  obtain ⟨r15, rfl, ⟨gr15, gzr15⟩, h, hGσ14, hYσ14, xσ14⟩ := hq
  have h := h xσ14
  intro H locs ls hH hl hc
  refine W.eq (g2 := F0 m 6 ls [.int (i32 r15)]) (rfl) ?_
  try dsimp only at h
  refine lv_istore_n (lv' := [(1, .int (i32 r15)), (0, .ref th)]) B.1 B.2.1 dX6_signedNumber_6 rfl hl (by decide) rfl (fun ls hl => ?_)
  refine lv_iload_n B.1 B.2.1 dX6_signedNumber_7 rfl (lv_at hl 0 rfl) ?_
  refine lv_if_eq (tgt := 15) B.1 B.2.1 dX6_signedNumber_8 (by decide) (fun h9 => ?_) (fun h9 => ?_)
  · rw [if_pos ((z_eq gr15).mp h9)] at h
    exact a_X6_signedNumber_15 K hQ hX hTh _ _ gr15 h hGσ14 hYσ14 (hE.trans xσ14) (hth.up xσ14) _ _ _ hH (lv_sub (l' := [(0, .ref th), (1, .int (i32 r15))]) hl [1, 0] rfl) hc
  · rw [if_neg (fun q => h9 ((z_eq gr15).mpr q))] at h
    exact a_X6_signedNumber_11 K hQ hX hTh _ _ gr15 h hGσ14 hYσ14 (hE.trans xσ14) (hth.up xσ14) _ _ _ hH (lv_sub (l' := [(0, .ref th), (1, .int (i32 r15))]) hl [1, 0] rfl) hc
theorem ok_X6_signedNumber (hl0 : l.stackTraces = false) (hT : TyC cA tys) {Q : Sg → Int → Prop} {X : Sg → String → Prop} (σ : Sg) (th : Nat) (hth : kO σ th 6) (hG : RG σ) (hY : TY σ) (h : wp_X6_signedNumber th σ Q X) : Ok l D cA tys A yX6_signedNumber (.code yX6_signedNumber cX6_signedNumber 3 (some .int)) 9 153 [.ref th] σ (QcI σ Q) (QxC σ X) := by
  unfold wp_X6_signedNumber at h
  exact oc_I hl0 (by decide) (by exact Nat.le_of_ble_eq_true rfl) hT (fun p e R s m args below meth c K hQ hX hTh H locs ls hH hl hc => a_X6_signedNumber_0 K hQ hX hTh σ h hG hY (Ext.rfl' σ) hth H locs ls hH (lv_sub (l' := [(0, .ref th)]) hl [0] rfl) hc)
theorem dX6_pairText_0 : decode cX6_pairText 0 = .ok (.aload_n 0, 1) := by decide +kernel
theorem dX6_pairText_1 : decode cX6_pairText 1 = .ok (.invokevirtual 40, 3) := by decide +kernel
theorem dX6_pairText_4 : decode cX6_pairText 4 = .ok (.aload_n 0, 1) := by decide +kernel
theorem dX6_pairText_5 : decode cX6_pairText 5 = .ok (.iload_n 1, 1) := by decide +kernel
theorem dX6_pairText_6 : decode cX6_pairText 6 = .ok (.invokevirtual 152, 3) := by decide +kernel
theorem dX6_pairText_9 : decode cX6_pairText 9 = .ok (.aload_n 0, 1) := by decide +kernel
theorem dX6_pairText_10 : decode cX6_pairText 10 = .ok (.invokevirtual 40, 3) := by decide +kernel
theorem dX6_pairText_13 : decode cX6_pairText 13 = .ok (.aload_n 0, 1) := by decide +kernel
theorem dX6_pairText_14 : decode cX6_pairText 14 = .ok (.getfield 31, 3) := by decide +kernel
theorem dX6_pairText_17 : decode cX6_pairText 17 = .ok (.getfield 84, 3) := by decide +kernel
theorem dX6_pairText_20 : decode cX6_pairText 20 = .ok (.aload_n 0, 1) := by decide +kernel
theorem dX6_pairText_21 : decode cX6_pairText 21 = .ok (.getfield 88, 3) := by decide +kernel
theorem dX6_pairText_24 : decode cX6_pairText 24 = .ok (.getfield 155, 3) := by decide +kernel
theorem dX6_pairText_27 : decode cX6_pairText 27 = .ok (.aaload, 1) := by decide +kernel
theorem dX6_pairText_28 : decode cX6_pairText 28 = .ok (.astore_n 2, 1) := by decide +kernel
theorem dX6_pairText_29 : decode cX6_pairText 29 = .ok (.aload_n 0, 1) := by decide +kernel
theorem dX6_pairText_30 : decode cX6_pairText 30 = .ok (.getfield 88, 3) := by decide +kernel
theorem dX6_pairText_33 : decode cX6_pairText 33 = .ok (.aload_n 0, 1) := by decide +kernel
theorem dX6_pairText_34 : decode cX6_pairText 34 = .ok (.invokevirtual 174, 3) := by decide +kernel
theorem dX6_pairText_37 : decode cX6_pairText 37 = .ok (.putfield 178, 3) := by decide +kernel
theorem dX6_pairText_40 : decode cX6_pairText 40 = .ok (.aload_n 0, 1) := by decide +kernel
theorem dX6_pairText_41 : decode cX6_pairText 41 = .ok (.getfield 31, 3) := by decide +kernel
theorem dX6_pairText_44 : decode cX6_pairText 44 = .ok (.getfield 84, 3) := by decide +kernel
theorem dX6_pairText_47 : decode cX6_pairText 47 = .ok (.aload_n 0, 1) := by decide +kernel
theorem dX6_pairText_48 : decode cX6_pairText 48 = .ok (.getfield 88, 3) := by decide +kernel
theorem dX6_pairText_51 : decode cX6_pairText 51 = .ok (.getfield 178, 3) := by decide +kernel
theorem dX6_pairText_54 : decode cX6_pairText 54 = .ok (.aaload, 1) := by decide +kernel
theorem dX6_pairText_55 : decode cX6_pairText 55 = .ok (.astore_n 3, 1) := by decide +kernel
theorem dX6_pairText_56 : decode cX6_pairText 56 = .ok (.aload_n 2, 1) := by decide +kernel
theorem dX6_pairText_57 : decode cX6_pairText 57 = .ok (.aload_n 3, 1) := by decide +kernel
theorem dX6_pairText_58 : decode cX6_pairText 58 = .ok (.invokevirtual 211, 3) := by decide +kernel
theorem dX6_pairText_61 : decode cX6_pairText 61 = .ok (.ifCond .eq 9, 3) := by decide +kernel
theorem dX6_pairText_64 : decode cX6_pairText 64 = .ok (.aload_n 0, 1) := by decide +kernel
theorem dX6_pairText_65 : decode cX6_pairText 65 = .ok (.bipush 6, 2) := by decide +kernel
theorem dX6_pairText_67 : decode cX6_pairText 67 = .ok (.invokevirtual 81, 3) := by decide +kernel
theorem dX6_pairText_70 : decode cX6_pairText 70 = .ok (.aload_n 2, 1) := by decide +kernel
theorem dX6_pairText_71 : decode cX6_pairText 71 = .ok (.getfield 214, 3) := by decide +kernel
theorem dX6_pairText_74 : decode cX6_pairText 74 = .ok (.aload_n 3, 1) := by decide +kernel
theorem dX6_pairText_75 : decode cX6_pairText 75 = .ok (.getfield 214, 3) := by decide +kernel
theorem dX6_pairText_78 : decode cX6_pairText 78 = .ok (.iadd, 1) := by decide +kernel
theorem dX6_pairText_79 : decode cX6_pairText 79 = .ok (.bipush 8, 2) := by decide +kernel
theorem dX6_pairText_81 : decode cX6_pairText 81 = .ok (.if_icmp .le 9, 3) := by decide +kernel
theorem dX6_pairText_84 : decode cX6_pairText 84 = .ok (.aload_n 0, 1) := by decide +kernel
theorem dX6_pairText_85 : decode cX6_pairText 85 = .ok (.bipush 8, 2) := by decide +kernel
theorem dX6_pairText_87 : decode cX6_pairText 87 = .ok (.invokevirtual 81, 3) := by decide +kernel
theorem dX6_pairText_90 : decode cX6_pairText 90 = .ok (.aload_n 0, 1) := by decide +kernel
theorem dX6_pairText_91 : decode cX6_pairText 91 = .ok (.getfield 88, 3) := by decide +kernel
theorem dX6_pairText_94 : decode cX6_pairText 94 = .ok (.aload_n 2, 1) := by decide +kernel
theorem dX6_pairText_95 : decode cX6_pairText 95 = .ok (.invokevirtual 158, 3) := by decide +kernel
theorem dX6_pairText_98 : decode cX6_pairText 98 = .ok (.aload_n 0, 1) := by decide +kernel
theorem dX6_pairText_99 : decode cX6_pairText 99 = .ok (.getfield 88, 3) := by decide +kernel
theorem dX6_pairText_102 : decode cX6_pairText 102 = .ok (.aload_n 3, 1) := by decide +kernel
theorem dX6_pairText_103 : decode cX6_pairText 103 = .ok (.invokevirtual 158, 3) := by decide +kernel
theorem dX6_pairText_106 : decode cX6_pairText 106 = .ok (.aload_n 0, 1) := by decide +kernel
theorem dX6_pairText_107 : decode cX6_pairText 107 = .ok (.invokevirtual 40, 3) := by decide +kernel
theorem dX6_pairText_110 : decode cX6_pairText 110 = .ok (.aload_n 0, 1) := by decide +kernel
theorem dX6_pairText_111 : decode cX6_pairText 111 = .ok (.bipush 6, 2) := by decide +kernel
theorem dX6_pairText_113 : decode cX6_pairText 113 = .ok (.invokevirtual 146, 3) := by decide +kernel
theorem dX6_pairText_116 : decode cX6_pairText 116 = .ok (.aload_n 0, 1) := by decide +kernel
theorem dX6_pairText_117 : decode cX6_pairText 117 = .ok (.getfield 88, 3) := by decide +kernel
theorem dX6_pairText_120 : decode cX6_pairText 120 = .ok (.aload_n 0, 1) := by decide +kernel
theorem dX6_pairText_121 : decode cX6_pairText 121 = .ok (.aload_n 2, 1) := by decide +kernel
theorem dX6_pairText_122 : decode cX6_pairText 122 = .ok (.invokevirtual 185, 3) := by decide +kernel
theorem dX6_pairText_125 : decode cX6_pairText 125 = .ok (.putfield 189, 3) := by decide +kernel
theorem dX6_pairText_128 : decode cX6_pairText 128 = .ok (.aload_n 0, 1) := by decide +kernel
theorem dX6_pairText_129 : decode cX6_pairText 129 = .ok (.invokevirtual 40, 3) := by decide +kernel
theorem dX6_pairText_132 : decode cX6_pairText 132 = .ok (.aload_n 0, 1) := by decide +kernel
theorem dX6_pairText_133 : decode cX6_pairText 133 = .ok (.getfield 88, 3) := by decide +kernel
theorem dX6_pairText_136 : decode cX6_pairText 136 = .ok (.aload_n 0, 1) := by decide +kernel
theorem dX6_pairText_137 : decode cX6_pairText 137 = .ok (.aload_n 3, 1) := by decide +kernel
theorem dX6_pairText_138 : decode cX6_pairText 138 = .ok (.invokevirtual 185, 3) := by decide +kernel
theorem dX6_pairText_141 : decode cX6_pairText 141 = .ok (.putfield 217, 3) := by decide +kernel
theorem dX6_pairText_144 : decode cX6_pairText 144 = .ok (.aload_n 0, 1) := by decide +kernel
theorem dX6_pairText_145 : decode cX6_pairText 145 = .ok (.invokevirtual 40, 3) := by decide +kernel
theorem dX6_pairText_148 : decode cX6_pairText 148 = .ok (.iload_n 1, 1) := by decide +kernel
theorem dX6_pairText_149 : decode cX6_pairText 149 = .ok (.bipush 6, 2) := by decide +kernel
theorem dX6_pairText_151 : decode cX6_pairText 151 = .ok (.if_icmp .ne 62, 3) := by decide +kernel
theorem dX6_pairText_154 : decode cX6_pairText 154 = .ok (.aload_n 0, 1) := by decide +kernel
theorem dX6_pairText_155 : decode cX6_pairText 155 = .ok (.bipush 11, 2) := by decide +kernel
theorem dX6_pairText_157 : decode cX6_pairText 157 = .ok (.invokevirtual 146, 3) := by decide +kernel
theorem dX6_pairText_160 : decode cX6_pairText 160 = .ok (.aload_n 0, 1) := by decide +kernel
theorem dX6_pairText_161 : decode cX6_pairText 161 = .ok (.getfield 88, 3) := by decide +kernel
theorem dX6_pairText_164 : decode cX6_pairText 164 = .ok (.aload_n 0, 1) := by decide +kernel
theorem dX6_pairText_165 : decode cX6_pairText 165 = .ok (.invokevirtual 220, 3) := by decide +kernel
theorem dX6_pairText_168 : decode cX6_pairText 168 = .ok (.putfield 223, 3) := by decide +kernel
theorem dX6_pairText_171 : decode cX6_pairText 171 = .ok (.aload_n 0, 1) := by decide +kernel
theorem dX6_pairText_172 : decode cX6_pairText 172 = .ok (.invokevirtual 40, 3) := by decide +kernel
theorem dX6_pairText_175 : decode cX6_pairText 175 = .ok (.aload_n 0, 1) := by decide +kernel
theorem dX6_pairText_176 : decode cX6_pairText 176 = .ok (.getfield 88, 3) := by decide +kernel
theorem dX6_pairText_179 : decode cX6_pairText 179 = .ok (.aload_n 0, 1) := by decide +kernel
theorem dX6_pairText_180 : decode cX6_pairText 180 = .ok (.invokevirtual 220, 3) := by decide +kernel
theorem dX6_pairText_183 : decode cX6_pairText 183 = .ok (.putfield 226, 3) := by decide +kernel
theorem dX6_pairText_186 : decode cX6_pairText 186 = .ok (.aload_n 0, 1) := by decide +kernel
theorem dX6_pairText_187 : decode cX6_pairText 187 = .ok (.getfield 88, 3) := by decide +kernel
theorem dX6_pairText_190 : decode cX6_pairText 190 = .ok (.getfield 223, 3) := by decide +kernel
theorem dX6_pairText_193 : decode cX6_pairText 193 = .ok (.aload_n 0, 1) := by decide +kernel
theorem dX6_pairText_194 : decode cX6_pairText 194 = .ok (.getfield 88, 3) := by decide +kernel
theorem dX6_pairText_197 : decode cX6_pairText 197 = .ok (.getfield 226, 3) := by decide +kernel
theorem dX6_pairText_200 : decode cX6_pairText 200 = .ok (.if_icmp .le 9, 3) := by decide +kernel
theorem dX6_pairText_203 : decode cX6_pairText 203 = .ok (.aload_n 0, 1) := by decide +kernel
theorem dX6_pairText_204 : decode cX6_pairText 204 = .ok (.bipush 7, 2) := by decide +kernel
theorem dX6_pairText_206 : decode cX6_pairText 206 = .ok (.invokevirtual 81, 3) := by decide +kernel
theorem dX6_pairText_209 : decode cX6_pairText 209 = .ok (.aload_n 0, 1) := by decide +kernel
theorem dX6_pairText_210 : decode cX6_pairText 210 = .ok (.invokevirtual 40, 3) := by decide +kernel
theorem dX6_pairText_213 : decode cX6_pairText 213 = .ok (.return_, 1) := by decide +kernel
set_option maxRecDepth 20000 in
theorem a_X6_pairText_213 {Q : Sg → Unit → Prop} {X : Sg → String → Prop} {th : Nat} (K : MD l R p s m args c cX6_pairText 4 RX6 D cA tys A n0 s0 10 175 []) (hQ : CQV p l e R s m args below meth c cX6_pairText D cA A n0 s0 QM σi Q) (hX : CX p l e R s m args below meth c 4 D cA A n0 s0 QM σi X) (hTh : CT p l e R s m args below meth c cX6_pairText 4 D cA A n0 s0 QM σi RX6 X) : ∀ (σ : Sg), w_X6_pairText_213 th Q X σ → RG σ → TY σ → Ext σi σ → kO σ th 6 → JJ p l e R s m args below meth c 4 D cA A n0 s0 QM σ 213 [(0, .ref th)] [] := by
  intro σ h hGσ hYσ hE hth H locs ls hH hl hc
  have B := K.1
  have hl9 := K.2.2.2.2.2.2
  unfold w_X6_pairText_213 at h
  exact hQ _ _ _ _ _ dX6_pairText_213 hH hc h hGσ hYσ hE
set_option maxRecDepth 20000 in
theorem a_X6_pairText_209 {Q : Sg → Unit → Prop} {X : Sg → String → Prop} {th : Nat} (K : MD l R p s m args c cX6_pairText 4 RX6 D cA tys A n0 s0 10 175 []) (hQ : CQV p l e R s m args below meth c cX6_pairText D cA A n0 s0 QM σi Q) (hX : CX p l e R s m args below meth c 4 D cA A n0 s0 QM σi X) (hTh : CT p l e R s m args below meth c cX6_pairText 4 D cA A n0 s0 QM σi RX6 X) : ∀ (σ : Sg), w_X6_pairText_209 th Q X σ → RG σ → TY σ → Ext σi σ → kO σ th 6 → JJ p l e R s m args below meth c 4 D cA A n0 s0 QM σ 209 [(0, .ref th)] [] := by
  intro σ h hGσ hYσ hE hth H locs ls hH hl hc
  have B := K.1
  have hl9 := K.2.2.2.2.2.2
  unfold w_X6_pairText_209 at h
  refine lv_aload_n B.1 B.2.1 dX6_pairText_209 rfl (lv_at hl 0 rfl) ?_
  refine W.eq (g2 := F0 m 210 ls [.ref th]) (rfl) ?_
  refine c_V B hH hl hc K.2.2.1 (C := RX6) (T := TX6) (N := 9) (ci := 6) (As := []) (ok_X6_next hl9 K.2.1 σ th hth hGσ hYσ h) wc_X6_40 0 hd_X6_next ⟨Nat.le_trans (Nat.le_of_ble_eq_true rfl) K.2.2.2.1, Nat.le_trans (Nat.le_of_ble_eq_true rfl) K.2.2.2.2.1⟩ hth.1 hth.2 (by decide) rfl rfl (rest := []) rfl (Nat.le_of_ble_eq_true rfl) dX6_pairText_210 (fun σ97 w hq => ?_) (fun σ9 E9 hx9 => hX σ9 E9 _ _ _ (tb_out K.2.2.2.2.2.1 rfl) hx9.1 hx9.2.1 hx9.2.2.1 (hE.trans hx9.2.2.2))
  obtain ⟨rfl, h, hGσ97, hYσ97, xσ97⟩ := hq
  have h := h xσ97
  intro H locs ls hH hl hc
  refine W.eq (g2 := F0 m 213 ls []) (rfl) ?_
  try dsimp only at h
  exact a_X6_pairText_213 K hQ hX hTh _ h hGσ97 hYσ97 (hE.trans xσ97) (hth.up xσ97) _ _ _ hH (lv_sub (l' := [(0, .ref th)]) hl [0] rfl) hc
set_option maxRecDepth 20000 in
theorem a_X6_pairText_203 {Q : Sg → Unit → Prop} {X : Sg → String → Prop} {th : Nat} (K : MD l R p s m args c cX6_pairText 4 RX6 D cA tys A n0 s0 10 175 []) (hQ : CQV p l e R s m args below meth c cX6_pairText D cA A n0 s0 QM σi Q) (hX : CX p l e R s m args below meth c 4 D cA A n0 s0 QM σi X) (hTh : CT p l e R s m args below meth c cX6_pairText 4 D cA A n0 s0 QM σi RX6 X) : ∀ (σ : Sg), w_X6_pairText_203 th Q X σ → RG σ → TY σ → Ext σi σ → kO σ th 6 → JJ p l e R s m args below meth c 4 D cA A n0 s0 QM σ 203 [(0, .ref th)] [] := by
  intro σ h hGσ hYσ hE hth H locs ls hH hl hc
  have B := K.1
  have hl9 := K.2.2.2.2.2.2
  unfold w_X6_pairText_203 at h
  refine lv_aload_n B.1 B.2.1 dX6_pairText_203 rfl (lv_at hl 0 rfl) ?_
  refine lv_bipush (v := i32 7) B.1 B.2.1 dX6_pairText_204 (by decide) ?_
  refine W.eq (g2 := F0 m 206 ls [.int (i32 7), .ref th]) (rfl) ?_
  refine c_V B hH hl hc K.2.2.1 (C := RX6) (T := TX6) (N := 9) (ci := 6) (As := [.int (i32 7)]) (ok_X6_refuse hl9 K.2.1 σ th 7 (by unfold rng; omega) hth hGσ hYσ h) wc_X6_81 1 hd_X6_refuse ⟨Nat.le_trans (Nat.le_of_ble_eq_true rfl) K.2.2.2.1, Nat.le_trans (Nat.le_of_ble_eq_true rfl) K.2.2.2.2.1⟩ hth.1 hth.2 (by decide) rfl rfl (rest := []) rfl (Nat.le_of_ble_eq_true rfl) dX6_pairText_206 (fun σ98 w hq => ?_) (fun σ9 E9 hx9 => hX σ9 E9 _ _ _ (tb_out K.2.2.2.2.2.1 rfl) hx9.1 hx9.2.1 hx9.2.2.1 (hE.trans hx9.2.2.2))
  obtain ⟨rfl, h, hGσ98, hYσ98, xσ98⟩ := hq
  have h := h xσ98
  intro H locs ls hH hl hc
  refine W.eq (g2 := F0 m 209 ls []) (rfl) ?_
  try dsimp only at h
  exact a_X6_pairText_209 K hQ hX hTh _ h hGσ98 hYσ98 (hE.trans xσ98) (hth.up xσ98) _ _ _ hH (lv_sub (l' := [(0, .ref th)]) hl [0] rfl) hc
set_option maxRecDepth 20000 in
theorem a_X6_pairText_154 {Q : Sg → Unit → Prop} {X : Sg → String → Prop} {th : Nat} (K : MD l R p s m args c cX6_pairText 4 RX6 D cA tys A n0 s0 10 175 []) (hQ : CQV p l e R s m args below meth c cX6_pairText D cA A n0 s0 QM σi Q) (hX : CX p l e R s m args below meth c 4 D cA A n0 s0 QM σi X) (hTh : CT p l e R s m args below meth c cX6_pairText 4 D cA A n0 s0 QM σi RX6 X) : ∀ (σ : Sg), w_X6_pairText_154 th Q X σ → RG σ → TY σ → Ext σi σ → kO σ th 6 → JJ p l e R s m args below meth c 4 D cA A n0 s0 QM σ 154 [(0, .ref th)] [] := by
  intro σ h hGσ hYσ hE hth H locs ls hH hl hc
  have B := K.1
  have hl9 := K.2.2.2.2.2.2
  unfold w_X6_pairText_154 at h
  refine lv_aload_n B.1 B.2.1 dX6_pairText_154 rfl (lv_at hl 0 rfl) ?_
  refine lv_bipush (v := i32 11) B.1 B.2.1 dX6_pairText_155 (by decide) ?_
  refine W.eq (g2 := F0 m 157 ls [.int (i32 11), .ref th]) (rfl) ?_
  refine c_V B hH hl hc K.2.2.1 (C := RX6) (T := TX6) (N := 9) (ci := 6) (As := [.int (i32 11)]) (ok_X6_wantWord hl9 K.2.1 σ th 11 (by unfold rng; omega) hth hGσ hYσ h) wc_X6_146 1 hd_X6_wantWord ⟨Nat.le_trans (Nat.le_of_ble_eq_true rfl) K.2.2.2.1, Nat.le_trans (Nat.le_of_ble_eq_true rfl) K.2.2.2.2.1⟩ hth.1 hth.2 (by decide) rfl rfl (rest := []) rfl (Nat.le_of_ble_eq_true rfl) dX6_pairText_157 (fun σ99 w hq => ?_) (fun σ9 E9 hx9 => hX σ9 E9 _ _ _ (tb_out K.2.2.2.2.2.1 rfl) hx9.1 hx9.2.1 hx9.2.2.1 (hE.trans hx9.2.2.2))
  obtain ⟨rfl, h, hGσ99, hYσ99, xσ99⟩ := hq
  have h := h xσ99
  intro H locs ls hH hl hc
  refine W.eq (g2 := F0 m 160 ls []) (rfl) ?_
  try dsimp only at h
  refine lv_aload_n B.1 B.2.1 dX6_pairText_160 rfl (lv_at hl 0 rfl) ?_
  refine f_getp B hH (hth.up xσ99) (by decide) rfl wu_X6 8 (by decide) wf_X6_88 rfl rfl dX6_pairText_161 ?_
  refine lv_aload_n B.1 B.2.1 dX6_pairText_164 rfl (lv_at hl 0 rfl) ?_
  refine W.eq (g2 := F0 m 165 ls [.ref th, va_rf (gP σ99 th 8)]) (rfl) ?_
  refine c_V B hH hl hc K.2.2.1 (C := RX6) (T := TX6) (N := 9) (ci := 6) (As := []) (ok_X6_signedNumber hl9 K.2.1 σ99 th (hth.up xσ99) hGσ99 hYσ99 h) wc_X6_220 0 hd_X6_signedNumber ⟨Nat.le_trans (Nat.le_of_ble_eq_true rfl) K.2.2.2.1, Nat.le_trans (Nat.le_of_ble_eq_true rfl) K.2.2.2.2.1⟩ (hth.up xσ99).1 (hth.up xσ99).2 (by decide) rfl rfl (rest := [va_rf (gP σ99 th 8)]) rfl (by simp only [List.map_cons, List.map_nil, rf_cat]; exact Nat.le_of_ble_eq_true rfl) dX6_pairText_165 (fun σ100 w hq => ?_) (fun σ9 E9 hx9 => hX σ9 E9 _ _ _ (tb_out K.2.2.2.2.2.1 rfl) hx9.1 hx9.2.1 hx9.2.2.1 ((hE.trans xσ99).trans hx9.2.2.2))
  obtain ⟨r101, rfl, gr101, h, hGσ100, hYσ100, xσ100⟩ := hq
  have h := h xσ100
  intro H locs ls hH hl hc
  refine W.eq (g2 := F0 m 168 ls [.int (i32 r101), va_rf (gP σ99 th 8)]) (rfl) ?_
  try dsimp only at h
  obtain ⟨a102, ea102, h⟩ := h
  have ka102 : kO σ100 a102 5 := ((hYσ99.get (hth.up xσ99) (by decide)).up xσ100) a102 ea102
  have h := h ka102
  obtain ⟨σ103, eσ103⟩ : ∃ z, z = pI σ100 a102 15 r101 := ⟨_, rfl⟩
  have h := h σ103 eσ103
  refine W.eq (g2 := F0 m 168 ls [.int (i32 r101), .ref a102]) (by rw [ea102]; rfl) ?_
  refine f_puti B hH ka102 (by decide) rfl wu_X5 tyX5 tyX5_ok nmX5 15 (by decide) wf_X6_223 rfl (ty := .int) rfl rfl rfl rfl rfl dX6_pairText_168 (fun H locs hH => ?_)
  have hH : Hd D cA A s (pI σ100 a102 15 r101) H locs := hH
  rw [← eσ103] at hH
  have hGσ103 : RG σ103 := by rw [eσ103]; exact hGσ100.pI gr101
  have hYσ103 : TY σ103 := by rw [eσ103]; exact hYσ100.pI
  have xσ103 : Ext σ100 σ103 := by rw [eσ103]; exact Ext.pI
  have hc : CB n0 s0 σ103 := by rw [eσ103]; exact hc
  rw [show gc σ100 = gc σ103 by rw [eσ103]; try rfl, show gs σ100 = gs σ103 by rw [eσ103]; try rfl]
  refine lv_aload_n B.1 B.2.1 dX6_pairText_171 rfl (lv_at hl 0 rfl) ?_
  refine W.eq (g2 := F0 m 172 ls [.ref th]) (rfl) ?_
  refine c_V B hH hl hc K.2.2.1 (C := RX6) (T := TX6) (N := 9) (ci := 6) (As := []) (ok_X6_next hl9 K.2.1 σ103 th (hth.up (xσ99.trans (xσ100.trans xσ103))) hGσ103 hYσ103 h) wc_X6_40 0 hd_X6_next ⟨Nat.le_trans (Nat.le_of_ble_eq_true rfl) K.2.2.2.1, Nat.le_trans (Nat.le_of_ble_eq_true rfl) K.2.2.2.2.1⟩ (hth.up (xσ99.trans (xσ100.trans xσ103))).1 (hth.up (xσ99.trans (xσ100.trans xσ103))).2 (by decide) rfl rfl (rest := []) rfl (Nat.le_of_ble_eq_true rfl) dX6_pairText_172 (fun σ104 w hq => ?_) (fun σ9 E9 hx9 => hX σ9 E9 _ _ _ (tb_out K.2.2.2.2.2.1 rfl) hx9.1 hx9.2.1 hx9.2.2.1 ((((hE.trans xσ99).trans xσ100).trans xσ103).trans hx9.2.2.2))
  obtain ⟨rfl, h, hGσ104, hYσ104, xσ104⟩ := hq
  have h := h xσ104
  intro H locs ls hH hl hc
  refine W.eq (g2 := F0 m 175 ls []) (rfl) ?_
  try dsimp only at h
  refine lv_aload_n B.1 B.2.1 dX6_pairText_175 rfl (lv_at hl 0 rfl) ?_
  refine f_getp B hH (hth.up (xσ99.trans (xσ100.trans (xσ103.trans xσ104)))) (by decide) rfl wu_X6 8 (by decide) wf_X6_88 rfl rfl dX6_pairText_176 ?_
  refine lv_aload_n B.1 B.2.1 dX6_pairText_179 rfl (lv_at hl 0 rfl) ?_
  refine W.eq (g2 := F0 m 180 ls [.ref th, va_rf (gP σ104 th 8)]) (rfl) ?_
  refine c_V B hH hl hc K.2.2.1 (C := RX6) (T := TX6) (N := 9) (ci := 6) (As := []) (ok_X6_signedNumber hl9 K.2.1 σ104 th (hth.up (xσ99.trans (xσ100.trans (xσ103.trans xσ104)))) hGσ104 hYσ104 h) wc_X6_220 0 hd_X6_signedNumber ⟨Nat.le_trans (Nat.le_of_ble_eq_true rfl) K.2.2.2.1, Nat.le_trans (Nat.le_of_ble_eq_true rfl) K.2.2.2.2.1⟩ (hth.up (xσ99.trans (xσ100.trans (xσ103.trans xσ104)))).1 (hth.up (xσ99.trans (xσ100.trans (xσ103.trans xσ104)))).2 (by decide) rfl rfl (rest := [va_rf (gP σ104 th 8)]) rfl (by simp only [List.map_cons, List.map_nil, rf_cat]; exact Nat.le_of_ble_eq_true rfl) dX6_pairText_180 (fun σ105 w hq => ?_) (fun σ9 E9 hx9 => hX σ9 E9 _ _ _ (tb_out K.2.2.2.2.2.1 rfl) hx9.1 hx9.2.1 hx9.2.2.1 (((((hE.trans xσ99).trans xσ100).trans xσ103).trans xσ104).trans hx9.2.2.2))
  obtain ⟨r106, rfl, gr106, h, hGσ105, hYσ105, xσ105⟩ := hq
  have h := h xσ105
  intro H locs ls hH hl hc
  refine W.eq (g2 := F0 m 183 ls [.int (i32 r106), va_rf (gP σ104 th 8)]) (rfl) ?_
  try dsimp only at h
  obtain ⟨a107, ea107, h⟩ := h
  have ka107 : kO σ105 a107 5 := ((hYσ104.get (hth.up (xσ99.trans (xσ100.trans (xσ103.trans xσ104)))) (by decide)).up xσ105) a107 ea107
  have h := h ka107
  obtain ⟨σ108, eσ108⟩ : ∃ z, z = pI σ105 a107 16 r106 := ⟨_, rfl⟩
  have h := h σ108 eσ108
  refine W.eq (g2 := F0 m 183 ls [.int (i32 r106), .ref a107]) (by rw [ea107]; rfl) ?_
  refine f_puti B hH ka107 (by decide) rfl wu_X5 tyX5 tyX5_ok nmX5 16 (by decide) wf_X6_226 rfl (ty := .int) rfl rfl rfl rfl rfl dX6_pairText_183 (fun H locs hH => ?_)
  have hH : Hd D cA A s (pI σ105 a107 16 r106) H locs := hH
  rw [← eσ108] at hH
  have hGσ108 : RG σ108 := by rw [eσ108]; exact hGσ105.pI gr106
  have hYσ108 : TY σ108 := by rw [eσ108]; exact hYσ105.pI
  have xσ108 : Ext σ105 σ108 := by rw [eσ108]; exact Ext.pI
  have hc : CB n0 s0 σ108 := by rw [eσ108]; exact hc
  rw [show gc σ105 = gc σ108 by rw [eσ108]; try rfl, show gs σ105 = gs σ108 by rw [eσ108]; try rfl]
  refine lv_aload_n B.1 B.2.1 dX6_pairText_186 rfl (lv_at hl 0 rfl) ?_
  refine f_getp B hH (hth.up (xσ99.trans (xσ100.trans (xσ103.trans (xσ104.trans (xσ105.trans xσ108)))))) (by decide) rfl wu_X6 8 (by decide) wf_X6_88 rfl rfl dX6_pairText_187 ?_
  obtain ⟨a109, ea109, h⟩ := h
  have ka109 : kO σ108 a109 5 := (hYσ108.get (hth.up (xσ99.trans (xσ100.trans (xσ103.trans (xσ104.trans (xσ105.trans xσ108)))))) (by decide)) a109 ea109
  have h := h ka109
  refine W.eq (g2 := F0 m 190 ls [.ref a109]) (by rw [ea109]; rfl) ?_
  refine f_geti B hH ka109 (by decide) rfl wu_X5 15 (by decide) wf_X6_223 rfl rfl dX6_pairText_190 ?_
  refine lv_aload_n B.1 B.2.1 dX6_pairText_193 rfl (lv_at hl 0 rfl) ?_
  refine f_getp B hH (hth.up (xσ99.trans (xσ100.trans (xσ103.trans (xσ104.trans (xσ105.trans xσ108)))))) (by decide) rfl wu_X6 8 (by decide) wf_X6_88 rfl rfl dX6_pairText_194 ?_
  refine W.eq (g2 := F0 m 197 ls [.ref a109, .int (i32 (gI σ108 a109 15))]) (by rw [ea109]; rfl) ?_
  refine f_geti B hH ka109 (by decide) rfl wu_X5 16 (by decide) wf_X6_226 rfl rfl dX6_pairText_197 ?_
  refine lv_icmp_le (tgt := 209) B.1 B.2.1 dX6_pairText_200 (by decide) (fun h9 => ?_) (fun h9 => ?_)
  · rw [if_pos ((i32_le (hGσ108 _ _) (hGσ108 _ _)).mp h9)] at h
    exact a_X6_pairText_209 K hQ hX hTh _ h hGσ108 hYσ108 ((((((hE.trans xσ99).trans xσ100).trans xσ103).trans xσ104).trans xσ105).trans xσ108) (hth.up (xσ99.trans (xσ100.trans (xσ103.trans (xσ104.trans (xσ105.trans xσ108)))))) _ _ _ hH (lv_sub (l' := [(0, .ref th)]) hl [0] rfl) hc
  · rw [if_neg (fun q => h9 ((i32_le (hGσ108 _ _) (hGσ108 _ _)).mpr q))] at h
    exact a_X6_pairText_203 K hQ hX hTh _ h hGσ108 hYσ108 ((((((hE.trans xσ99).trans xσ100).trans xσ103).trans xσ104).trans xσ105).trans xσ108) (hth.up (xσ99.trans (xσ100.trans (xσ103.trans (xσ104.trans (xσ105.trans xσ108)))))) _ _ _ hH (lv_sub (l' := [(0, .ref th)]) hl [0] rfl) hc
set_option maxRecDepth 20000 in
theorem a_X6_pairText_90 {Q : Sg → Unit → Prop} {X : Sg → String → Prop} {th : Nat} (K : MD l R p s m args c cX6_pairText 4 RX6 D cA tys A n0 s0 10 175 []) (hQ : CQV p l e R s m args below meth c cX6_pairText D cA A n0 s0 QM σi Q) (hX : CX p l e R s m args below meth c 4 D cA A n0 s0 QM σi X) (hTh : CT p l e R s m args below meth c cX6_pairText 4 D cA A n0 s0 QM σi RX6 X) : ∀ (σ : Sg) (v1 : Int) (v2 : Option Nat) (v3 : Option Nat) (g1 : rng v1) (g2 : tyV σ 5 v2) (g3 : tyV σ 5 v3), w_X6_pairText_90 th Q X σ v1 v2 v3 → RG σ → TY σ → Ext σi σ → kO σ th 6 → JJ p l e R s m args below meth c 4 D cA A n0 s0 QM σ 90 [(0, .ref th), (1, .int (i32 v1)), (2, va_rf v2), (3, va_rf v3)] [] := by
  intro σ v1 v2 v3 g1 g2 g3 h hGσ hYσ hE hth H locs ls hH hl hc
  have B := K.1
  have hl9 := K.2.2.2.2.2.2
  unfold w_X6_pairText_90 at h
  refine lv_aload_n B.1 B.2.1 dX6_pairText_90 rfl (lv_at hl 0 rfl) ?_
  refine f_getp B hH hth (by decide) rfl wu_X6 8 (by decide) wf_X6_88 rfl rfl dX6_pairText_91 ?_
  refine lv_aload_nQ B.1 B.2.1 dX6_pairText_94 rfl (lv_at hl 2 rfl) ?_
  obtain ⟨a111, ea111, h⟩ := h
  have ka111 : kO σ a111 5 := (hYσ.get hth (by decide)) a111 ea111
  have h := h ka111
  refine W.eq (g2 := F0 m 95 ls [va_rf v2, .ref a111]) (by rw [ea111]; rfl) ?_
  refine c_V B hH hl hc K.2.2.1 (C := RX5) (T := TX5) (N := 17) (ci := 5) (As := [va_rf v2]) (ok_X5_addColumnsOf hl9 K.2.1 σ a111 v2 g2 ka111 hGσ hYσ h) wc_X6_158 1 hd_X5_addColumnsOf ⟨Nat.le_trans (Nat.le_of_ble_eq_true rfl) K.2.2.2.1, Nat.le_trans (Nat.le_of_ble_eq_true rfl) K.2.2.2.2.1⟩ ka111.1 ka111.2 (by decide) rfl rfl (rest := []) rfl (Nat.le_of_ble_eq_true rfl) dX6_pairText_95 (fun σ110 w hq => ?_) (fun σ9 E9 hx9 => hX σ9 E9 _ _ _ (tb_out K.2.2.2.2.2.1 rfl) hx9.1 hx9.2.1 hx9.2.2.1 (hE.trans hx9.2.2.2))
  obtain ⟨rfl, h, hGσ110, hYσ110, xσ110⟩ := hq
  have h := h xσ110
  intro H locs ls hH hl hc
  refine W.eq (g2 := F0 m 98 ls []) (rfl) ?_
  try dsimp only at h
  refine lv_aload_n B.1 B.2.1 dX6_pairText_98 rfl (lv_at hl 0 rfl) ?_
  refine f_getp B hH (hth.up xσ110) (by decide) rfl wu_X6 8 (by decide) wf_X6_88 rfl rfl dX6_pairText_99 ?_
  refine lv_aload_nQ B.1 B.2.1 dX6_pairText_102 rfl (lv_at hl 3 rfl) ?_
  obtain ⟨a113, ea113, h⟩ := h
  have ka113 : kO σ110 a113 5 := (hYσ110.get (hth.up xσ110) (by decide)) a113 ea113
  have h := h ka113
  refine W.eq (g2 := F0 m 103 ls [va_rf v3, .ref a113]) (by rw [ea113]; rfl) ?_
  refine c_V B hH hl hc K.2.2.1 (C := RX5) (T := TX5) (N := 17) (ci := 5) (As := [va_rf v3]) (ok_X5_addColumnsOf hl9 K.2.1 σ110 a113 v3 (g3.up xσ110) ka113 hGσ110 hYσ110 h) wc_X6_158 1 hd_X5_addColumnsOf ⟨Nat.le_trans (Nat.le_of_ble_eq_true rfl) K.2.2.2.1, Nat.le_trans (Nat.le_of_ble_eq_true rfl) K.2.2.2.2.1⟩ ka113.1 ka113.2 (by decide) rfl rfl (rest := []) rfl (Nat.le_of_ble_eq_true rfl) dX6_pairText_103 (fun σ112 w hq => ?_) (fun σ9 E9 hx9 => hX σ9 E9 _ _ _ (tb_out K.2.2.2.2.2.1 rfl) hx9.1 hx9.2.1 hx9.2.2.1 ((hE.trans xσ110).trans hx9.2.2.2))
  obtain ⟨rfl, h, hGσ112, hYσ112, xσ112⟩ := hq
  have h := h xσ112
  intro H locs ls hH hl hc
  refine W.eq (g2 := F0 m 106 ls []) (rfl) ?_
  try dsimp only at h
  refine lv_aload_n B.1 B.2.1 dX6_pairText_106 rfl (lv_at hl 0 rfl) ?_
  refine W.eq (g2 := F0 m 107 ls [.ref th]) (rfl) ?_
  refine c_V B hH hl hc K.2.2.1 (C := RX6) (T := TX6) (N := 9) (ci := 6) (As := []) (ok_X6_next hl9 K.2.1 σ112 th (hth.up (xσ110.trans xσ112)) hGσ112 hYσ112 h) wc_X6_40 0 hd_X6_next ⟨Nat.le_trans (Nat.le_of_ble_eq_true rfl) K.2.2.2.1, Nat.le_trans (Nat.le_of_ble_eq_true rfl) K.2.2.2.2.1⟩ (hth.up (xσ110.trans xσ112)).1 (hth.up (xσ110.trans xσ112)).2 (by decide) rfl rfl (rest := []) rfl (Nat.le_of_ble_eq_true rfl) dX6_pairText_107 (fun σ114 w hq => ?_) (fun σ9 E9 hx9 => hX σ9 E9 _ _ _ (tb_out K.2.2.2.2.2.1 rfl) hx9.1 hx9.2.1 hx9.2.2.1 (((hE.trans xσ110).trans xσ112).trans hx9.2.2.2))
  obtain ⟨rfl, h, hGσ114, hYσ114, xσ114⟩ := hq
  have h := h xσ114
  intro H locs ls hH hl hc
  refine W.eq (g2 := F0 m 110 ls []) (rfl) ?_
  try dsimp only at h
  refine lv_aload_n B.1 B.2.1 dX6_pairText_110 rfl (lv_at hl 0 rfl) ?_
  refine lv_bipush (v := i32 6) B.1 B.2.1 dX6_pairText_111 (by decide) ?_
  refine W.eq (g2 := F0 m 113 ls [.int (i32 6), .ref th]) (rfl) ?_
  refine c_V B hH hl hc K.2.2.1 (C := RX6) (T := TX6) (N := 9) (ci := 6) (As := [.int (i32 6)]) (ok_X6_wantWord hl9 K.2.1 σ114 th 6 (by unfold rng; omega) (hth.up (xσ110.trans (xσ112.trans xσ114))) hGσ114 hYσ114 h) wc_X6_146 1 hd_X6_wantWord ⟨Nat.le_trans (Nat.le_of_ble_eq_true rfl) K.2.2.2.1, Nat.le_trans (Nat.le_of_ble_eq_true rfl) K.2.2.2.2.1⟩ (hth.up (xσ110.trans (xσ112.trans xσ114))).1 (hth.up (xσ110.trans (xσ112.trans xσ114))).2 (by decide) rfl rfl (rest := []) rfl (Nat.le_of_ble_eq_true rfl) dX6_pairText_113 (fun σ115 w hq => ?_) (fun σ9 E9 hx9 => hX σ9 E9 _ _ _ (tb_out K.2.2.2.2.2.1 rfl) hx9.1 hx9.2.1 hx9.2.2.1 ((((hE.trans xσ110).trans xσ112).trans xσ114).trans hx9.2.2.2))
  obtain ⟨rfl, h, hGσ115, hYσ115, xσ115⟩ := hq
  have h := h xσ115
  intro H locs ls hH hl hc
  refine W.eq (g2 := F0 m 116 ls []) (rfl) ?_
  try dsimp only at h
  refine lv_aload_n B.1 B.2.1 dX6_pairText_116 rfl (lv_at hl 0 rfl) ?_
  refine f_getp B hH (hth.up (xσ110.trans (xσ112.trans (xσ114.trans xσ115)))) (by decide) rfl wu_X6 8 (by decide) wf_X6_88 rfl rfl dX6_pairText_117 ?_
  refine lv_aload_n B.1 B.2.1 dX6_pairText_120 rfl (lv_at hl 0 rfl) ?_
  refine lv_aload_nQ B.1 B.2.1 dX6_pairText_121 rfl (lv_at hl 2 rfl) ?_
  refine W.eq (g2 := F0 m 122 ls [va_rf v2, .ref th, va_rf (gP σ115 th 8)]) (rfl) ?_
  refine c_V B hH hl hc K.2.2.1 (C := RX6) (T := TX6) (N := 9) (ci := 6) (As := [va_rf v2]) (ok_X6_column hl9 K.2.1 σ115 th v2 (g2.up (xσ110.trans (xσ112.trans (xσ114.trans xσ115)))) (hth.up (xσ110.trans (xσ112.trans (xσ114.trans xσ115)))) hGσ115 hYσ115 h) wc_X6_185 1 hd_X6_column ⟨Nat.le_trans (Nat.le_of_ble_eq_true rfl) K.2.2.2.1, Nat.le_trans (Nat.le_of_ble_eq_true rfl) K.2.2.2.2.1⟩ (hth.up (xσ110.trans (xσ112.trans (xσ114.trans xσ115)))).1 (hth.up (xσ110.trans (xσ112.trans (xσ114.trans xσ115)))).2 (by decide) rfl rfl (rest := [va_rf (gP σ115 th 8)]) rfl (by simp only [List.map_cons, List.map_nil, rf_cat]; exact Nat.le_of_ble_eq_true rfl) dX6_pairText_122 (fun σ116 w hq => ?_) (fun σ9 E9 hx9 => hX σ9 E9 _ _ _ (tb_out K.2.2.2.2.2.1 rfl) hx9.1 hx9.2.1 hx9.2.2.1 (((((hE.trans xσ110).trans xσ112).trans xσ114).trans xσ115).trans hx9.2.2.2))
  obtain ⟨r117, rfl, gr117, h, hGσ116, hYσ116, xσ116⟩ := hq
  have h := h xσ116
  intro H locs ls hH hl hc
  refine W.eq (g2 := F0 m 125 ls [.int (i32 r117), va_rf (gP σ115 th 8)]) (rfl) ?_
  try dsimp only at h
  obtain ⟨a118, ea118, h⟩ := h
  have ka118 : kO σ116 a118 5 := ((hYσ115.get (hth.up (xσ110.trans (xσ112.trans (xσ114.trans xσ115)))) (by decide)).up xσ116) a118 ea118
  have h := h ka118
  obtain ⟨σ119, eσ119⟩ : ∃ z, z = pI σ116 a118 13 r117 := ⟨_, rfl⟩
  have h := h σ119 eσ119
  refine W.eq (g2 := F0 m 125 ls [.int (i32 r117), .ref a118]) (by rw [ea118]; rfl) ?_
  refine f_puti B hH ka118 (by decide) rfl wu_X5 tyX5 tyX5_ok nmX5 13 (by decide) wf_X6_189 rfl (ty := .int) rfl rfl rfl rfl rfl dX6_pairText_125 (fun H locs hH => ?_)
  have hH : Hd D cA A s (pI σ116 a118 13 r117) H locs := hH
  rw [← eσ119] at hH
  have hGσ119 : RG σ119 := by rw [eσ119]; exact hGσ116.pI gr117
  have hYσ119 : TY σ119 := by rw [eσ119]; exact hYσ116.pI
  have xσ119 : Ext σ116 σ119 := by rw [eσ119]; exact Ext.pI
  have hc : CB n0 s0 σ119 := by rw [eσ119]; exact hc
  rw [show gc σ116 = gc σ119 by rw [eσ119]; try rfl, show gs σ116 = gs σ119 by rw [eσ119]; try rfl]
  refine lv_aload_n B.1 B.2.1 dX6_pairText_128 rfl (lv_at hl 0 rfl) ?_
  refine W.eq (g2 := F0 m 129 ls [.ref th]) (rfl) ?_
  refine c_V B hH hl hc K.2.2.1 (C := RX6) (T := TX6) (N := 9) (ci := 6) (As := []) (ok_X6_next hl9 K.2.1 σ119 th (hth.up (xσ110.trans (xσ112.trans (xσ114.trans (xσ115.trans (xσ116.trans xσ119)))))) hGσ119 hYσ119 h) wc_X6_40 0 hd_X6_next ⟨Nat.le_trans (Nat.le_of_ble_eq_true rfl) K.2.2.2.1, Nat.le_trans (Nat.le_of_ble_eq_true rfl) K.2.2.2.2.1⟩ (hth.up (xσ110.trans (xσ112.trans (xσ114.trans (xσ115.trans (xσ116.trans xσ119)))))).1 (hth.up (xσ110.trans (xσ112.trans (xσ114.trans (xσ115.trans (xσ116.trans xσ119)))))).2 (by decide) rfl rfl (rest := []) rfl (Nat.le_of_ble_eq_true rfl) dX6_pairText_129 (fun σ120 w hq => ?_) (fun σ9 E9 hx9 => hX σ9 E9 _ _ _ (tb_out K.2.2.2.2.2.1 rfl) hx9.1 hx9.2.1 hx9.2.2.1 (((((((hE.trans xσ110).trans xσ112).trans xσ114).trans xσ115).trans xσ116).trans xσ119).trans hx9.2.2.2))
  obtain ⟨rfl, h, hGσ120, hYσ120, xσ120⟩ := hq
  have h := h xσ120
  intro H locs ls hH hl hc
  refine W.eq (g2 := F0 m 132 ls []) (rfl) ?_
  try dsimp only at h
  refine lv_aload_n B.1 B.2.1 dX6_pairText_132 rfl (lv_at hl 0 rfl) ?_
  refine f_getp B hH (hth.up (xσ110.trans (xσ112.trans (xσ114.trans (xσ115.trans (xσ116.trans (xσ119.trans xσ120))))))) (by decide) rfl wu_X6 8 (by decide) wf_X6_88 rfl rfl dX6_pairText_133 ?_
  refine lv_aload_n B.1 B.2.1 dX6_pairText_136 rfl (lv_at hl 0 rfl) ?_
  refine lv_aload_nQ B.1 B.2.1 dX6_pairText_137 rfl (lv_at hl 3 rfl) ?_
  refine W.eq (g2 := F0 m 138 ls [va_rf v3, .ref th, va_rf (gP σ120 th 8)]) (rfl) ?_
  refine c_V B hH hl hc K.2.2.1 (C := RX6) (T := TX6) (N := 9) (ci := 6) (As := [va_rf v3]) (ok_X6_column hl9 K.2.1 σ120 th v3 (g3.up (xσ110.trans (xσ112.trans (xσ114.trans (xσ115.trans (xσ116.trans (xσ119.trans xσ120))))))) (hth.up (xσ110.trans (xσ112.trans (xσ114.trans (xσ115.trans (xσ116.trans (xσ119.trans xσ120))))))) hGσ120 hYσ120 h) wc_X6_185 1 hd_X6_column ⟨Nat.le_trans (Nat.le_of_ble_eq_true rfl) K.2.2.2.1, Nat.le_trans (Nat.le_of_ble_eq_true rfl) K.2.2.2.2.1⟩ (hth.up (xσ110.trans (xσ112.trans (xσ114.trans (xσ115.trans (xσ116.trans (xσ119.trans xσ120))))))).1 (hth.up (xσ110.trans (xσ112.trans (xσ114.trans (xσ115.trans (xσ116.trans (xσ119.trans xσ120))))))).2 (by decide) rfl rfl (rest := [va_rf (gP σ120 th 8)]) rfl (by simp only [List.map_cons, List.map_nil, rf_cat]; exact Nat.le_of_ble_eq_true rfl) dX6_pairText_138 (fun σ121 w hq => ?_) (fun σ9 E9 hx9 => hX σ9 E9 _ _ _ (tb_out K.2.2.2.2.2.1 rfl) hx9.1 hx9.2.1 hx9.2.2.1 ((((((((hE.trans xσ110).trans xσ112).trans xσ114).trans xσ115).trans xσ116).trans xσ119).trans xσ120).trans hx9.2.2.2))
  obtain ⟨r122, rfl, gr122, h, hGσ121, hYσ121, xσ121⟩ := hq
  have h := h xσ121
  intro H locs ls hH hl hc
  refine W.eq (g2 := F0 m 141 ls [.int (i32 r122), va_rf (gP σ120 th 8)]) (rfl) ?_
  try dsimp only at h
  obtain ⟨a123, ea123, h⟩ := h
  have ka123 : kO σ121 a123 5 := ((hYσ120.get (hth.up (xσ110.trans (xσ112.trans (xσ114.trans (xσ115.trans (xσ116.trans (xσ119.trans xσ120))))))) (by decide)).up xσ121) a123 ea123
  have h := h ka123
  obtain ⟨σ124, eσ124⟩ : ∃ z, z = pI σ121 a123 14 r122 := ⟨_, rfl⟩
  have h := h σ124 eσ124
  refine W.eq (g2 := F0 m 141 ls [.int (i32 r122), .ref a123]) (by rw [ea123]; rfl) ?_
  refine f_puti B hH ka123 (by decide) rfl wu_X5 tyX5 tyX5_ok nmX5 14 (by decide) wf_X6_217 rfl (ty := .int) rfl rfl rfl rfl rfl dX6_pairText_141 (fun H locs hH => ?_)
  have hH : Hd D cA A s (pI σ121 a123 14 r122) H locs := hH
  rw [← eσ124] at hH
  have hGσ124 : RG σ124 := by rw [eσ124]; exact hGσ121.pI gr122
  have hYσ124 : TY σ124 := by rw [eσ124]; exact hYσ121.pI
  have xσ124 : Ext σ121 σ124 := by rw [eσ124]; exact Ext.pI
  have hc : CB n0 s0 σ124 := by rw [eσ124]; exact hc
  rw [show gc σ121 = gc σ124 by rw [eσ124]; try rfl, show gs σ121 = gs σ124 by rw [eσ124]; try rfl]
  refine lv_aload_n B.1 B.2.1 dX6_pairText_144 rfl (lv_at hl 0 rfl) ?_
  refine W.eq (g2 := F0 m 145 ls [.ref th]) (rfl) ?_
  refine c_V B hH hl hc K.2.2.1 (C := RX6) (T := TX6) (N := 9) (ci := 6) (As := []) (ok_X6_next hl9 K.2.1 σ124 th (hth.up (xσ110.trans (xσ112.trans (xσ114.trans (xσ115.trans (xσ116.trans (xσ119.trans (xσ120.trans (xσ121.trans xσ124))))))))) hGσ124 hYσ124 h) wc_X6_40 0 hd_X6_next ⟨Nat.le_trans (Nat.le_of_ble_eq_true rfl) K.2.2.2.1, Nat.le_trans (Nat.le_of_ble_eq_true rfl) K.2.2.2.2.1⟩ (hth.up (xσ110.trans (xσ112.trans (xσ114.trans (xσ115.trans (xσ116.trans (xσ119.trans (xσ120.trans (xσ121.trans xσ124))))))))).1 (hth.up (xσ110.trans (xσ112.trans (xσ114.trans (xσ115.trans (xσ116.trans (xσ119.trans (xσ120.trans (xσ121.trans xσ124))))))))).2 (by decide) rfl rfl (rest := []) rfl (Nat.le_of_ble_eq_true rfl) dX6_pairText_145 (fun σ125 w hq => ?_) (fun σ9 E9 hx9 => hX σ9 E9 _ _ _ (tb_out K.2.2.2.2.2.1 rfl) hx9.1 hx9.2.1 hx9.2.2.1 ((((((((((hE.trans xσ110).trans xσ112).trans xσ114).trans xσ115).trans xσ116).trans xσ119).trans xσ120).trans xσ121).trans xσ124).trans hx9.2.2.2))
  obtain ⟨rfl, h, hGσ125, hYσ125, xσ125⟩ := hq
  have h := h xσ125
  intro H locs ls hH hl hc
  refine W.eq (g2 := F0 m 148 ls []) (rfl) ?_
  try dsimp only at h
  refine lv_iload_n B.1 B.2.1 dX6_pairText_148 rfl (lv_at hl 1 rfl) ?_
  refine lv_bipush (v := i32 6) B.1 B.2.1 dX6_pairText_149 (by decide) ?_
  refine lv_icmp_ne (tgt := 213) B.1 B.2.1 dX6_pairText_151 (by decide) (fun h9 => ?_) (fun h9 => ?_)
  · rw [if_pos (fun q => h9 ((i32_eq g1 (by unfold rng; omega)).mpr q))] at h
    exact a_X6_pairText_213 K hQ hX hTh _ h hGσ125 hYσ125 ((((((((((hE.trans xσ110).trans xσ112).trans xσ114).trans xσ115).trans xσ116).trans xσ119).trans xσ120).trans xσ121).trans xσ124).trans xσ125) (hth.up (xσ110.trans (xσ112.trans (xσ114.trans (xσ115.trans (xσ116.trans (xσ119.trans (xσ120.trans (xσ121.trans (xσ124.trans xσ125)))))))))) _ _ _ hH (lv_sub (l' := [(0, .ref th)]) hl [0] rfl) hc
  · rw [if_neg (fun q => q ((i32_eq g1 (by unfold rng; omega)).mp h9))] at h
    exact a_X6_pairText_154 K hQ hX hTh _ h hGσ125 hYσ125 ((((((((((hE.trans xσ110).trans xσ112).trans xσ114).trans xσ115).trans xσ116).trans xσ119).trans xσ120).trans xσ121).trans xσ124).trans xσ125) (hth.up (xσ110.trans (xσ112.trans (xσ114.trans (xσ115.trans (xσ116.trans (xσ119.trans (xσ120.trans (xσ121.trans (xσ124.trans xσ125)))))))))) _ _ _ hH (lv_sub (l' := [(0, .ref th)]) hl [0] rfl) hc
set_option maxRecDepth 20000 in
theorem a_X6_pairText_84 {Q : Sg → Unit → Prop} {X : Sg → String → Prop} {th : Nat} (K : MD l R p s m args c cX6_pairText 4 RX6 D cA tys A n0 s0 10 175 []) (hQ : CQV p l e R s m args below meth c cX6_pairText D cA A n0 s0 QM σi Q) (hX : CX p l e R s m args below meth c 4 D cA A n0 s0 QM σi X) (hTh : CT p l e R s m args below meth c cX6_pairText 4 D cA A n0 s0 QM σi RX6 X) : ∀ (σ : Sg) (v1 : Int) (v2 : Option Nat) (v3 : Option Nat) (g1 : rng v1) (g2 : tyV σ 5 v2) (g3 : tyV σ 5 v3), w_X6_pairText_84 th Q X σ v1 v2 v3 → RG σ → TY σ → Ext σi σ → kO σ th 6 → JJ p l e R s m args below meth c 4 D cA A n0 s0 QM σ 84 [(0, .ref th), (1, .int (i32 v1)), (2, va_rf v2), (3, va_rf v3)] [] := by
  intro σ v1 v2 v3 g1 g2 g3 h hGσ hYσ hE hth H locs ls hH hl hc
  have B := K.1
  have hl9 := K.2.2.2.2.2.2
  unfold w_X6_pairText_84 at h
  refine lv_aload_n B.1 B.2.1 dX6_pairText_84 rfl (lv_at hl 0 rfl) ?_
  refine lv_bipush (v := i32 8) B.1 B.2.1 dX6_pairText_85 (by decide) ?_
  refine W.eq (g2 := F0 m 87 ls [.int (i32 8), .ref th]) (rfl) ?_
  refine c_V B hH hl hc K.2.2.1 (C := RX6) (T := TX6) (N := 9) (ci := 6) (As := [.int (i32 8)]) (ok_X6_refuse hl9 K.2.1 σ th 8 (by unfold rng; omega) hth hGσ hYσ h) wc_X6_81 1 hd_X6_refuse ⟨Nat.le_trans (Nat.le_of_ble_eq_true rfl) K.2.2.2.1, Nat.le_trans (Nat.le_of_ble_eq_true rfl) K.2.2.2.2.1⟩ hth.1 hth.2 (by decide) rfl rfl (rest := []) rfl (Nat.le_of_ble_eq_true rfl) dX6_pairText_87 (fun σ126 w hq => ?_) (fun σ9 E9 hx9 => hX σ9 E9 _ _ _ (tb_out K.2.2.2.2.2.1 rfl) hx9.1 hx9.2.1 hx9.2.2.1 (hE.trans hx9.2.2.2))
  obtain ⟨rfl, h, hGσ126, hYσ126, xσ126⟩ := hq
  have h := h xσ126
  intro H locs ls hH hl hc
  refine W.eq (g2 := F0 m 90 ls []) (rfl) ?_
  try dsimp only at h
  exact a_X6_pairText_90 K hQ hX hTh _ _ _ _ g1 (g2.up xσ126) (g3.up xσ126) h hGσ126 hYσ126 (hE.trans xσ126) (hth.up xσ126) _ _ _ hH (lv_sub (l' := [(0, .ref th), (1, .int (i32 v1)), (2, va_rf v2), (3, va_rf v3)]) hl [0, 1, 2, 3] rfl) hc
set_option maxRecDepth 20000 in
theorem a_X6_pairText_70 {Q : Sg → Unit → Prop} {X : Sg → String → Prop} {th : Nat} (K : MD l R p s m args c cX6_pairText 4 RX6 D cA tys A n0 s0 10 175 []) (hQ : CQV p l e R s m args below meth c cX6_pairText D cA A n0 s0 QM σi Q) (hX : CX p l e R s m args below meth c 4 D cA A n0 s0 QM σi X) (hTh : CT p l e R s m args below meth c cX6_pairText 4 D cA A n0 s0 QM σi RX6 X) : ∀ (σ : Sg) (v1 : Int) (v2 : Option Nat) (v3 : Option Nat) (g1 : rng v1) (g2 : tyV σ 5 v2) (g3 : tyV σ 5 v3), w_X6_pairText_70 th Q X σ v1 v2 v3 → RG σ → TY σ → Ext σi σ → kO σ th 6 → JJ p l e R s m args below meth c 4 D cA A n0 s0 QM σ 70 [(0, .ref th), (1, .int (i32 v1)), (2, va_rf v2), (3, va_rf v3)] [] := by
  intro σ v1 v2 v3 g1 g2 g3 h hGσ hYσ hE hth H locs ls hH hl hc
  have B := K.1
  have hl9 := K.2.2.2.2.2.2
  unfold w_X6_pairText_70 at h
  refine lv_aload_nQ B.1 B.2.1 dX6_pairText_70 rfl (lv_at hl 2 rfl) ?_
  obtain ⟨a127, ea127, h⟩ := h
  have ka127 : kO σ a127 5 := g2 a127 ea127
  have h := h ka127
  refine W.eq (g2 := F0 m 71 ls [.ref a127]) (by rw [ea127]; rfl) ?_
  refine f_geti B hH ka127 (by decide) rfl wu_X5 3 (by decide) wf_X6_214 rfl rfl dX6_pairText_71 ?_
  refine lv_aload_nQ B.1 B.2.1 dX6_pairText_74 rfl (lv_at hl 3 rfl) ?_
  obtain ⟨a128, ea128, h⟩ := h
  have ka128 : kO σ a128 5 := g3 a128 ea128
  have h := h ka128
  refine W.eq (g2 := F0 m 75 ls [.ref a128, .int (i32 (gI σ a127 3))]) (by rw [ea128]; rfl) ?_
  refine f_geti B hH ka128 (by decide) rfl wu_X5 3 (by decide) wf_X6_214 rfl rfl dX6_pairText_75 ?_
  obtain ⟨q1, h⟩ := h
  refine lv_iadd B.1 B.2.1 dX6_pairText_78 ?_
  rw [i32_add]
  refine lv_bipush (v := i32 8) B.1 B.2.1 dX6_pairText_79 (by decide) ?_
  refine lv_icmp_le (tgt := 90) B.1 B.2.1 dX6_pairText_81 (by decide) (fun h9 => ?_) (fun h9 => ?_)
  · rw [if_pos ((i32_le q1 (by unfold rng; omega)).mp h9)] at h
    exact a_X6_pairText_90 K hQ hX hTh _ _ _ _ g1 g2 g3 h hGσ hYσ hE hth _ _ _ hH (lv_sub (l' := [(0, .ref th), (1, .int (i32 v1)), (2, va_rf v2), (3, va_rf v3)]) hl [0, 1, 2, 3] rfl) hc
  · rw [if_neg (fun q => h9 ((i32_le q1 (by unfold rng; omega)).mpr q))] at h
    exact a_X6_pairText_84 K hQ hX hTh _ _ _ _ g1 g2 g3 h hGσ hYσ hE hth _ _ _ hH (lv_sub (l' := [(0, .ref th), (1, .int (i32 v1)), (2, va_rf v2), (3, va_rf v3)]) hl [0, 1, 2, 3] rfl) hc
set_option maxRecDepth 20000 in
theorem a_X6_pairText_64 {Q : Sg → Unit → Prop} {X : Sg → String → Prop} {th : Nat} (K : MD l R p s m args c cX6_pairText 4 RX6 D cA tys A n0 s0 10 175 []) (hQ : CQV p l e R s m args below meth c cX6_pairText D cA A n0 s0 QM σi Q) (hX : CX p l e R s m args below meth c 4 D cA A n0 s0 QM σi X) (hTh : CT p l e R s m args below meth c cX6_pairText 4 D cA A n0 s0 QM σi RX6 X) : ∀ (σ : Sg) (v1 : Int) (v2 : Option Nat) (v3 : Option Nat) (g1 : rng v1) (g2 : tyV σ 5 v2) (g3 : tyV σ 5 v3), w_X6_pairText_64 th Q X σ v1 v2 v3 → RG σ → TY σ → Ext σi σ → kO σ th 6 → JJ p l e R s m args below meth c 4 D cA A n0 s0 QM σ 64 [(0, .ref th), (1, .int (i32 v1)), (2, va_rf v2), (3, va_rf v3)] [] := by
  intro σ v1 v2 v3 g1 g2 g3 h hGσ hYσ hE hth H locs ls hH hl hc
  have B := K.1
  have hl9 := K.2.2.2.2.2.2
  unfold w_X6_pairText_64 at h
  refine lv_aload_n B.1 B.2.1 dX6_pairText_64 rfl (lv_at hl 0 rfl) ?_
  refine lv_bipush (v := i32 6) B.1 B.2.1 dX6_pairText_65 (by decide) ?_
  refine W.eq (g2 := F0 m 67 ls [.int (i32 6), .ref th]) (rfl) ?_
  refine c_V B hH hl hc K.2.2.1 (C := RX6) (T := TX6) (N := 9) (ci := 6) (As := [.int (i32 6)]) (ok_X6_refuse hl9 K.2.1 σ th 6 (by unfold rng; omega) hth hGσ hYσ h) wc_X6_81 1 hd_X6_refuse ⟨Nat.le_trans (Nat.le_of_ble_eq_true rfl) K.2.2.2.1, Nat.le_trans (Nat.le_of_ble_eq_true rfl) K.2.2.2.2.1⟩ hth.1 hth.2 (by decide) rfl rfl (rest := []) rfl (Nat.le_of_ble_eq_true rfl) dX6_pairText_67 (fun σ129 w hq => ?_) (fun σ9 E9 hx9 => hX σ9 E9 _ _ _ (tb_out K.2.2.2.2.2.1 rfl) hx9.1 hx9.2.1 hx9.2.2.1 (hE.trans hx9.2.2.2))
  obtain ⟨rfl, h, hGσ129, hYσ129, xσ129⟩ := hq
  have h := h xσ129
  intro H locs ls hH hl hc
  refine W.eq (g2 := F0 m 70 ls []) (rfl) ?_
  try dsimp only at h
  exact a_X6_pairText_70 K hQ hX hTh _ _ _ _ g1 (g2.up xσ129) (g3.up xσ129) h hGσ129 hYσ129 (hE.trans xσ129) (hth.up xσ129) _ _ _ hH (lv_sub (l' := [(0, .ref th), (1, .int (i32 v1)), (2, va_rf v2), (3, va_rf v3)]) hl [0, 1, 2, 3] rfl) hc
set_option maxRecDepth 20000 in
theorem a_X6_pairText_0 {Q : Sg → Unit → Prop} {X : Sg → String → Prop} {th : Nat} (K : MD l R p s m args c cX6_pairText 4 RX6 D cA tys A n0 s0 10 175 []) (hQ : CQV p l e R s m args below meth c cX6_pairText D cA A n0 s0 QM σi Q) (hX : CX p l e R s m args below meth c 4 D cA A n0 s0 QM σi X) (hTh : CT p l e R s m args below meth c cX6_pairText 4 D cA A n0 s0 QM σi RX6 X) : ∀ (σ : Sg) (v1 : Int) (g1 : rng v1), w_X6_pairText_0 th Q X σ v1 → RG σ → TY σ → Ext σi σ → kO σ th 6 → JJ p l e R s m args below meth c 4 D cA A n0 s0 QM σ 0 [(0, .ref th), (1, .int (i32 v1))] [] := by
  intro σ v1 g1 h hGσ hYσ hE hth H locs ls hH hl hc
  have B := K.1
  have hl9 := K.2.2.2.2.2.2
  unfold w_X6_pairText_0 at h
  refine lv_aload_n B.1 B.2.1 dX6_pairText_0 rfl (lv_at hl 0 rfl) ?_
  refine W.eq (g2 := F0 m 1 ls [.ref th]) (rfl) ?_
  refine c_V B hH hl hc K.2.2.1 (C := RX6) (T := TX6) (N := 9) (ci := 6) (As := []) (ok_X6_next hl9 K.2.1 σ th hth hGσ hYσ h) wc_X6_40 0 hd_X6_next ⟨Nat.le_trans (Nat.le_of_ble_eq_true rfl) K.2.2.2.1, Nat.le_trans (Nat.le_of_ble_eq_true rfl) K.2.2.2.2.1⟩ hth.1 hth.2 (by decide) rfl rfl (rest := []) rfl (Nat.le_of_ble_eq_true rfl) dX6_pairText_1 (fun σ130 w hq => ?_) (fun σ9 E9 hx9 => hX σ9 E9 _ _ _ (tb_out K.2.2.2.2.2.1 rfl) hx9.1 hx9.2.1 hx9.2.2.1 (hE.trans hx9.2.2.2))
  obtain ⟨rfl, h, hGσ130, hYσ130, xσ130⟩ := hq
  have h := h xσ130
  intro H locs ls hH hl hc
  refine W.eq (g2 := F0 m 4 ls []) (rfl) ?_
  try dsimp only at h
  refine lv_aload_n B.1 B.2.1 dX6_pairText_4 rfl (lv_at hl 0 rfl) ?_
  refine lv_iload_n B.1 B.2.1 dX6_pairText_5 rfl (lv_at hl 1 rfl) ?_
  refine W.eq (g2 := F0 m 6 ls [.int (i32 v1), .ref th]) (rfl) ?_
  refine c_V B hH hl hc K.2.2.1 (C := RX6) (T := TX6) (N := 9) (ci := 6) (As := [.int (i32 v1)]) (ok_X6_firstInput hl9 K.2.1 σ130 th v1 g1 (hth.up xσ130) hGσ130 hYσ130 h) wc_X6_152 1 hd_X6_firstInput ⟨Nat.le_trans (Nat.le_of_ble_eq_true rfl) K.2.2.2.1, Nat.le_trans (Nat.le_of_ble_eq_true rfl) K.2.2.2.2.1⟩ (hth.up xσ130).1 (hth.up xσ130).2 (by decide) rfl rfl (rest := []) rfl (Nat.le_of_ble_eq_true rfl) dX6_pairText_6 (fun σ131 w hq => ?_) (fun σ9 E9 hx9 => hX σ9 E9 _ _ _ (tb_out K.2.2.2.2.2.1 rfl) hx9.1 hx9.2.1 hx9.2.2.1 ((hE.trans xσ130).trans hx9.2.2.2))
  obtain ⟨rfl, h, hGσ131, hYσ131, xσ131⟩ := hq
  have h := h xσ131
  intro H locs ls hH hl hc
  refine W.eq (g2 := F0 m 9 ls []) (rfl) ?_
  try dsimp only at h
  refine lv_aload_n B.1 B.2.1 dX6_pairText_9 rfl (lv_at hl 0 rfl) ?_
  refine W.eq (g2 := F0 m 10 ls [.ref th]) (rfl) ?_
  refine c_V B hH hl hc K.2.2.1 (C := RX6) (T := TX6) (N := 9) (ci := 6) (As := []) (ok_X6_next hl9 K.2.1 σ131 th (hth.up (xσ130.trans xσ131)) hGσ131 hYσ131 h) wc_X6_40 0 hd_X6_next ⟨Nat.le_trans (Nat.le_of_ble_eq_true rfl) K.2.2.2.1, Nat.le_trans (Nat.le_of_ble_eq_true rfl) K.2.2.2.2.1⟩ (hth.up (xσ130.trans xσ131)).1 (hth.up (xσ130.trans xσ131)).2 (by decide) rfl rfl (rest := []) rfl (Nat.le_of_ble_eq_true rfl) dX6_pairText_10 (fun σ132 w hq => ?_) (fun σ9 E9 hx9 => hX σ9 E9 _ _ _ (tb_out K.2.2.2.2.2.1 rfl) hx9.1 hx9.2.1 hx9.2.2.1 (((hE.trans xσ130).trans xσ131).trans hx9.2.2.2))
  obtain ⟨rfl, h, hGσ132, hYσ132, xσ132⟩ := hq
  have h := h xσ132
  intro H locs ls hH hl hc
  refine W.eq (g2 := F0 m 13 ls []) (rfl) ?_
  try dsimp only at h
  refine lv_aload_n B.1 B.2.1 dX6_pairText_13 rfl (lv_at hl 0 rfl) ?_
  refine f_getp B hH (hth.up (xσ130.trans (xσ131.trans xσ132))) (by decide) rfl wu_X6 7 (by decide) wf_X6_31 rfl rfl dX6_pairText_14 ?_
  obtain ⟨a133, ea133, h⟩ := h
  have ka133 : kO σ132 a133 4 := (hYσ132.get (hth.up (xσ130.trans (xσ131.trans xσ132))) (by decide)) a133 ea133
  have h := h ka133
  refine W.eq (g2 := F0 m 17 ls [.ref a133]) (by rw [ea133]; rfl) ?_
  refine f_getp B hH ka133 (by decide) rfl wu_X4 0 (by decide) wf_X6_84 rfl rfl dX6_pairText_17 ?_
  refine lv_aload_n B.1 B.2.1 dX6_pairText_20 rfl (lv_at hl 0 rfl) ?_
  refine f_getp B hH (hth.up (xσ130.trans (xσ131.trans xσ132))) (by decide) rfl wu_X6 8 (by decide) wf_X6_88 rfl rfl dX6_pairText_21 ?_
  obtain ⟨a134, ea134, h⟩ := h
  have ka134 : kO σ132 a134 5 := (hYσ132.get (hth.up (xσ130.trans (xσ131.trans xσ132))) (by decide)) a134 ea134
  have h := h ka134
  refine W.eq (g2 := F0 m 24 ls [.ref a134, va_rf (gP σ132 a133 0)]) (by rw [ea134]; rfl) ?_
  refine f_geti B hH ka134 (by decide) rfl wu_X5 7 (by decide) wf_X6_155 rfl rfl dX6_pairText_24 ?_
  obtain ⟨a135, ea135, h⟩ := h
  have ka135 : kO σ132 a135 115 := (hYσ132.get ka133 (by decide)) a135 ea135
  have h := h ka135
  obtain ⟨q1, h⟩ := h
  refine W.eq (g2 := F0 m 27 ls [.int (i32 (gI σ132 a134 7)), .ref a135]) (by rw [ea135]; rfl) ?_
  refine y_aald B hH (t0 := 6) ka135 (by decide) K.2.1.2.2.2.1 q1 (hYσ132.2 _) dX6_pairText_27 ?_
  refine lv_astore_nQ (lv' := [(2, va_rf (gP σ132 a135 (gI σ132 a134 7).toNat)), (0, .ref th), (1, .int (i32 v1))]) B.1 B.2.1 dX6_pairText_28 rfl hl (by decide) rfl (fun ls hl => ?_)
  refine lv_aload_n B.1 B.2.1 dX6_pairText_29 rfl (lv_at hl 1 rfl) ?_
  refine f_getp B hH (hth.up (xσ130.trans (xσ131.trans xσ132))) (by decide) rfl wu_X6 8 (by decide) wf_X6_88 rfl rfl dX6_pairText_30 ?_
  refine lv_aload_n B.1 B.2.1 dX6_pairText_33 rfl (lv_at hl 1 rfl) ?_
  refine W.eq (g2 := F0 m 34 ls [.ref th, va_rf (gP σ132 th 8)]) (rfl) ?_
  refine c_V B hH hl hc K.2.2.1 (C := RX6) (T := TX6) (N := 9) (ci := 6) (As := []) (ok_X6_input hl9 K.2.1 σ132 th (hth.up (xσ130.trans (xσ131.trans xσ132))) hGσ132 hYσ132 h) wc_X6_174 0 hd_X6_input ⟨Nat.le_trans (Nat.le_of_ble_eq_true rfl) K.2.2.2.1, Nat.le_trans (Nat.le_of_ble_eq_true rfl) K.2.2.2.2.1⟩ (hth.up (xσ130.trans (xσ131.trans xσ132))).1 (hth.up (xσ130.trans (xσ131.trans xσ132))).2 (by decide) rfl rfl (rest := [va_rf (gP σ132 th 8)]) rfl (by simp only [List.map_cons, List.map_nil, rf_cat]; exact Nat.le_of_ble_eq_true rfl) dX6_pairText_34 (fun σ136 w hq => ?_) (fun σ9 E9 hx9 => hX σ9 E9 _ _ _ (tb_out K.2.2.2.2.2.1 rfl) hx9.1 hx9.2.1 hx9.2.2.1 ((((hE.trans xσ130).trans xσ131).trans xσ132).trans hx9.2.2.2))
  obtain ⟨r137, rfl, gr137, h, hGσ136, hYσ136, xσ136⟩ := hq
  have h := h xσ136
  intro H locs ls hH hl hc
  refine W.eq (g2 := F0 m 37 ls [.int (i32 r137), va_rf (gP σ132 th 8)]) (rfl) ?_
  try dsimp only at h
  obtain ⟨σ138, eσ138⟩ : ∃ z, z = pI σ136 a134 8 r137 := ⟨_, rfl⟩
  have h := h σ138 eσ138
  refine W.eq (g2 := F0 m 37 ls [.int (i32 r137), .ref a134]) (by rw [ea134]; rfl) ?_
  refine f_puti B hH (ka134.up xσ136) (by decide) rfl wu_X5 tyX5 tyX5_ok nmX5 8 (by decide) wf_X6_178 rfl (ty := .int) rfl rfl rfl rfl rfl dX6_pairText_37 (fun H locs hH => ?_)
  have hH : Hd D cA A s (pI σ136 a134 8 r137) H locs := hH
  rw [← eσ138] at hH
  have hGσ138 : RG σ138 := by rw [eσ138]; exact hGσ136.pI gr137
  have hYσ138 : TY σ138 := by rw [eσ138]; exact hYσ136.pI
  have xσ138 : Ext σ136 σ138 := by rw [eσ138]; exact Ext.pI
  have hc : CB n0 s0 σ138 := by rw [eσ138]; exact hc
  rw [show gc σ136 = gc σ138 by rw [eσ138]; try rfl, show gs σ136 = gs σ138 by rw [eσ138]; try rfl]
  refine lv_aload_n B.1 B.2.1 dX6_pairText_40 rfl (lv_at hl 1 rfl) ?_
  refine f_getp B hH (hth.up (xσ130.trans (xσ131.trans (xσ132.trans (xσ136.trans xσ138))))) (by decide) rfl wu_X6 7 (by decide) wf_X6_31 rfl rfl dX6_pairText_41 ?_
  obtain ⟨a139, ea139, h⟩ := h
  have ka139 : kO σ138 a139 4 := (hYσ138.get (hth.up (xσ130.trans (xσ131.trans (xσ132.trans (xσ136.trans xσ138))))) (by decide)) a139 ea139
  have h := h ka139
  refine W.eq (g2 := F0 m 44 ls [.ref a139]) (by rw [ea139]; rfl) ?_
  refine f_getp B hH ka139 (by decide) rfl wu_X4 0 (by decide) wf_X6_84 rfl rfl dX6_pairText_44 ?_
  refine lv_aload_n B.1 B.2.1 dX6_pairText_47 rfl (lv_at hl 1 rfl) ?_
  refine f_getp B hH (hth.up (xσ130.trans (xσ131.trans (xσ132.trans (xσ136.trans xσ138))))) (by decide) rfl wu_X6 8 (by decide) wf_X6_88 rfl rfl dX6_pairText_48 ?_
  obtain ⟨a140, ea140, h⟩ := h
  have ka140 : kO σ138 a140 5 := (hYσ138.get (hth.up (xσ130.trans (xσ131.trans (xσ132.trans (xσ136.trans xσ138))))) (by decide)) a140 ea140
  have h := h ka140
  refine W.eq (g2 := F0 m 51 ls [.ref a140, va_rf (gP σ138 a139 0)]) (by rw [ea140]; rfl) ?_
  refine f_geti B hH ka140 (by decide) rfl wu_X5 8 (by decide) wf_X6_178 rfl rfl dX6_pairText_51 ?_
  obtain ⟨a141, ea141, h⟩ := h
  have ka141 : kO σ138 a141 115 := (hYσ138.get ka139 (by decide)) a141 ea141
  have h := h ka141
  obtain ⟨q2, h⟩ := h
  refine W.eq (g2 := F0 m 54 ls [.int (i32 (gI σ138 a140 8)), .ref a141]) (by rw [ea141]; rfl) ?_
  refine y_aald B hH (t0 := 6) ka141 (by decide) K.2.1.2.2.2.1 q2 (hYσ138.2 _) dX6_pairText_54 ?_
  refine lv_astore_nQ (lv' := [(3, va_rf (gP σ138 a141 (gI σ138 a140 8).toNat)), (2, va_rf (gP σ132 a135 (gI σ132 a134 7).toNat)), (0, .ref th), (1, .int (i32 v1))]) B.1 B.2.1 dX6_pairText_55 rfl hl (by decide) (by generalize (gP σ132 a135 (gI σ132 a134 7).toNat) = w9; cases w9 <;> rfl) (fun ls hl => ?_)
  refine lv_aload_nQ B.1 B.2.1 dX6_pairText_56 rfl (lv_at hl 1 rfl) ?_
  refine lv_aload_nQ B.1 B.2.1 dX6_pairText_57 rfl (lv_at hl 0 rfl) ?_
  obtain ⟨a144, ea144, h⟩ := h
  have ka144 : kO σ138 a144 5 := ((hYσ132.get ka135 rfl).up (xσ136.trans xσ138)) a144 ea144
  have h := h ka144
  refine W.eq (g2 := F0 m 58 ls [va_rf (gP σ138 a141 (gI σ138 a140 8).toNat), .ref a144]) (by rw [ea144]; rfl) ?_
  refine c_V B hH hl hc K.2.2.1 (C := RX5) (T := TX5) (N := 17) (ci := 5) (As := [va_rf (gP σ138 a141 (gI σ138 a140 8).toNat)]) (ok_X5_sharesColumnWith hl9 K.2.1 σ138 a144 (gP σ138 a141 (gI σ138 a140 8).toNat) (hYσ138.get ka141 rfl) ka144 hGσ138 hYσ138 h) wc_X6_211 1 hd_X5_sharesColumnWith ⟨Nat.le_trans (Nat.le_of_ble_eq_true rfl) K.2.2.2.1, Nat.le_trans (Nat.le_of_ble_eq_true rfl) K.2.2.2.2.1⟩ ka144.1 ka144.2 (by decide) rfl rfl (rest := []) rfl (Nat.le_of_ble_eq_true rfl) dX6_pairText_58 (fun σ142 w hq => ?_) (fun σ9 E9 hx9 => hX σ9 E9 _ _ _ (tb_out K.2.2.2.2.2.1 rfl) hx9.1 hx9.2.1 hx9.2.2.1 ((((((hE.trans xσ130).trans xσ131).trans xσ132).trans xσ136).trans xσ138).trans hx9.2.2.2))
  obtain ⟨r143, rfl, ⟨gr143, gzr143⟩, h, hGσ142, hYσ142, xσ142⟩ := hq
  have h := h xσ142
  intro H locs ls hH hl hc
  refine W.eq (g2 := F0 m 61 ls [.int (i32 r143)]) (rfl) ?_
  try dsimp only at h
  refine lv_if_eq (tgt := 70) B.1 B.2.1 dX6_pairText_61 (by decide) (fun h9 => ?_) (fun h9 => ?_)
  · rw [if_pos ((z_eq gr143).mp h9)] at h
    exact a_X6_pairText_70 K hQ hX hTh _ _ _ _ g1 ((hYσ132.get ka135 rfl).up (xσ136.trans (xσ138.trans xσ142))) ((hYσ138.get ka141 rfl).up xσ142) h hGσ142 hYσ142 ((((((hE.trans xσ130).trans xσ131).trans xσ132).trans xσ136).trans xσ138).trans xσ142) (hth.up (xσ130.trans (xσ131.trans (xσ132.trans (xσ136.trans (xσ138.trans xσ142)))))) _ _ _ hH (lv_sub (l' := [(0, .ref th), (1, .int (i32 v1)), (2, va_rf (gP σ132 a135 (gI σ132 a134 7).toNat)), (3, va_rf (gP σ138 a141 (gI σ138 a140 8).toNat))]) hl [2, 3, 1, 0] rfl) hc
  · rw [if_neg (fun q => h9 ((z_eq gr143).mpr q))] at h
    exact a_X6_pairText_64 K hQ hX hTh _ _ _ _ g1 ((hYσ132.get ka135 rfl).up (xσ136.trans (xσ138.trans xσ142))) ((hYσ138.get ka141 rfl).up xσ142) h hGσ142 hYσ142 ((((((hE.trans xσ130).trans xσ131).trans xσ132).trans xσ136).trans xσ138).trans xσ142) (hth.up (xσ130.trans (xσ131.trans (xσ132.trans (xσ136.trans (xσ138.trans xσ142)))))) _ _ _ hH (lv_sub (l' := [(0, .ref th), (1, .int (i32 v1)), (2, va_rf (gP σ132 a135 (gI σ132 a134 7).toNat)), (3, va_rf (gP σ138 a141 (gI σ138 a140 8).toNat))]) hl [2, 3, 1, 0] rfl) hc
theorem ok_X6_pairText (hl0 : l.stackTraces = false) (hT : TyC cA tys) {Q : Sg → Unit → Prop} {X : Sg → String → Prop} (σ : Sg) (th : Nat) (v1 : Int) (g1 : rng v1) (hth : kO σ th 6) (hG : RG σ) (hY : TY σ) (h : wp_X6_pairText th v1 σ Q X) : Ok l D cA tys A yX6_pairText (.code yX6_pairText cX6_pairText 4 none) 10 175 [.ref th, .int (i32 v1)] σ (QcV σ Q) (QxC σ X) := by
  unfold wp_X6_pairText at h
  exact oc_V hl0 (by decide) (by exact Nat.le_of_ble_eq_true rfl) hT (fun p e R s m args below meth c K hQ hX hTh hin9 H locs ls hH hl hc => a_X6_pairText_0 K hQ hX hTh σ v1 g1 h hG hY (Ext.rfl' σ) hth H locs ls hH (lv_sub (l' := [(0, .ref th), (1, .int (i32 v1))]) hl [0, 1] rfl) hc)
theorem dX6_sourceText_0 : decode cX6_sourceText 0 = .ok (.aload_n 0, 1) := by decide +kernel
theorem dX6_sourceText_1 : decode cX6_sourceText 1 = .ok (.invokevirtual 40, 3) := by decide +kernel
theorem dX6_sourceText_4 : decode cX6_sourceText 4 = .ok (.aload_n 0, 1) := by decide +kernel
theorem dX6_sourceText_5 : decode cX6_sourceText 5 = .ok (.getfield 88, 3) := by decide +kernel
theorem dX6_sourceText_8 : decode cX6_sourceText 8 = .ok (.iconst 0, 1) := by decide +kernel
theorem dX6_sourceText_9 : decode cX6_sourceText 9 = .ok (.putfield 131, 3) := by decide +kernel
theorem dX6_sourceText_12 : decode cX6_sourceText 12 = .ok (.aload_n 0, 1) := by decide +kernel
theorem dX6_sourceText_13 : decode cX6_sourceText 13 = .ok (.getfield 88, 3) := by decide +kernel
theorem dX6_sourceText_16 : decode cX6_sourceText 16 = .ok (.aload_n 0, 1) := by decide +kernel
theorem dX6_sourceText_17 : decode cX6_sourceText 17 = .ok (.iconst 0, 1) := by decide +kernel
theorem dX6_sourceText_18 : decode cX6_sourceText 18 = .ok (.iconst 3, 1) := by decide +kernel
theorem dX6_sourceText_19 : decode cX6_sourceText 19 = .ok (.invokevirtual 134, 3) := by decide +kernel
theorem dX6_sourceText_22 : decode cX6_sourceText 22 = .ok (.putfield 137, 3) := by decide +kernel
theorem dX6_sourceText_25 : decode cX6_sourceText 25 = .ok (.aload_n 0, 1) := by decide +kernel
theorem dX6_sourceText_26 : decode cX6_sourceText 26 = .ok (.getfield 31, 3) := by decide +kernel
theorem dX6_sourceText_29 : decode cX6_sourceText 29 = .ok (.getfield 139, 3) := by decide +kernel
theorem dX6_sourceText_32 : decode cX6_sourceText 32 = .ok (.aload_n 0, 1) := by decide +kernel
theorem dX6_sourceText_33 : decode cX6_sourceText 33 = .ok (.getfield 88, 3) := by decide +kernel
theorem dX6_sourceText_36 : decode cX6_sourceText 36 = .ok (.getfield 137, 3) := by decide +kernel
theorem dX6_sourceText_39 : decode cX6_sourceText 39 = .ok (.iaload, 1) := by decide +kernel
theorem dX6_sourceText_40 : decode cX6_sourceText 40 = .ok (.iconst (-1), 1) := by decide +kernel
theorem dX6_sourceText_41 : decode cX6_sourceText 41 = .ok (.if_icmp .eq 9, 3) := by decide +kernel
theorem dX6_sourceText_44 : decode cX6_sourceText 44 = .ok (.aload_n 0, 1) := by decide +kernel
theorem dX6_sourceText_45 : decode cX6_sourceText 45 = .ok (.bipush 7, 2) := by decide +kernel
theorem dX6_sourceText_47 : decode cX6_sourceText 47 = .ok (.invokevirtual 81, 3) := by decide +kernel
theorem dX6_sourceText_50 : decode cX6_sourceText 50 = .ok (.aload_n 0, 1) := by decide +kernel
theorem dX6_sourceText_51 : decode cX6_sourceText 51 = .ok (.getfield 31, 3) := by decide +kernel
theorem dX6_sourceText_54 : decode cX6_sourceText 54 = .ok (.getfield 139, 3) := by decide +kernel
theorem dX6_sourceText_57 : decode cX6_sourceText 57 = .ok (.aload_n 0, 1) := by decide +kernel
theorem dX6_sourceText_58 : decode cX6_sourceText 58 = .ok (.getfield 88, 3) := by decide +kernel
theorem dX6_sourceText_61 : decode cX6_sourceText 61 = .ok (.getfield 137, 3) := by decide +kernel
theorem dX6_sourceText_64 : decode cX6_sourceText 64 = .ok (.aload_n 0, 1) := by decide +kernel
theorem dX6_sourceText_65 : decode cX6_sourceText 65 = .ok (.getfield 31, 3) := by decide +kernel
theorem dX6_sourceText_68 : decode cX6_sourceText 68 = .ok (.getfield 61, 3) := by decide +kernel
theorem dX6_sourceText_71 : decode cX6_sourceText 71 = .ok (.iastore, 1) := by decide +kernel
theorem dX6_sourceText_72 : decode cX6_sourceText 72 = .ok (.aload_n 0, 1) := by decide +kernel
theorem dX6_sourceText_73 : decode cX6_sourceText 73 = .ok (.invokevirtual 40, 3) := by decide +kernel
theorem dX6_sourceText_76 : decode cX6_sourceText 76 = .ok (.aload_n 0, 1) := by decide +kernel
theorem dX6_sourceText_77 : decode cX6_sourceText 77 = .ok (.bipush 40, 2) := by decide +kernel
theorem dX6_sourceText_79 : decode cX6_sourceText 79 = .ok (.invokevirtual 57, 3) := by decide +kernel
theorem dX6_sourceText_82 : decode cX6_sourceText 82 = .ok (.aload_n 0, 1) := by decide +kernel
theorem dX6_sourceText_83 : decode cX6_sourceText 83 = .ok (.iconst 4, 1) := by decide +kernel
theorem dX6_sourceText_84 : decode cX6_sourceText 84 = .ok (.invokevirtual 143, 3) := by decide +kernel
theorem dX6_sourceText_87 : decode cX6_sourceText 87 = .ok (.iconst 0, 1) := by decide +kernel
theorem dX6_sourceText_88 : decode cX6_sourceText 88 = .ok (.istore_n 1, 1) := by decide +kernel
theorem dX6_sourceText_89 : decode cX6_sourceText 89 = .ok (.iload_n 1, 1) := by decide +kernel
theorem dX6_sourceText_90 : decode cX6_sourceText 90 = .ok (.iconst 4, 1) := by decide +kernel
theorem dX6_sourceText_91 : decode cX6_sourceText 91 = .ok (.if_icmp .ge 22, 3) := by decide +kernel
theorem dX6_sourceText_94 : decode cX6_sourceText 94 = .ok (.aload_n 0, 1) := by decide +kernel
theorem dX6_sourceText_95 : decode cX6_sourceText 95 = .ok (.getfield 43, 3) := by decide +kernel
theorem dX6_sourceText_98 : decode cX6_sourceText 98 = .ok (.iconst 1, 1) := by decide +kernel
theorem dX6_sourceText_99 : decode cX6_sourceText 99 = .ok (.if_icmp .ne 14, 3) := by decide +kernel
theorem dX6_sourceText_102 : decode cX6_sourceText 102 = .ok (.aload_n 0, 1) := by decide +kernel
theorem dX6_sourceText_103 : decode cX6_sourceText 103 = .ok (.iconst 4, 1) := by decide +kernel
theorem dX6_sourceText_104 : decode cX6_sourceText 104 = .ok (.invokevirtual 143, 3) := by decide +kernel
theorem dX6_sourceText_107 : decode cX6_sourceText 107 = .ok (.iinc 1 1, 3) := by decide +kernel
theorem dX6_sourceText_110 : decode cX6_sourceText 110 = .ok (.goto (-21), 3) := by decide +kernel
theorem dX6_sourceText_113 : decode cX6_sourceText 113 = .ok (.aload_n 0, 1) := by decide +kernel
theorem dX6_sourceText_114 : decode cX6_sourceText 114 = .ok (.bipush 41, 2) := by decide +kernel
theorem dX6_sourceText_116 : decode cX6_sourceText 116 = .ok (.invokevirtual 57, 3) := by decide +kernel
theorem dX6_sourceText_119 : decode cX6_sourceText 119 = .ok (.aload_n 0, 1) := by decide +kernel
theorem dX6_sourceText_120 : decode cX6_sourceText 120 = .ok (.iconst 1, 1) := by decide +kernel
theorem dX6_sourceText_121 : decode cX6_sourceText 121 = .ok (.invokevirtual 146, 3) := by decide +kernel
theorem dX6_sourceText_124 : decode cX6_sourceText 124 = .ok (.aload_n 0, 1) := by decide +kernel
theorem dX6_sourceText_125 : decode cX6_sourceText 125 = .ok (.getfield 88, 3) := by decide +kernel
theorem dX6_sourceText_128 : decode cX6_sourceText 128 = .ok (.aload_n 0, 1) := by decide +kernel
theorem dX6_sourceText_129 : decode cX6_sourceText 129 = .ok (.iconst 0, 1) := by decide +kernel
theorem dX6_sourceText_130 : decode cX6_sourceText 130 = .ok (.sipush 1000, 3) := by decide +kernel
theorem dX6_sourceText_133 : decode cX6_sourceText 133 = .ok (.invokevirtual 134, 3) := by decide +kernel
theorem dX6_sourceText_136 : decode cX6_sourceText 136 = .ok (.putfield 149, 3) := by decide +kernel
theorem dX6_sourceText_139 : decode cX6_sourceText 139 = .ok (.aload_n 0, 1) := by decide +kernel
theorem dX6_sourceText_140 : decode cX6_sourceText 140 = .ok (.invokevirtual 40, 3) := by decide +kernel
theorem dX6_sourceText_143 : decode cX6_sourceText 143 = .ok (.return_, 1) := by decide +kernel
set_option maxRecDepth 20000 in
theorem a_X6_sourceText_113 {Q : Sg → Unit → Prop} {X : Sg → String → Prop} {th : Nat} (K : MD l R p s m args c cX6_sourceText 2 RX6 D cA tys A n0 s0 9 153 []) (hQ : CQV p l e R s m args below meth c cX6_sourceText D cA A n0 s0 QM σi Q) (hX : CX p l e R s m args below meth c 2 D cA A n0 s0 QM σi X) (hTh : CT p l e R s m args below meth c cX6_sourceText 2 D cA A n0 s0 QM σi RX6 X) : ∀ (σ : Sg), w_X6_sourceText_113 th Q X σ → RG σ → TY σ → Ext σi σ → kO σ th 6 → JJ p l e R s m args below meth c 2 D cA A n0 s0 QM σ 113 [(0, .ref th)] [] := by
  intro σ h hGσ hYσ hE hth H locs ls hH hl hc
  have B := K.1
  have hl9 := K.2.2.2.2.2.2
  unfold w_X6_sourceText_113 at h
  refine lv_aload_n B.1 B.2.1 dX6_sourceText_113 rfl (lv_at hl 0 rfl) ?_
  refine lv_bipush (v := i32 41) B.1 B.2.1 dX6_sourceText_114 (by decide) ?_
  refine W.eq (g2 := F0 m 116 ls [.int (i32 41), .ref th]) (rfl) ?_
  refine c_V B hH hl hc K.2.2.1 (C := RX6) (T := TX6) (N := 9) (ci := 6) (As := [.int (i32 41)]) (ok_X6_wantSign hl9 K.2.1 σ th 41 (by unfold rng; omega) hth hGσ hYσ h) wc_X6_57 1 hd_X6_wantSign ⟨Nat.le_trans (Nat.le_of_ble_eq_true rfl) K.2.2.2.1, Nat.le_trans (Nat.le_of_ble_eq_true rfl) K.2.2.2.2.1⟩ hth.1 hth.2 (by decide) rfl rfl (rest := []) rfl (Nat.le_of_ble_eq_true rfl) dX6_sourceText_116 (fun σ53 w hq => ?_) (fun σ9 E9 hx9 => hX σ9 E9 _ _ _ (tb_out K.2.2.2.2.2.1 rfl) hx9.1 hx9.2.1 hx9.2.2.1 (hE.trans hx9.2.2.2))
  obtain ⟨rfl, h, hGσ53, hYσ53, xσ53⟩ := hq
  have h := h xσ53
  intro H locs ls hH hl hc
  refine W.eq (g2 := F0 m 119 ls []) (rfl) ?_
  try dsimp only at h
  refine lv_aload_n B.1 B.2.1 dX6_sourceText_119 rfl (lv_at hl 0 rfl) ?_
  refine lv_iconst (v := i32 1) B.1 B.2.1 dX6_sourceText_120 (by decide) ?_
  refine W.eq (g2 := F0 m 121 ls [.int (i32 1), .ref th]) (rfl) ?_
  refine c_V B hH hl hc K.2.2.1 (C := RX6) (T := TX6) (N := 9) (ci := 6) (As := [.int (i32 1)]) (ok_X6_wantWord hl9 K.2.1 σ53 th 1 (by unfold rng; omega) (hth.up xσ53) hGσ53 hYσ53 h) wc_X6_146 1 hd_X6_wantWord ⟨Nat.le_trans (Nat.le_of_ble_eq_true rfl) K.2.2.2.1, Nat.le_trans (Nat.le_of_ble_eq_true rfl) K.2.2.2.2.1⟩ (hth.up xσ53).1 (hth.up xσ53).2 (by decide) rfl rfl (rest := []) rfl (Nat.le_of_ble_eq_true rfl) dX6_sourceText_121 (fun σ54 w hq => ?_) (fun σ9 E9 hx9 => hX σ9 E9 _ _ _ (tb_out K.2.2.2.2.2.1 rfl) hx9.1 hx9.2.1 hx9.2.2.1 ((hE.trans xσ53).trans hx9.2.2.2))
  obtain ⟨rfl, h, hGσ54, hYσ54, xσ54⟩ := hq
  have h := h xσ54
  intro H locs ls hH hl hc
  refine W.eq (g2 := F0 m 124 ls []) (rfl) ?_
  try dsimp only at h
  refine lv_aload_n B.1 B.2.1 dX6_sourceText_124 rfl (lv_at hl 0 rfl) ?_
  refine f_getp B hH (hth.up (xσ53.trans xσ54)) (by decide) rfl wu_X6 8 (by decide) wf_X6_88 rfl rfl dX6_sourceText_125 ?_
  refine lv_aload_n B.1 B.2.1 dX6_sourceText_128 rfl (lv_at hl 0 rfl) ?_
  refine lv_iconst (v := i32 0) B.1 B.2.1 dX6_sourceText_129 (by decide) ?_
  refine lv_sipush (v := i32 1000) B.1 B.2.1 dX6_sourceText_130 (by decide) ?_
  refine W.eq (g2 := F0 m 133 ls [.int (i32 1000), .int (i32 0), .ref th, va_rf (gP σ54 th 8)]) (rfl) ?_
  refine c_V B hH hl hc K.2.2.1 (C := RX6) (T := TX6) (N := 9) (ci := 6) (As := [.int (i32 0), .int (i32 1000)]) (ok_X6_number hl9 K.2.1 σ54 th 0 1000 (by unfold rng; omega) (by unfold rng; omega) (hth.up (xσ53.trans xσ54)) hGσ54 hYσ54 h) wc_X6_134 2 hd_X6_number ⟨Nat.le_trans (Nat.le_of_ble_eq_true rfl) K.2.2.2.1, Nat.le_trans (Nat.le_of_ble_eq_true rfl) K.2.2.2.2.1⟩ (hth.up (xσ53.trans xσ54)).1 (hth.up (xσ53.trans xσ54)).2 (by decide) rfl rfl (rest := [va_rf (gP σ54 th 8)]) rfl (by simp only [List.map_cons, List.map_nil, rf_cat]; exact Nat.le_of_ble_eq_true rfl) dX6_sourceText_133 (fun σ55 w hq => ?_) (fun σ9 E9 hx9 => hX σ9 E9 _ _ _ (tb_out K.2.2.2.2.2.1 rfl) hx9.1 hx9.2.1 hx9.2.2.1 (((hE.trans xσ53).trans xσ54).trans hx9.2.2.2))
  obtain ⟨r56, rfl, gr56, h, hGσ55, hYσ55, xσ55⟩ := hq
  have h := h xσ55
  intro H locs ls hH hl hc
  refine W.eq (g2 := F0 m 136 ls [.int (i32 r56), va_rf (gP σ54 th 8)]) (rfl) ?_
  try dsimp only at h
  obtain ⟨a57, ea57, h⟩ := h
  have ka57 : kO σ55 a57 5 := ((hYσ54.get (hth.up (xσ53.trans xσ54)) (by decide)).up xσ55) a57 ea57
  have h := h ka57
  obtain ⟨σ58, eσ58⟩ : ∃ z, z = pI σ55 a57 10 r56 := ⟨_, rfl⟩
  have h := h σ58 eσ58
  refine W.eq (g2 := F0 m 136 ls [.int (i32 r56), .ref a57]) (by rw [ea57]; rfl) ?_
  refine f_puti B hH ka57 (by decide) rfl wu_X5 tyX5 tyX5_ok nmX5 10 (by decide) wf_X6_149 rfl (ty := .int) rfl rfl rfl rfl rfl dX6_sourceText_136 (fun H locs hH => ?_)
  have hH : Hd D cA A s (pI σ55 a57 10 r56) H locs := hH
  rw [← eσ58] at hH
  have hGσ58 : RG σ58 := by rw [eσ58]; exact hGσ55.pI gr56
  have hYσ58 : TY σ58 := by rw [eσ58]; exact hYσ55.pI
  have xσ58 : Ext σ55 σ58 := by rw [eσ58]; exact Ext.pI
  have hc : CB n0 s0 σ58 := by rw [eσ58]; exact hc
  rw [show gc σ55 = gc σ58 by rw [eσ58]; try rfl, show gs σ55 = gs σ58 by rw [eσ58]; try rfl]
  refine lv_aload_n B.1 B.2.1 dX6_sourceText_139 rfl (lv_at hl 0 rfl) ?_
  refine W.eq (g2 := F0 m 140 ls [.ref th]) (rfl) ?_
  refine c_V B hH hl hc K.2.2.1 (C := RX6) (T := TX6) (N := 9) (ci := 6) (As := []) (ok_X6_next hl9 K.2.1 σ58 th (hth.up (xσ53.trans (xσ54.trans (xσ55.trans xσ58)))) hGσ58 hYσ58 h) wc_X6_40 0 hd_X6_next ⟨Nat.le_trans (Nat.le_of_ble_eq_true rfl) K.2.2.2.1, Nat.le_trans (Nat.le_of_ble_eq_true rfl) K.2.2.2.2.1⟩ (hth.up (xσ53.trans (xσ54.trans (xσ55.trans xσ58)))).1 (hth.up (xσ53.trans (xσ54.trans (xσ55.trans xσ58)))).2 (by decide) rfl rfl (rest := []) rfl (Nat.le_of_ble_eq_true rfl) dX6_sourceText_140 (fun σ59 w hq => ?_) (fun σ9 E9 hx9 => hX σ9 E9 _ _ _ (tb_out K.2.2.2.2.2.1 rfl) hx9.1 hx9.2.1 hx9.2.2.1 (((((hE.trans xσ53).trans xσ54).trans xσ55).trans xσ58).trans hx9.2.2.2))
  obtain ⟨rfl, h, hGσ59, hYσ59, xσ59⟩ := hq
  have h := h xσ59
  intro H locs ls hH hl hc
  refine W.eq (g2 := F0 m 143 ls []) (rfl) ?_
  try dsimp only at h
  exact hQ _ _ _ _ _ dX6_sourceText_143 hH hc h hGσ59 hYσ59 (((((hE.trans xσ53).trans xσ54).trans xσ55).trans xσ58).trans xσ59)
set_option maxRecDepth 20000 in
theorem a_X6_sourceText_102 {Q : Sg → Unit → Prop} {X : Sg → String → Prop} {th : Nat} (K : MD l R p s m args c cX6_sourceText 2 RX6 D cA tys A n0 s0 9 153 []) (hQ : CQV p l e R s m args below meth c cX6_sourceText D cA A n0 s0 QM σi Q) (hX : CX p l e R s m args below meth c 2 D cA A n0 s0 QM σi X) (hTh : CT p l e R s m args below meth c cX6_sourceText 2 D cA A n0 s0 QM σi RX6 X) {K89 : Sg → Int → Prop} (hK89 : ∀ (σ : Sg) (v1 : Int) (g1 : rng v1), K89 σ v1 → RG σ → TY σ → Ext σi σ → kO σ th 6 → JJ p l e R s m args below meth c 2 D cA A n0 s0 QM σ 89 [(0, .ref th), (1, .int (i32 v1))] []) : ∀ (σ : Sg) (v1 : Int) (g1 : rng v1), w_X6_sourceText_102 th K89 Q X σ v1 → RG σ → TY σ → Ext σi σ → kO σ th 6 → JJ p l e R s m args below meth c 2 D cA A n0 s0 QM σ 102 [(0, .ref th), (1, .int (i32 v1))] [] := by
  intro σ v1 g1 h hGσ hYσ hE hth H locs ls hH hl hc
  have B := K.1
  have hl9 := K.2.2.2.2.2.2
  unfold w_X6_sourceText_102 at h
  refine lv_aload_n B.1 B.2.1 dX6_sourceText_102 rfl (lv_at hl 0 rfl) ?_
  refine lv_iconst (v := i32 4) B.1 B.2.1 dX6_sourceText_103 (by decide) ?_
  refine W.eq (g2 := F0 m 104 ls [.int (i32 4), .ref th]) (rfl) ?_
  refine c_V B hH hl hc K.2.2.1 (C := RX6) (T := TX6) (N := 9) (ci := 6) (As := [.int (i32 4)]) (ok_X6_newColumn hl9 K.2.1 σ th 4 (by unfold rng; omega) hth hGσ hYσ h) wc_X6_143 1 hd_X6_newColumn ⟨Nat.le_trans (Nat.le_of_ble_eq_true rfl) K.2.2.2.1, Nat.le_trans (Nat.le_of_ble_eq_true rfl) K.2.2.2.2.1⟩ hth.1 hth.2 (by decide) rfl rfl (rest := []) rfl (Nat.le_of_ble_eq_true rfl) dX6_sourceText_104 (fun σ60 w hq => ?_) (fun σ9 E9 hx9 => hX σ9 E9 _ _ _ (tb_out K.2.2.2.2.2.1 rfl) hx9.1 hx9.2.1 hx9.2.2.1 (hE.trans hx9.2.2.2))
  obtain ⟨rfl, h, hGσ60, hYσ60, xσ60⟩ := hq
  have h := h xσ60
  intro H locs ls hH hl hc
  refine W.eq (g2 := F0 m 107 ls []) (rfl) ?_
  try dsimp only at h
  obtain ⟨q1, h⟩ := h
  refine lv_iinc (k := 1) (v := i32 (v1 + 1)) (lv' := [(1, .int (i32 (v1 + 1))), (0, .ref th)]) B.1 B.2.1 dX6_sourceText_107 hl rfl (i32_add _ _) (by decide) rfl (fun ls hl => ?_)
  refine lv_goto (tgt := 89) B.1 B.2.1 dX6_sourceText_110 (by decide) ?_
  exact hK89 _ _ q1 h hGσ60 hYσ60 (hE.trans xσ60) (hth.up xσ60) _ _ _ hH (lv_sub (l' := [(0, .ref th), (1, .int (i32 (v1 + 1)))]) hl [1, 0] rfl) hc
set_option maxRecDepth 20000 in
theorem a_X6_sourceText_94 {Q : Sg → Unit → Prop} {X : Sg → String → Prop} {th : Nat} (K : MD l R p s m args c cX6_sourceText 2 RX6 D cA tys A n0 s0 9 153 []) (hQ : CQV p l e R s m args below meth c cX6_sourceText D cA A n0 s0 QM σi Q) (hX : CX p l e R s m args below meth c 2 D cA A n0 s0 QM σi X) (hTh : CT p l e R s m args below meth c cX6_sourceText 2 D cA A n0 s0 QM σi RX6 X) {K89 : Sg → Int → Prop} (hK89 : ∀ (σ : Sg) (v1 : Int) (g1 : rng v1), K89 σ v1 → RG σ → TY σ → Ext σi σ → kO σ th 6 → JJ p l e R s m args below meth c 2 D cA A n0 s0 QM σ 89 [(0, .ref th), (1, .int (i32 v1))] []) : ∀ (σ : Sg) (v1 : Int) (g1 : rng v1), w_X6_sourceText_94 th K89 Q X σ v1 → RG σ → TY σ → Ext σi σ → kO σ th 6 → JJ p l e R s m args below meth c 2 D cA A n0 s0 QM σ 94 [(0, .ref th), (1, .int (i32 v1))] [] := by
  intro σ v1 g1 h hGσ hYσ hE hth H locs ls hH hl hc
  have B := K.1
  have hl9 := K.2.2.2.2.2.2
  unfold w_X6_sourceText_94 at h
  refine lv_aload_n B.1 B.2.1 dX6_sourceText_94 rfl (lv_at hl 0 rfl) ?_
  refine f_geti B hH hth (by decide) rfl wu_X6 3 (by decide) wf_X6_43 rfl rfl dX6_sourceText_95 ?_
  refine lv_iconst (v := i32 1) B.1 B.2.1 dX6_sourceText_98 (by decide) ?_
  refine lv_icmp_ne (tgt := 113) B.1 B.2.1 dX6_sourceText_99 (by decide) (fun h9 => ?_) (fun h9 => ?_)
  · rw [if_pos (fun q => h9 ((i32_eq (hGσ _ _) (by unfold rng; omega)).mpr q))] at h
    exact a_X6_sourceText_113 K hQ hX hTh _ h hGσ hYσ hE hth _ _ _ hH (lv_sub (l' := [(0, .ref th)]) hl [0] rfl) hc
  · rw [if_neg (fun q => q ((i32_eq (hGσ _ _) (by unfold rng; omega)).mp h9))] at h
    exact a_X6_sourceText_102 K hQ hX hTh hK89 _ _ g1 h hGσ hYσ hE hth _ _ _ hH (lv_sub (l' := [(0, .ref th), (1, .int (i32 v1))]) hl [0, 1] rfl) hc
set_option maxRecDepth 20000 in
theorem a_X6_sourceText_89 {Q : Sg → Unit → Prop} {X : Sg → String → Prop} {th : Nat} (K : MD l R p s m args c cX6_sourceText 2 RX6 D cA tys A n0 s0 9 153 []) (hQ : CQV p l e R s m args below meth c cX6_sourceText D cA A n0 s0 QM σi Q) (hX : CX p l e R s m args below meth c 2 D cA A n0 s0 QM σi X) (hTh : CT p l e R s m args below meth c cX6_sourceText 2 D cA A n0 s0 QM σi RX6 X) {K89 : Sg → Int → Prop} (hK89 : ∀ (σ : Sg) (v1 : Int) (g1 : rng v1), K89 σ v1 → RG σ → TY σ → Ext σi σ → kO σ th 6 → JJ p l e R s m args below meth c 2 D cA A n0 s0 QM σ 89 [(0, .ref th), (1, .int (i32 v1))] []) : ∀ (σ : Sg) (v1 : Int) (g1 : rng v1), w_X6_sourceText_89 th K89 Q X σ v1 → RG σ → TY σ → Ext σi σ → kO σ th 6 → JJ p l e R s m args below meth c 2 D cA A n0 s0 QM σ 89 [(0, .ref th), (1, .int (i32 v1))] [] := by
  intro σ v1 g1 h hGσ hYσ hE hth H locs ls hH hl hc
  have B := K.1
  have hl9 := K.2.2.2.2.2.2
  unfold w_X6_sourceText_89 at h
  refine lv_iload_n B.1 B.2.1 dX6_sourceText_89 rfl (lv_at hl 1 rfl) ?_
  refine lv_iconst (v := i32 4) B.1 B.2.1 dX6_sourceText_90 (by decide) ?_
  refine lv_icmp_ge (tgt := 113) B.1 B.2.1 dX6_sourceText_91 (by decide) (fun h9 => ?_) (fun h9 => ?_)
  · rw [if_pos ((i32_le (by unfold rng; omega) g1).mp h9)] at h
    exact a_X6_sourceText_113 K hQ hX hTh _ h hGσ hYσ hE hth _ _ _ hH (lv_sub (l' := [(0, .ref th)]) hl [0] rfl) hc
  · rw [if_neg (fun q => h9 ((i32_le (by unfold rng; omega) g1).mpr q))] at h
    exact a_X6_sourceText_94 K hQ hX hTh hK89 _ _ g1 h hGσ hYσ hE hth _ _ _ hH (lv_sub (l' := [(0, .ref th), (1, .int (i32 v1))]) hl [0, 1] rfl) hc
theorem al_X6_sourceText_89 {Q : Sg → Unit → Prop} {X : Sg → String → Prop} {th : Nat} (K : MD l R p s m args c cX6_sourceText 2 RX6 D cA tys A n0 s0 9 153 []) (hQ : CQV p l e R s m args below meth c cX6_sourceText D cA A n0 s0 QM σi Q) (hX : CX p l e R s m args below meth c 2 D cA A n0 s0 QM σi X) (hTh : CT p l e R s m args below meth c cX6_sourceText 2 D cA A n0 s0 QM σi RX6 X) : ∀ (n : Nat), ∀ (σ : Sg) (v1 : Int) (g1 : rng v1), wl_X6_sourceText_89 th Q X n σ v1 → RG σ → TY σ → Ext σi σ → kO σ th 6 → JJ p l e R s m args below meth c 2 D cA A n0 s0 QM σ 89 [(0, .ref th), (1, .int (i32 v1))] [] := by
  intro n
  induction n with
  | zero => intro σ v1 g1 h; exact h.elim
  | succ n ih => exact fun σ v1 g1 h => a_X6_sourceText_89 K hQ hX hTh ih σ v1 g1 h
set_option maxRecDepth 20000 in
theorem a_X6_sourceText_50 {Q : Sg → Unit → Prop} {X : Sg → String → Prop} {th : Nat} (K : MD l R p s m args c cX6_sourceText 2 RX6 D cA tys A n0 s0 9 153 []) (hQ : CQV p l e R s m args below meth c cX6_sourceText D cA A n0 s0 QM σi Q) (hX : CX p l e R s m args below meth c 2 D cA A n0 s0 QM σi X) (hTh : CT p l e R s m args below meth c cX6_sourceText 2 D cA A n0 s0 QM σi RX6 X) : ∀ (σ : Sg), w_X6_sourceText_50 th Q X σ → RG σ → TY σ → Ext σi σ → kO σ th 6 → JJ p l e R s m args below meth c 2 D cA A n0 s0 QM σ 50 [(0, .ref th)] [] := by
  intro σ h hGσ hYσ hE hth H locs ls hH hl hc
  have B := K.1
  have hl9 := K.2.2.2.2.2.2
  unfold w_X6_sourceText_50 at h
  refine lv_aload_n B.1 B.2.1 dX6_sourceText_50 rfl (lv_at hl 0 rfl) ?_
  refine f_getp B hH hth (by decide) rfl wu_X6 7 (by decide) wf_X6_31 rfl rfl dX6_sourceText_51 ?_
  obtain ⟨a61, ea61, h⟩ := h
  have ka61 : kO σ a61 4 := (hYσ.get hth (by decide)) a61 ea61
  have h := h ka61
  refine W.eq (g2 := F0 m 54 ls [.ref a61]) (by rw [ea61]; rfl) ?_
  refine f_getp B hH ka61 (by decide) rfl wu_X4 4 (by decide) wf_X6_139 rfl rfl dX6_sourceText_54 ?_
  refine lv_aload_n B.1 B.2.1 dX6_sourceText_57 rfl (lv_at hl 0 rfl) ?_
  refine f_getp B hH hth (by decide) rfl wu_X6 8 (by decide) wf_X6_88 rfl rfl dX6_sourceText_58 ?_
  obtain ⟨a62, ea62, h⟩ := h
  have ka62 : kO σ a62 5 := (hYσ.get hth (by decide)) a62 ea62
  have h := h ka62
  refine W.eq (g2 := F0 m 61 ls [.ref a62, va_rf (gP σ a61 4)]) (by rw [ea62]; rfl) ?_
  refine f_geti B hH ka62 (by decide) rfl wu_X5 9 (by decide) wf_X6_137 rfl rfl dX6_sourceText_61 ?_
  refine lv_aload_n B.1 B.2.1 dX6_sourceText_64 rfl (lv_at hl 0 rfl) ?_
  refine f_getp B hH hth (by decide) rfl wu_X6 7 (by decide) wf_X6_31 rfl rfl dX6_sourceText_65 ?_
  refine W.eq (g2 := F0 m 68 ls [.ref a61, .int (i32 (gI σ a62 9)), va_rf (gP σ a61 4)]) (by rw [ea61]; rfl) ?_
  refine f_geti B hH ka61 (by decide) rfl wu_X4 1 (by decide) wf_X6_61 rfl rfl dX6_sourceText_68 ?_
  obtain ⟨a63, ea63, h⟩ := h
  have ka63 : kO σ a63 100 := (hYσ.get ka61 (by decide)) a63 ea63
  have h := h ka63
  obtain ⟨q1, h⟩ := h
  obtain ⟨σ64, eσ64⟩ : ∃ z, z = pI σ a63 (gI σ a62 9).toNat (gI σ a61 1) := ⟨_, rfl⟩
  have h := h σ64 eσ64
  refine W.eq (g2 := F0 m 71 ls [.int (i32 (gI σ a61 1)), .int (i32 (gI σ a62 9)), .ref a63]) (by rw [ea63]; rfl) ?_
  refine y_iast B K.2.1 hH ka63 q1 dX6_sourceText_71 (hYσ.2 _) (fun H locs hH => ?_)
  have hH : Hd D cA A s (pI σ a63 (gI σ a62 9).toNat (gI σ a61 1)) H locs := hH
  rw [← eσ64] at hH
  have hGσ64 : RG σ64 := by rw [eσ64]; exact hGσ.pI (hGσ _ _)
  have hYσ64 : TY σ64 := by rw [eσ64]; exact hYσ.pI
  have xσ64 : Ext σ σ64 := by rw [eσ64]; exact Ext.pI
  have hc : CB n0 s0 σ64 := by rw [eσ64]; exact hc
  rw [show gc σ = gc σ64 by rw [eσ64]; try rfl, show gs σ = gs σ64 by rw [eσ64]; try rfl]
  refine lv_aload_n B.1 B.2.1 dX6_sourceText_72 rfl (lv_at hl 0 rfl) ?_
  refine W.eq (g2 := F0 m 73 ls [.ref th]) (rfl) ?_
  refine c_V B hH hl hc K.2.2.1 (C := RX6) (T := TX6) (N := 9) (ci := 6) (As := []) (ok_X6_next hl9 K.2.1 σ64 th (hth.up xσ64) hGσ64 hYσ64 h) wc_X6_40 0 hd_X6_next ⟨Nat.le_trans (Nat.le_of_ble_eq_true rfl) K.2.2.2.1, Nat.le_trans (Nat.le_of_ble_eq_true rfl) K.2.2.2.2.1⟩ (hth.up xσ64).1 (hth.up xσ64).2 (by decide) rfl rfl (rest := []) rfl (Nat.le_of_ble_eq_true rfl) dX6_sourceText_73 (fun σ65 w hq => ?_) (fun σ9 E9 hx9 => hX σ9 E9 _ _ _ (tb_out K.2.2.2.2.2.1 rfl) hx9.1 hx9.2.1 hx9.2.2.1 ((hE.trans xσ64).trans hx9.2.2.2))
  obtain ⟨rfl, h, hGσ65, hYσ65, xσ65⟩ := hq
  have h := h xσ65
  intro H locs ls hH hl hc
  refine W.eq (g2 := F0 m 76 ls []) (rfl) ?_
  try dsimp only at h
  refine lv_aload_n B.1 B.2.1 dX6_sourceText_76 rfl (lv_at hl 0 rfl) ?_
  refine lv_bipush (v := i32 40) B.1 B.2.1 dX6_sourceText_77 (by decide) ?_
  refine W.eq (g2 := F0 m 79 ls [.int (i32 40), .ref th]) (rfl) ?_
  refine c_V B hH hl hc K.2.2.1 (C := RX6) (T := TX6) (N := 9) (ci := 6) (As := [.int (i32 40)]) (ok_X6_wantSign hl9 K.2.1 σ65 th 40 (by unfold rng; omega) (hth.up (xσ64.trans xσ65)) hGσ65 hYσ65 h) wc_X6_57 1 hd_X6_wantSign ⟨Nat.le_trans (Nat.le_of_ble_eq_true rfl) K.2.2.2.1, Nat.le_trans (Nat.le_of_ble_eq_true rfl) K.2.2.2.2.1⟩ (hth.up (xσ64.trans xσ65)).1 (hth.up (xσ64.trans xσ65)).2 (by decide) rfl rfl (rest := []) rfl (Nat.le_of_ble_eq_true rfl) dX6_sourceText_79 (fun σ66 w hq => ?_) (fun σ9 E9 hx9 => hX σ9 E9 _ _ _ (tb_out K.2.2.2.2.2.1 rfl) hx9.1 hx9.2.1 hx9.2.2.1 (((hE.trans xσ64).trans xσ65).trans hx9.2.2.2))
  obtain ⟨rfl, h, hGσ66, hYσ66, xσ66⟩ := hq
  have h := h xσ66
  intro H locs ls hH hl hc
  refine W.eq (g2 := F0 m 82 ls []) (rfl) ?_
  try dsimp only at h
  refine lv_aload_n B.1 B.2.1 dX6_sourceText_82 rfl (lv_at hl 0 rfl) ?_
  refine lv_iconst (v := i32 4) B.1 B.2.1 dX6_sourceText_83 (by decide) ?_
  refine W.eq (g2 := F0 m 84 ls [.int (i32 4), .ref th]) (rfl) ?_
  refine c_V B hH hl hc K.2.2.1 (C := RX6) (T := TX6) (N := 9) (ci := 6) (As := [.int (i32 4)]) (ok_X6_newColumn hl9 K.2.1 σ66 th 4 (by unfold rng; omega) (hth.up (xσ64.trans (xσ65.trans xσ66))) hGσ66 hYσ66 h) wc_X6_143 1 hd_X6_newColumn ⟨Nat.le_trans (Nat.le_of_ble_eq_true rfl) K.2.2.2.1, Nat.le_trans (Nat.le_of_ble_eq_true rfl) K.2.2.2.2.1⟩ (hth.up (xσ64.trans (xσ65.trans xσ66))).1 (hth.up (xσ64.trans (xσ65.trans xσ66))).2 (by decide) rfl rfl (rest := []) rfl (Nat.le_of_ble_eq_true rfl) dX6_sourceText_84 (fun σ67 w hq => ?_) (fun σ9 E9 hx9 => hX σ9 E9 _ _ _ (tb_out K.2.2.2.2.2.1 rfl) hx9.1 hx9.2.1 hx9.2.2.1 ((((hE.trans xσ64).trans xσ65).trans xσ66).trans hx9.2.2.2))
  obtain ⟨rfl, h, hGσ67, hYσ67, xσ67⟩ := hq
  have h := h xσ67
  intro H locs ls hH hl hc
  refine W.eq (g2 := F0 m 87 ls []) (rfl) ?_
  try dsimp only at h
  refine lv_iconst (v := i32 0) B.1 B.2.1 dX6_sourceText_87 (by decide) ?_
  refine lv_istore_n (lv' := [(1, .int (i32 0)), (0, .ref th)]) B.1 B.2.1 dX6_sourceText_88 rfl hl (by decide) rfl (fun ls hl => ?_)
  obtain ⟨n9, h⟩ := h
  exact al_X6_sourceText_89 K hQ hX hTh n9 _ _ (by unfold rng; omega) h hGσ67 hYσ67 ((((hE.trans xσ64).trans xσ65).trans xσ66).trans xσ67) (hth.up (xσ64.trans (xσ65.trans (xσ66.trans xσ67)))) _ _ _ hH (lv_sub (l' := [(0, .ref th), (1, .int (i32 0))]) hl [1, 0] rfl) hc
set_option maxRecDepth 20000 in
theorem a_X6_sourceText_44 {Q : Sg → Unit → Prop} {X : Sg → String → Prop} {th : Nat} (K : MD l R p s m args c cX6_sourceText 2 RX6 D cA tys A n0 s0 9 153 []) (hQ : CQV p l e R s m args below meth c cX6_sourceText D cA A n0 s0 QM σi Q) (hX : CX p l e R s m args below meth c 2 D cA A n0 s0 QM σi X) (hTh : CT p l e R s m args below meth c cX6_sourceText 2 D cA A n0 s0 QM σi RX6 X) : ∀ (σ : Sg), w_X6_sourceText_44 th Q X σ → RG σ → TY σ → Ext σi σ → kO σ th 6 → JJ p l e R s m args below meth c 2 D cA A n0 s0 QM σ 44 [(0, .ref th)] [] := by
  intro σ h hGσ hYσ hE hth H locs ls hH hl hc
  have B := K.1
  have hl9 := K.2.2.2.2.2.2
  unfold w_X6_sourceText_44 at h
  refine lv_aload_n B.1 B.2.1 dX6_sourceText_44 rfl (lv_at hl 0 rfl) ?_
  refine lv_bipush (v := i32 7) B.1 B.2.1 dX6_sourceText_45 (by decide) ?_
  refine W.eq (g2 := F0 m 47 ls [.int (i32 7), .ref th]) (rfl) ?_
  refine c_V B hH hl hc K.2.2.1 (C := RX6) (T := TX6) (N := 9) (ci := 6) (As := [.int (i32 7)]) (ok_X6_refuse hl9 K.2.1 σ th 7 (by unfold rng; omega) hth hGσ hYσ h) wc_X6_81 1 hd_X6_refuse ⟨Nat.le_trans (Nat.le_of_ble_eq_true rfl) K.2.2.2.1, Nat.le_trans (Nat.le_of_ble_eq_true rfl) K.2.2.2.2.1⟩ hth.1 hth.2 (by decide) rfl rfl (rest := []) rfl (Nat.le_of_ble_eq_true rfl) dX6_sourceText_47 (fun σ68 w hq => ?_) (fun σ9 E9 hx9 => hX σ9 E9 _ _ _ (tb_out K.2.2.2.2.2.1 rfl) hx9.1 hx9.2.1 hx9.2.2.1 (hE.trans hx9.2.2.2))
  obtain ⟨rfl, h, hGσ68, hYσ68, xσ68⟩ := hq
  have h := h xσ68
  intro H locs ls hH hl hc
  refine W.eq (g2 := F0 m 50 ls []) (rfl) ?_
  try dsimp only at h
  exact a_X6_sourceText_50 K hQ hX hTh _ h hGσ68 hYσ68 (hE.trans xσ68) (hth.up xσ68) _ _ _ hH (lv_sub (l' := [(0, .ref th)]) hl [0] rfl) hc
set_option maxRecDepth 20000 in
theorem a_X6_sourceText_0 {Q : Sg → Unit → Prop} {X : Sg → String → Prop} {th : Nat} (K : MD l R p s m args c cX6_sourceText 2 RX6 D cA tys A n0 s0 9 153 []) (hQ : CQV p l e R s m args below meth c cX6_sourceText D cA A n0 s0 QM σi Q) (hX : CX p l e R s m args below meth c 2 D cA A n0 s0 QM σi X) (hTh : CT p l e R s m args below meth c cX6_sourceText 2 D cA A n0 s0 QM σi RX6 X) : ∀ (σ : Sg), w_X6_sourceText_0 th Q X σ → RG σ → TY σ → Ext σi σ → kO σ th 6 → JJ p l e R s m args below meth c 2 D cA A n0 s0 QM σ 0 [(0, .ref th)] [] := by
  intro σ h hGσ hYσ hE hth H locs ls hH hl hc
  have B := K.1
  have hl9 := K.2.2.2.2.2.2
  unfold w_X6_sourceText_0 at h
  refine lv_aload_n B.1 B.2.1 dX6_sourceText_0 rfl (lv_at hl 0 rfl) ?_
  refine W.eq (g2 := F0 m 1 ls [.ref th]) (rfl) ?_
  refine c_V B hH hl hc K.2.2.1 (C := RX6) (T := TX6) (N := 9) (ci := 6) (As := []) (ok_X6_next hl9 K.2.1 σ th hth hGσ hYσ h) wc_X6_40 0 hd_X6_next ⟨Nat.le_trans (Nat.le_of_ble_eq_true rfl) K.2.2.2.1, Nat.le_trans (Nat.le_of_ble_eq_true rfl) K.2.2.2.2.1⟩ hth.1 hth.2 (by decide) rfl rfl (rest := []) rfl (Nat.le_of_ble_eq_true rfl) dX6_sourceText_1 (fun σ69 w hq => ?_) (fun σ9 E9 hx9 => hX σ9 E9 _ _ _ (tb_out K.2.2.2.2.2.1 rfl) hx9.1 hx9.2.1 hx9.2.2.1 (hE.trans hx9.2.2.2))
  obtain ⟨rfl, h, hGσ69, hYσ69, xσ69⟩ := hq
  have h := h xσ69
  intro H locs ls hH hl hc
  refine W.eq (g2 := F0 m 4 ls []) (rfl) ?_
  try dsimp only at h
  refine lv_aload_n B.1 B.2.1 dX6_sourceText_4 rfl (lv_at hl 0 rfl) ?_
  refine f_getp B hH (hth.up xσ69) (by decide) rfl wu_X6 8 (by decide) wf_X6_88 rfl rfl dX6_sourceText_5 ?_
  refine lv_iconst (v := i32 0) B.1 B.2.1 dX6_sourceText_8 (by decide) ?_
  obtain ⟨a70, ea70, h⟩ := h
  have ka70 : kO σ69 a70 5 := (hYσ69.get (hth.up xσ69) (by decide)) a70 ea70
  have h := h ka70
  obtain ⟨σ71, eσ71⟩ : ∃ z, z = pI σ69 a70 6 0 := ⟨_, rfl⟩
  have h := h σ71 eσ71
  refine W.eq (g2 := F0 m 9 ls [.int (i32 0), .ref a70]) (by rw [ea70]; rfl) ?_
  refine f_puti B hH ka70 (by decide) rfl wu_X5 tyX5 tyX5_ok nmX5 6 (by decide) wf_X6_131 rfl (ty := .int) rfl rfl rfl rfl rfl dX6_sourceText_9 (fun H locs hH => ?_)
  have hH : Hd D cA A s (pI σ69 a70 6 0) H locs := hH
  rw [← eσ71] at hH
  have hGσ71 : RG σ71 := by rw [eσ71]; exact hGσ69.pI (by unfold rng; omega)
  have hYσ71 : TY σ71 := by rw [eσ71]; exact hYσ69.pI
  have xσ71 : Ext σ69 σ71 := by rw [eσ71]; exact Ext.pI
  have hc : CB n0 s0 σ71 := by rw [eσ71]; exact hc
  rw [show gc σ69 = gc σ71 by rw [eσ71]; try rfl, show gs σ69 = gs σ71 by rw [eσ71]; try rfl]
  refine lv_aload_n B.1 B.2.1 dX6_sourceText_12 rfl (lv_at hl 0 rfl) ?_
  refine f_getp B hH (hth.up (xσ69.trans xσ71)) (by decide) rfl wu_X6 8 (by decide) wf_X6_88 rfl rfl dX6_sourceText_13 ?_
  refine lv_aload_n B.1 B.2.1 dX6_sourceText_16 rfl (lv_at hl 0 rfl) ?_
  refine lv_iconst (v := i32 0) B.1 B.2.1 dX6_sourceText_17 (by decide) ?_
  refine lv_iconst (v := i32 3) B.1 B.2.1 dX6_sourceText_18 (by decide) ?_
  refine W.eq (g2 := F0 m 19 ls [.int (i32 3), .int (i32 0), .ref th, va_rf (gP σ71 th 8)]) (rfl) ?_
  refine c_V B hH hl hc K.2.2.1 (C := RX6) (T := TX6) (N := 9) (ci := 6) (As := [.int (i32 0), .int (i32 3)]) (ok_X6_number hl9 K.2.1 σ71 th 0 3 (by unfold rng; omega) (by unfold rng; omega) (hth.up (xσ69.trans xσ71)) hGσ71 hYσ71 h) wc_X6_134 2 hd_X6_number ⟨Nat.le_trans (Nat.le_of_ble_eq_true rfl) K.2.2.2.1, Nat.le_trans (Nat.le_of_ble_eq_true rfl) K.2.2.2.2.1⟩ (hth.up (xσ69.trans xσ71)).1 (hth.up (xσ69.trans xσ71)).2 (by decide) rfl rfl (rest := [va_rf (gP σ71 th 8)]) rfl (by simp only [List.map_cons, List.map_nil, rf_cat]; exact Nat.le_of_ble_eq_true rfl) dX6_sourceText_19 (fun σ72 w hq => ?_) (fun σ9 E9 hx9 => hX σ9 E9 _ _ _ (tb_out K.2.2.2.2.2.1 rfl) hx9.1 hx9.2.1 hx9.2.2.1 (((hE.trans xσ69).trans xσ71).trans hx9.2.2.2))
  obtain ⟨r73, rfl, gr73, h, hGσ72, hYσ72, xσ72⟩ := hq
  have h := h xσ72
  intro H locs ls hH hl hc
  refine W.eq (g2 := F0 m 22 ls [.int (i32 r73), va_rf (gP σ71 th 8)]) (rfl) ?_
  try dsimp only at h
  obtain ⟨a74, ea74, h⟩ := h
  have ka74 : kO σ72 a74 5 := ((hYσ71.get (hth.up (xσ69.trans xσ71)) (by decide)).up xσ72) a74 ea74
  have h := h ka74
  obtain ⟨σ75, eσ75⟩ : ∃ z, z = pI σ72 a74 9 r73 := ⟨_, rfl⟩
  have h := h σ75 eσ75
  refine W.eq (g2 := F0 m 22 ls [.int (i32 r73), .ref a74]) (by rw [ea74]; rfl) ?_
  refine f_puti B hH ka74 (by decide) rfl wu_X5 tyX5 tyX5_ok nmX5 9 (by decide) wf_X6_137 rfl (ty := .int) rfl rfl rfl rfl rfl dX6_sourceText_22 (fun H locs hH => ?_)
  have hH : Hd D cA A s (pI σ72 a74 9 r73) H locs := hH
  rw [← eσ75] at hH
  have hGσ75 : RG σ75 := by rw [eσ75]; exact hGσ72.pI gr73
  have hYσ75 : TY σ75 := by rw [eσ75]; exact hYσ72.pI
  have xσ75 : Ext σ72 σ75 := by rw [eσ75]; exact Ext.pI
  have hc : CB n0 s0 σ75 := by rw [eσ75]; exact hc
  rw [show gc σ72 = gc σ75 by rw [eσ75]; try rfl, show gs σ72 = gs σ75 by rw [eσ75]; try rfl]
  refine lv_aload_n B.1 B.2.1 dX6_sourceText_25 rfl (lv_at hl 0 rfl) ?_
  refine f_getp B hH (hth.up (xσ69.trans (xσ71.trans (xσ72.trans xσ75)))) (by decide) rfl wu_X6 7 (by decide) wf_X6_31 rfl rfl dX6_sourceText_26 ?_
  obtain ⟨a76, ea76, h⟩ := h
  have ka76 : kO σ75 a76 4 := (hYσ75.get (hth.up (xσ69.trans (xσ71.trans (xσ72.trans xσ75)))) (by decide)) a76 ea76
  have h := h ka76
  refine W.eq (g2 := F0 m 29 ls [.ref a76]) (by rw [ea76]; rfl) ?_
  refine f_getp B hH ka76 (by decide) rfl wu_X4 4 (by decide) wf_X6_139 rfl rfl dX6_sourceText_29 ?_
  refine lv_aload_n B.1 B.2.1 dX6_sourceText_32 rfl (lv_at hl 0 rfl) ?_
  refine f_getp B hH (hth.up (xσ69.trans (xσ71.trans (xσ72.trans xσ75)))) (by decide) rfl wu_X6 8 (by decide) wf_X6_88 rfl rfl dX6_sourceText_33 ?_
  obtain ⟨a77, ea77, h⟩ := h
  have ka77 : kO σ75 a77 5 := (hYσ75.get (hth.up (xσ69.trans (xσ71.trans (xσ72.trans xσ75)))) (by decide)) a77 ea77
  have h := h ka77
  refine W.eq (g2 := F0 m 36 ls [.ref a77, va_rf (gP σ75 a76 4)]) (by rw [ea77]; rfl) ?_
  refine f_geti B hH ka77 (by decide) rfl wu_X5 9 (by decide) wf_X6_137 rfl rfl dX6_sourceText_36 ?_
  obtain ⟨a78, ea78, h⟩ := h
  have ka78 : kO σ75 a78 100 := (hYσ75.get ka76 (by decide)) a78 ea78
  have h := h ka78
  obtain ⟨q1, h⟩ := h
  refine W.eq (g2 := F0 m 39 ls [.int (i32 (gI σ75 a77 9)), .ref a78]) (by rw [ea78]; rfl) ?_
  refine y_iald B K.2.1 hH ka78 q1 dX6_sourceText_39 (hYσ75.2 _) ?_
  refine lv_iconst (v := i32 (-1)) B.1 B.2.1 dX6_sourceText_40 (by decide) ?_
  refine lv_icmp_eq (tgt := 50) B.1 B.2.1 dX6_sourceText_41 (by decide) (fun h9 => ?_) (fun h9 => ?_)
  · rw [if_pos ((i32_eq (hGσ75 _ _) (by unfold rng; omega)).mp h9)] at h
    exact a_X6_sourceText_50 K hQ hX hTh _ h hGσ75 hYσ75 ((((hE.trans xσ69).trans xσ71).trans xσ72).trans xσ75) (hth.up (xσ69.trans (xσ71.trans (xσ72.trans xσ75)))) _ _ _ hH (lv_sub (l' := [(0, .ref th)]) hl [0] rfl) hc
  · rw [if_neg (fun q => h9 ((i32_eq (hGσ75 _ _) (by unfold rng; omega)).mpr q))] at h
    exact a_X6_sourceText_44 K hQ hX hTh _ h hGσ75 hYσ75 ((((hE.trans xσ69).trans xσ71).trans xσ72).trans xσ75) (hth.up (xσ69.trans (xσ71.trans (xσ72.trans xσ75)))) _ _ _ hH (lv_sub (l' := [(0, .ref th)]) hl [0] rfl) hc
theorem ok_X6_sourceText (hl0 : l.stackTraces = false) (hT : TyC cA tys) {Q : Sg → Unit → Prop} {X : Sg → String → Prop} (σ : Sg) (th : Nat) (hth : kO σ th 6) (hG : RG σ) (hY : TY σ) (h : wp_X6_sourceText th σ Q X) : Ok l D cA tys A yX6_sourceText (.code yX6_sourceText cX6_sourceText 2 none) 9 153 [.ref th] σ (QcV σ Q) (QxC σ X) := by
  unfold wp_X6_sourceText at h
  exact oc_V hl0 (by decide) (by exact Nat.le_of_ble_eq_true rfl) hT (fun p e R s m args below meth c K hQ hX hTh hin9 H locs ls hH hl hc => a_X6_sourceText_0 K hQ hX hTh σ h hG hY (Ext.rfl' σ) hth H locs ls hH (lv_sub (l' := [(0, .ref th)]) hl [0] rfl) hc)
theorem dX6_topText_0 : decode cX6_topText 0 = .ok (.aload_n 0, 1) := by decide +kernel
theorem dX6_topText_1 : decode cX6_topText 1 = .ok (.invokevirtual 40, 3) := by decide +kernel
theorem dX6_topText_4 : decode cX6_topText 4 = .ok (.aload_n 0, 1) := by decide +kernel
theorem dX6_topText_5 : decode cX6_topText 5 = .ok (.getfield 88, 3) := by decide +kernel
theorem dX6_topText_8 : decode cX6_topText 8 = .ok (.aload_n 0, 1) := by decide +kernel
theorem dX6_topText_9 : decode cX6_topText 9 = .ok (.iconst 1, 1) := by decide +kernel
theorem dX6_topText_10 : decode cX6_topText 10 = .ok (.bipush 9, 2) := by decide +kernel
theorem dX6_topText_12 : decode cX6_topText 12 = .ok (.invokevirtual 134, 3) := by decide +kernel
theorem dX6_topText_15 : decode cX6_topText 15 = .ok (.putfield 137, 3) := by decide +kernel
theorem dX6_topText_18 : decode cX6_topText 18 = .ok (.aload_n 0, 1) := by decide +kernel
theorem dX6_topText_19 : decode cX6_topText 19 = .ok (.invokevirtual 40, 3) := by decide +kernel
theorem dX6_topText_22 : decode cX6_topText 22 = .ok (.aload_n 0, 1) := by decide +kernel
theorem dX6_topText_23 : decode cX6_topText 23 = .ok (.bipush 10, 2) := by decide +kernel
theorem dX6_topText_25 : decode cX6_topText 25 = .ok (.invokevirtual 152, 3) := by decide +kernel
theorem dX6_topText_28 : decode cX6_topText 28 = .ok (.aload_n 0, 1) := by decide +kernel
theorem dX6_topText_29 : decode cX6_topText 29 = .ok (.getfield 31, 3) := by decide +kernel
theorem dX6_topText_32 : decode cX6_topText 32 = .ok (.getfield 84, 3) := by decide +kernel
theorem dX6_topText_35 : decode cX6_topText 35 = .ok (.aload_n 0, 1) := by decide +kernel
theorem dX6_topText_36 : decode cX6_topText 36 = .ok (.getfield 88, 3) := by decide +kernel
theorem dX6_topText_39 : decode cX6_topText 39 = .ok (.getfield 155, 3) := by decide +kernel
theorem dX6_topText_42 : decode cX6_topText 42 = .ok (.aaload, 1) := by decide +kernel
theorem dX6_topText_43 : decode cX6_topText 43 = .ok (.astore_n 1, 1) := by decide +kernel
theorem dX6_topText_44 : decode cX6_topText 44 = .ok (.aload_n 1, 1) := by decide +kernel
theorem dX6_topText_45 : decode cX6_topText 45 = .ok (.ldc2_w 233, 3) := by decide +kernel
theorem dX6_topText_48 : decode cX6_topText 48 = .ok (.invokevirtual 235, 3) := by decide +kernel
theorem dX6_topText_51 : decode cX6_topText 51 = .ok (.iconst (-1), 1) := by decide +kernel
theorem dX6_topText_52 : decode cX6_topText 52 = .ok (.if_icmp .eq 9, 3) := by decide +kernel
theorem dX6_topText_55 : decode cX6_topText 55 = .ok (.aload_n 0, 1) := by decide +kernel
theorem dX6_topText_56 : decode cX6_topText 56 = .ok (.bipush 6, 2) := by decide +kernel
theorem dX6_topText_58 : decode cX6_topText 58 = .ok (.invokevirtual 81, 3) := by decide +kernel
theorem dX6_topText_61 : decode cX6_topText 61 = .ok (.aload_n 1, 1) := by decide +kernel
theorem dX6_topText_62 : decode cX6_topText 62 = .ok (.getfield 214, 3) := by decide +kernel
theorem dX6_topText_65 : decode cX6_topText 65 = .ok (.bipush 8, 2) := by decide +kernel
theorem dX6_topText_67 : decode cX6_topText 67 = .ok (.if_icmp .ne 9, 3) := by decide +kernel
theorem dX6_topText_70 : decode cX6_topText 70 = .ok (.aload_n 0, 1) := by decide +kernel
theorem dX6_topText_71 : decode cX6_topText 71 = .ok (.bipush 8, 2) := by decide +kernel
theorem dX6_topText_73 : decode cX6_topText 73 = .ok (.invokevirtual 81, 3) := by decide +kernel
theorem dX6_topText_76 : decode cX6_topText 76 = .ok (.aload_n 0, 1) := by decide +kernel
theorem dX6_topText_77 : decode cX6_topText 77 = .ok (.getfield 88, 3) := by decide +kernel
theorem dX6_topText_80 : decode cX6_topText 80 = .ok (.aload_n 1, 1) := by decide +kernel
theorem dX6_topText_81 : decode cX6_topText 81 = .ok (.invokevirtual 158, 3) := by decide +kernel
theorem dX6_topText_84 : decode cX6_topText 84 = .ok (.aload_n 0, 1) := by decide +kernel
theorem dX6_topText_85 : decode cX6_topText 85 = .ok (.getfield 88, 3) := by decide +kernel
theorem dX6_topText_88 : decode cX6_topText 88 = .ok (.ldc2_w 233, 3) := by decide +kernel
theorem dX6_topText_91 : decode cX6_topText 91 = .ok (.invokevirtual 192, 3) := by decide +kernel
theorem dX6_topText_94 : decode cX6_topText 94 = .ok (.aload_n 0, 1) := by decide +kernel
theorem dX6_topText_95 : decode cX6_topText 95 = .ok (.invokevirtual 40, 3) := by decide +kernel
theorem dX6_topText_98 : decode cX6_topText 98 = .ok (.aload_n 0, 1) := by decide +kernel
theorem dX6_topText_99 : decode cX6_topText 99 = .ok (.bipush 6, 2) := by decide +kernel
theorem dX6_topText_101 : decode cX6_topText 101 = .ok (.invokevirtual 146, 3) := by decide +kernel
theorem dX6_topText_104 : decode cX6_topText 104 = .ok (.aload_n 0, 1) := by decide +kernel
theorem dX6_topText_105 : decode cX6_topText 105 = .ok (.getfield 88, 3) := by decide +kernel
theorem dX6_topText_108 : decode cX6_topText 108 = .ok (.aload_n 0, 1) := by decide +kernel
theorem dX6_topText_109 : decode cX6_topText 109 = .ok (.aload_n 1, 1) := by decide +kernel
theorem dX6_topText_110 : decode cX6_topText 110 = .ok (.invokevirtual 185, 3) := by decide +kernel
theorem dX6_topText_113 : decode cX6_topText 113 = .ok (.putfield 189, 3) := by decide +kernel
theorem dX6_topText_116 : decode cX6_topText 116 = .ok (.aload_n 0, 1) := by decide +kernel
theorem dX6_topText_117 : decode cX6_topText 117 = .ok (.invokevirtual 40, 3) := by decide +kernel
theorem dX6_topText_120 : decode cX6_topText 120 = .ok (.aload_n 0, 1) := by decide +kernel
theorem dX6_topText_121 : decode cX6_topText 121 = .ok (.bipush 7, 2) := by decide +kernel
theorem dX6_topText_123 : decode cX6_topText 123 = .ok (.invokevirtual 146, 3) := by decide +kernel
theorem dX6_topText_126 : decode cX6_topText 126 = .ok (.aload_n 0, 1) := by decide +kernel
theorem dX6_topText_127 : decode cX6_topText 127 = .ok (.getfield 88, 3) := by decide +kernel
theorem dX6_topText_130 : decode cX6_topText 130 = .ok (.aload_n 0, 1) := by decide +kernel
theorem dX6_topText_131 : decode cX6_topText 131 = .ok (.iconst 1, 1) := by decide +kernel
theorem dX6_topText_132 : decode cX6_topText 132 = .ok (.sipush 1000, 3) := by decide +kernel
theorem dX6_topText_135 : decode cX6_topText 135 = .ok (.invokevirtual 134, 3) := by decide +kernel
theorem dX6_topText_138 : decode cX6_topText 138 = .ok (.putfield 196, 3) := by decide +kernel
theorem dX6_topText_141 : decode cX6_topText 141 = .ok (.aload_n 0, 1) := by decide +kernel
theorem dX6_topText_142 : decode cX6_topText 142 = .ok (.invokevirtual 40, 3) := by decide +kernel
theorem dX6_topText_145 : decode cX6_topText 145 = .ok (.return_, 1) := by decide +kernel
set_option maxRecDepth 20000 in
theorem a_X6_topText_76 {Q : Sg → Unit → Prop} {X : Sg → String → Prop} {th : Nat} (K : MD l R p s m args c cX6_topText 2 RX6 D cA tys A n0 s0 10 173 []) (hQ : CQV p l e R s m args below meth c cX6_topText D cA A n0 s0 QM σi Q) (hX : CX p l e R s m args below meth c 2 D cA A n0 s0 QM σi X) (hTh : CT p l e R s m args below meth c cX6_topText 2 D cA A n0 s0 QM σi RX6 X) : ∀ (σ : Sg) (v1 : Option Nat) (g1 : tyV σ 5 v1), w_X6_topText_76 th Q X σ v1 → RG σ → TY σ → Ext σi σ → kO σ th 6 → JJ p l e R s m args below meth c 2 D cA A n0 s0 QM σ 76 [(0, .ref th), (1, va_rf v1)] [] := by
  intro σ v1 g1 h hGσ hYσ hE hth H locs ls hH hl hc
  have B := K.1
  have hl9 := K.2.2.2.2.2.2
  unfold w_X6_topText_76 at h
  refine lv_aload_n B.1 B.2.1 dX6_topText_76 rfl (lv_at hl 0 rfl) ?_
  refine f_getp B hH hth (by decide) rfl wu_X6 8 (by decide) wf_X6_88 rfl rfl dX6_topText_77 ?_
  refine lv_aload_nQ B.1 B.2.1 dX6_topText_80 rfl (lv_at hl 1 rfl) ?_
  obtain ⟨a68, ea68, h⟩ := h
  have ka68 : kO σ a68 5 := (hYσ.get hth (by decide)) a68 ea68
  have h := h ka68
  refine W.eq (g2 := F0 m 81 ls [va_rf v1, .ref a68]) (by rw [ea68]; rfl) ?_
  refine c_V B hH hl hc K.2.2.1 (C := RX5) (T := TX5) (N := 17) (ci := 5) (As := [va_rf v1]) (ok_X5_addColumnsOf hl9 K.2.1 σ a68 v1 g1 ka68 hGσ hYσ h) wc_X6_158 1 hd_X5_addColumnsOf ⟨Nat.le_trans (Nat.le_of_ble_eq_true rfl) K.2.2.2.1, Nat.le_trans (Nat.le_of_ble_eq_true rfl) K.2.2.2.2.1⟩ ka68.1 ka68.2 (by decide) rfl rfl (rest := []) rfl (Nat.le_of_ble_eq_true rfl) dX6_topText_81 (fun σ67 w hq => ?_) (fun σ9 E9 hx9 => hX σ9 E9 _ _ _ (tb_out K.2.2.2.2.2.1 rfl) hx9.1 hx9.2.1 hx9.2.2.1 (hE.trans hx9.2.2.2))
  obtain ⟨rfl, h, hGσ67, hYσ67, xσ67⟩ := hq
  have h := h xσ67
  intro H locs ls hH hl hc
  refine W.eq (g2 := F0 m 84 ls []) (rfl) ?_
  try dsimp only at h
  refine lv_aload_n B.1 B.2.1 dX6_topText_84 rfl (lv_at hl 0 rfl) ?_
  refine f_getp B hH (hth.up xσ67) (by decide) rfl wu_X6 8 (by decide) wf_X6_88 rfl rfl dX6_topText_85 ?_
  refine lv_ldc2 B.1 B.2.1 B.2.2.1 (B.2.2.2.1 _ (wk_X6_233)) dX6_topText_88 ?_
  obtain ⟨a70, ea70, h⟩ := h
  have ka70 : kO σ67 a70 5 := (hYσ67.get (hth.up xσ67) (by decide)) a70 ea70
  have h := h ka70
  refine W.eq (g2 := F0 m 91 ls [.long 1918987883, .ref a70]) (by rw [ea70]; rfl) ?_
  refine c_V B hH hl hc K.2.2.1 (C := RX5) (T := TX5) (N := 17) (ci := 5) (As := [.long 1918987883]) (ok_X5_addColumn hl9 K.2.1 σ67 a70 1918987883 ka70 hGσ67 hYσ67 h) wc_X6_192 1 hd_X5_addColumn ⟨Nat.le_trans (Nat.le_of_ble_eq_true rfl) K.2.2.2.1, Nat.le_trans (Nat.le_of_ble_eq_true rfl) K.2.2.2.2.1⟩ ka70.1 ka70.2 (by decide) rfl rfl (rest := []) rfl (Nat.le_of_ble_eq_true rfl) dX6_topText_91 (fun σ69 w hq => ?_) (fun σ9 E9 hx9 => hX σ9 E9 _ _ _ (tb_out K.2.2.2.2.2.1 rfl) hx9.1 hx9.2.1 hx9.2.2.1 ((hE.trans xσ67).trans hx9.2.2.2))
  obtain ⟨rfl, h, hGσ69, hYσ69, xσ69⟩ := hq
  have h := h xσ69
  intro H locs ls hH hl hc
  refine W.eq (g2 := F0 m 94 ls []) (rfl) ?_
  try dsimp only at h
  refine lv_aload_n B.1 B.2.1 dX6_topText_94 rfl (lv_at hl 0 rfl) ?_
  refine W.eq (g2 := F0 m 95 ls [.ref th]) (rfl) ?_
  refine c_V B hH hl hc K.2.2.1 (C := RX6) (T := TX6) (N := 9) (ci := 6) (As := []) (ok_X6_next hl9 K.2.1 σ69 th (hth.up (xσ67.trans xσ69)) hGσ69 hYσ69 h) wc_X6_40 0 hd_X6_next ⟨Nat.le_trans (Nat.le_of_ble_eq_true rfl) K.2.2.2.1, Nat.le_trans (Nat.le_of_ble_eq_true rfl) K.2.2.2.2.1⟩ (hth.up (xσ67.trans xσ69)).1 (hth.up (xσ67.trans xσ69)).2 (by decide) rfl rfl (rest := []) rfl (Nat.le_of_ble_eq_true rfl) dX6_topText_95 (fun σ71 w hq => ?_) (fun σ9 E9 hx9 => hX σ9 E9 _ _ _ (tb_out K.2.2.2.2.2.1 rfl) hx9.1 hx9.2.1 hx9.2.2.1 (((hE.trans xσ67).trans xσ69).trans hx9.2.2.2))
  obtain ⟨rfl, h, hGσ71, hYσ71, xσ71⟩ := hq
  have h := h xσ71
  intro H locs ls hH hl hc
  refine W.eq (g2 := F0 m 98 ls []) (rfl) ?_
  try dsimp only at h
  refine lv_aload_n B.1 B.2.1 dX6_topText_98 rfl (lv_at hl 0 rfl) ?_
  refine lv_bipush (v := i32 6) B.1 B.2.1 dX6_topText_99 (by decide) ?_
  refine W.eq (g2 := F0 m 101 ls [.int (i32 6), .ref th]) (rfl) ?_
  refine c_V B hH hl hc K.2.2.1 (C := RX6) (T := TX6) (N := 9) (ci := 6) (As := [.int (i32 6)]) (ok_X6_wantWord hl9 K.2.1 σ71 th 6 (by unfold rng; omega) (hth.up (xσ67.trans (xσ69.trans xσ71))) hGσ71 hYσ71 h) wc_X6_146 1 hd_X6_wantWord ⟨Nat.le_trans (Nat.le_of_ble_eq_true rfl) K.2.2.2.1, Nat.le_trans (Nat.le_of_ble_eq_true rfl) K.2.2.2.2.1⟩ (hth.up (xσ67.trans (xσ69.trans xσ71))).1 (hth.up (xσ67.trans (xσ69.trans xσ71))).2 (by decide) rfl rfl (rest := []) rfl (Nat.le_of_ble_eq_true rfl) dX6_topText_101 (fun σ72 w hq => ?_) (fun σ9 E9 hx9 => hX σ9 E9 _ _ _ (tb_out K.2.2.2.2.2.1 rfl) hx9.1 hx9.2.1 hx9.2.2.1 ((((hE.trans xσ67).trans xσ69).trans xσ71).trans hx9.2.2.2))
  obtain ⟨rfl, h, hGσ72, hYσ72, xσ72⟩ := hq
  have h := h xσ72
  intro H locs ls hH hl hc
  refine W.eq (g2 := F0 m 104 ls []) (rfl) ?_
  try dsimp only at h
  refine lv_aload_n B.1 B.2.1 dX6_topText_104 rfl (lv_at hl 0 rfl) ?_
  refine f_getp B hH (hth.up (xσ67.trans (xσ69.trans (xσ71.trans xσ72)))) (by decide) rfl wu_X6 8 (by decide) wf_X6_88 rfl rfl dX6_topText_105 ?_
  refine lv_aload_n B.1 B.2.1 dX6_topText_108 rfl (lv_at hl 0 rfl) ?_
  refine lv_aload_nQ B.1 B.2.1 dX6_topText_109 rfl (lv_at hl 1 rfl) ?_
  refine W.eq (g2 := F0 m 110 ls [va_rf v1, .ref th, va_rf (gP σ72 th 8)]) (rfl) ?_
  refine c_V B hH hl hc K.2.2.1 (C := RX6) (T := TX6) (N := 9) (ci := 6) (As := [va_rf v1]) (ok_X6_column hl9 K.2.1 σ72 th v1 (g1.up (xσ67.trans (xσ69.trans (xσ71.trans xσ72)))) (hth.up (xσ67.trans (xσ69.trans (xσ71.trans xσ72)))) hGσ72 hYσ72 h) wc_X6_185 1 hd_X6_column ⟨Nat.le_trans (Nat.le_of_ble_eq_true rfl) K.2.2.2.1, Nat.le_trans (Nat.le_of_ble_eq_true rfl) K.2.2.2.2.1⟩ (hth.up (xσ67.trans (xσ69.trans (xσ71.trans xσ72)))).1 (hth.up (xσ67.trans (xσ69.trans (xσ71.trans xσ72)))).2 (by decide) rfl rfl (rest := [va_rf (gP σ72 th 8)]) rfl (by simp only [List.map_cons, List.map_nil, rf_cat]; exact Nat.le_of_ble_eq_true rfl) dX6_topText_110 (fun σ73 w hq => ?_) (fun σ9 E9 hx9 => hX σ9 E9 _ _ _ (tb_out K.2.2.2.2.2.1 rfl) hx9.1 hx9.2.1 hx9.2.2.1 (((((hE.trans xσ67).trans xσ69).trans xσ71).trans xσ72).trans hx9.2.2.2))
  obtain ⟨r74, rfl, gr74, h, hGσ73, hYσ73, xσ73⟩ := hq
  have h := h xσ73
  intro H locs ls hH hl hc
  refine W.eq (g2 := F0 m 113 ls [.int (i32 r74), va_rf (gP σ72 th 8)]) (rfl) ?_
  try dsimp only at h
  obtain ⟨a75, ea75, h⟩ := h
  have ka75 : kO σ73 a75 5 := ((hYσ72.get (hth.up (xσ67.trans (xσ69.trans (xσ71.trans xσ72)))) (by decide)).up xσ73) a75 ea75
  have h := h ka75
  obtain ⟨σ76, eσ76⟩ : ∃ z, z = pI σ73 a75 13 r74 := ⟨_, rfl⟩
  have h := h σ76 eσ76
  refine W.eq (g2 := F0 m 113 ls [.int (i32 r74), .ref a75]) (by rw [ea75]; rfl) ?_
  refine f_puti B hH ka75 (by decide) rfl wu_X5 tyX5 tyX5_ok nmX5 13 (by decide) wf_X6_189 rfl (ty := .int) rfl rfl rfl rfl rfl dX6_topText_113 (fun H locs hH => ?_)
  have hH : Hd D cA A s (pI σ73 a75 13 r74) H locs := hH
  rw [← eσ76] at hH
  have hGσ76 : RG σ76 := by rw [eσ76]; exact hGσ73.pI gr74
  have hYσ76 : TY σ76 := by rw [eσ76]; exact hYσ73.pI
  have xσ76 : Ext σ73 σ76 := by rw [eσ76]; exact Ext.pI
  have hc : CB n0 s0 σ76 := by rw [eσ76]; exact hc
  rw [show gc σ73 = gc σ76 by rw [eσ76]; try rfl, show gs σ73 = gs σ76 by rw [eσ76]; try rfl]
  refine lv_aload_n B.1 B.2.1 dX6_topText_116 rfl (lv_at hl 0 rfl) ?_
  refine W.eq (g2 := F0 m 117 ls [.ref th]) (rfl) ?_
  refine c_V B hH hl hc K.2.2.1 (C := RX6) (T := TX6) (N := 9) (ci := 6) (As := []) (ok_X6_next hl9 K.2.1 σ76 th (hth.up (xσ67.trans (xσ69.trans (xσ71.trans (xσ72.trans (xσ73.trans xσ76)))))) hGσ76 hYσ76 h) wc_X6_40 0 hd_X6_next ⟨Nat.le_trans (Nat.le_of_ble_eq_true rfl) K.2.2.2.1, Nat.le_trans (Nat.le_of_ble_eq_true rfl) K.2.2.2.2.1⟩ (hth.up (xσ67.trans (xσ69.trans (xσ71.trans (xσ72.trans (xσ73.trans xσ76)))))).1 (hth.up (xσ67.trans (xσ69.trans (xσ71.trans (xσ72.trans (xσ73.trans xσ76)))))).2 (by decide) rfl rfl (rest := []) rfl (Nat.le_of_ble_eq_true rfl) dX6_topText_117 (fun σ77 w hq => ?_) (fun σ9 E9 hx9 => hX σ9 E9 _ _ _ (tb_out K.2.2.2.2.2.1 rfl) hx9.1 hx9.2.1 hx9.2.2.1 (((((((hE.trans xσ67).trans xσ69).trans xσ71).trans xσ72).trans xσ73).trans xσ76).trans hx9.2.2.2))
  obtain ⟨rfl, h, hGσ77, hYσ77, xσ77⟩ := hq
  have h := h xσ77
  intro H locs ls hH hl hc
  refine W.eq (g2 := F0 m 120 ls []) (rfl) ?_
  try dsimp only at h
  refine lv_aload_n B.1 B.2.1 dX6_topText_120 rfl (lv_at hl 0 rfl) ?_
  refine lv_bipush (v := i32 7) B.1 B.2.1 dX6_topText_121 (by decide) ?_
  refine W.eq (g2 := F0 m 123 ls [.int (i32 7), .ref th]) (rfl) ?_
  refine c_V B hH hl hc K.2.2.1 (C := RX6) (T := TX6) (N := 9) (ci := 6) (As := [.int (i32 7)]) (ok_X6_wantWord hl9 K.2.1 σ77 th 7 (by unfold rng; omega) (hth.up (xσ67.trans (xσ69.trans (xσ71.trans (xσ72.trans (xσ73.trans (xσ76.trans xσ77))))))) hGσ77 hYσ77 h) wc_X6_146 1 hd_X6_wantWord ⟨Nat.le_trans (Nat.le_of_ble_eq_true rfl) K.2.2.2.1, Nat.le_trans (Nat.le_of_ble_eq_true rfl) K.2.2.2.2.1⟩ (hth.up (xσ67.trans (xσ69.trans (xσ71.trans (xσ72.trans (xσ73.trans (xσ76.trans xσ77))))))).1 (hth.up (xσ67.trans (xσ69.trans (xσ71.trans (xσ72.trans (xσ73.trans (xσ76.trans xσ77))))))).2 (by decide) rfl rfl (rest := []) rfl (Nat.le_of_ble_eq_true rfl) dX6_topText_123 (fun σ78 w hq => ?_) (fun σ9 E9 hx9 => hX σ9 E9 _ _ _ (tb_out K.2.2.2.2.2.1 rfl) hx9.1 hx9.2.1 hx9.2.2.1 ((((((((hE.trans xσ67).trans xσ69).trans xσ71).trans xσ72).trans xσ73).trans xσ76).trans xσ77).trans hx9.2.2.2))
  obtain ⟨rfl, h, hGσ78, hYσ78, xσ78⟩ := hq
  have h := h xσ78
  intro H locs ls hH hl hc
  refine W.eq (g2 := F0 m 126 ls []) (rfl) ?_
  try dsimp only at h
  refine lv_aload_n B.1 B.2.1 dX6_topText_126 rfl (lv_at hl 0 rfl) ?_
  refine f_getp B hH (hth.up (xσ67.trans (xσ69.trans (xσ71.trans (xσ72.trans (xσ73.trans (xσ76.trans (xσ77.trans xσ78)))))))) (by decide) rfl wu_X6 8 (by decide) wf_X6_88 rfl rfl dX6_topText_127 ?_
  refine lv_aload_n B.1 B.2.1 dX6_topText_130 rfl (lv_at hl 0 rfl) ?_
  refine lv_iconst (v := i32 1) B.1 B.2.1 dX6_topText_131 (by decide) ?_
  refine lv_sipush (v := i32 1000) B.1 B.2.1 dX6_topText_132 (by decide) ?_
  refine W.eq (g2 := F0 m 135 ls [.int (i32 1000), .int (i32 1), .ref th, va_rf (gP σ78 th 8)]) (rfl) ?_
  refine c_V B hH hl hc K.2.2.1 (C := RX6) (T := TX6) (N := 9) (ci := 6) (As := [.int (i32 1), .int (i32 1000)]) (ok_X6_number hl9 K.2.1 σ78 th 1 1000 (by unfold rng; omega) (by unfold rng; omega) (hth.up (xσ67.trans (xσ69.trans (xσ71.trans (xσ72.trans (xσ73.trans (xσ76.trans (xσ77.trans xσ78)))))))) hGσ78 hYσ78 h) wc_X6_134 2 hd_X6_number ⟨Nat.le_trans (Nat.le_of_ble_eq_true rfl) K.2.2.2.1, Nat.le_trans (Nat.le_of_ble_eq_true rfl) K.2.2.2.2.1⟩ (hth.up (xσ67.trans (xσ69.trans (xσ71.trans (xσ72.trans (xσ73.trans (xσ76.trans (xσ77.trans xσ78)))))))).1 (hth.up (xσ67.trans (xσ69.trans (xσ71.trans (xσ72.trans (xσ73.trans (xσ76.trans (xσ77.trans xσ78)))))))).2 (by decide) rfl rfl (rest := [va_rf (gP σ78 th 8)]) rfl (by simp only [List.map_cons, List.map_nil, rf_cat]; exact Nat.le_of_ble_eq_true rfl) dX6_topText_135 (fun σ79 w hq => ?_) (fun σ9 E9 hx9 => hX σ9 E9 _ _ _ (tb_out K.2.2.2.2.2.1 rfl) hx9.1 hx9.2.1 hx9.2.2.1 (((((((((hE.trans xσ67).trans xσ69).trans xσ71).trans xσ72).trans xσ73).trans xσ76).trans xσ77).trans xσ78).trans hx9.2.2.2))
  obtain ⟨r80, rfl, gr80, h, hGσ79, hYσ79, xσ79⟩ := hq
  have h := h xσ79
  intro H locs ls hH hl hc
  refine W.eq (g2 := F0 m 138 ls [.int (i32 r80), va_rf (gP σ78 th 8)]) (rfl) ?_
  try dsimp only at h
  obtain ⟨a81, ea81, h⟩ := h
  have ka81 : kO σ79 a81 5 := ((hYσ78.get (hth.up (xσ67.trans (xσ69.trans (xσ71.trans (xσ72.trans (xσ73.trans (xσ76.trans (xσ77.trans xσ78)))))))) (by decide)).up xσ79) a81 ea81
  have h := h ka81
  obtain ⟨σ82, eσ82⟩ : ∃ z, z = pI σ79 a81 11 r80 := ⟨_, rfl⟩
  have h := h σ82 eσ82
  refine W.eq (g2 := F0 m 138 ls [.int (i32 r80), .ref a81]) (by rw [ea81]; rfl) ?_
  refine f_puti B hH ka81 (by decide) rfl wu_X5 tyX5 tyX5_ok nmX5 11 (by decide) wf_X6_196 rfl (ty := .int) rfl rfl rfl rfl rfl dX6_topText_138 (fun H locs hH => ?_)
  have hH : Hd D cA A s (pI σ79 a81 11 r80) H locs := hH
  rw [← eσ82] at hH
  have hGσ82 : RG σ82 := by rw [eσ82]; exact hGσ79.pI gr80
  have hYσ82 : TY σ82 := by rw [eσ82]; exact hYσ79.pI
  have xσ82 : Ext σ79 σ82 := by rw [eσ82]; exact Ext.pI
  have hc : CB n0 s0 σ82 := by rw [eσ82]; exact hc
  rw [show gc σ79 = gc σ82 by rw [eσ82]; try rfl, show gs σ79 = gs σ82 by rw [eσ82]; try rfl]
  refine lv_aload_n B.1 B.2.1 dX6_topText_141 rfl (lv_at hl 0 rfl) ?_
  refine W.eq (g2 := F0 m 142 ls [.ref th]) (rfl) ?_
  refine c_V B hH hl hc K.2.2.1 (C := RX6) (T := TX6) (N := 9) (ci := 6) (As := []) (ok_X6_next hl9 K.2.1 σ82 th (hth.up (xσ67.trans (xσ69.trans (xσ71.trans (xσ72.trans (xσ73.trans (xσ76.trans (xσ77.trans (xσ78.trans (xσ79.trans xσ82)))))))))) hGσ82 hYσ82 h) wc_X6_40 0 hd_X6_next ⟨Nat.le_trans (Nat.le_of_ble_eq_true rfl) K.2.2.2.1, Nat.le_trans (Nat.le_of_ble_eq_true rfl) K.2.2.2.2.1⟩ (hth.up (xσ67.trans (xσ69.trans (xσ71.trans (xσ72.trans (xσ73.trans (xσ76.trans (xσ77.trans (xσ78.trans (xσ79.trans xσ82)))))))))).1 (hth.up (xσ67.trans (xσ69.trans (xσ71.trans (xσ72.trans (xσ73.trans (xσ76.trans (xσ77.trans (xσ78.trans (xσ79.trans xσ82)))))))))).2 (by decide) rfl rfl (rest := []) rfl (Nat.le_of_ble_eq_true rfl) dX6_topText_142 (fun σ83 w hq => ?_) (fun σ9 E9 hx9 => hX σ9 E9 _ _ _ (tb_out K.2.2.2.2.2.1 rfl) hx9.1 hx9.2.1 hx9.2.2.1 (((((((((((hE.trans xσ67).trans xσ69).trans xσ71).trans xσ72).trans xσ73).trans xσ76).trans xσ77).trans xσ78).trans xσ79).trans xσ82).trans hx9.2.2.2))
  obtain ⟨rfl, h, hGσ83, hYσ83, xσ83⟩ := hq
  have h := h xσ83
  intro H locs ls hH hl hc
  refine W.eq (g2 := F0 m 145 ls []) (rfl) ?_
  try dsimp only at h
  exact hQ _ _ _ _ _ dX6_topText_145 hH hc h hGσ83 hYσ83 (((((((((((hE.trans xσ67).trans xσ69).trans xσ71).trans xσ72).trans xσ73).trans xσ76).trans xσ77).trans xσ78).trans xσ79).trans xσ82).trans xσ83)
set_option maxRecDepth 20000 in
theorem a_X6_topText_70 {Q : Sg → Unit → Prop} {X : Sg → String → Prop} {th : Nat} (K : MD l R p s m args c cX6_topText 2 RX6 D cA tys A n0 s0 10 173 []) (hQ : CQV p l e R s m args below meth c cX6_topText D cA A n0 s0 QM σi Q) (hX : CX p l e R s m args below meth c 2 D cA A n0 s0 QM σi X) (hTh : CT p l e R s m args below meth c cX6_topText 2 D cA A n0 s0 QM σi RX6 X) : ∀ (σ : Sg) (v1 : Option Nat) (g1 : tyV σ 5 v1), w_X6_topText_70 th Q X σ v1 → RG σ → TY σ → Ext σi σ → kO σ th 6 → JJ p l e R s m args below meth c 2 D cA A n0 s0 QM σ 70 [(0, .ref th), (1, va_rf v1)] [] := by
  intro σ v1 g1 h hGσ hYσ hE hth H locs ls hH hl hc
  have B := K.1
  have hl9 := K.2.2.2.2.2.2
  unfold w_X6_topText_70 at h
  refine lv_aload_n B.1 B.2.1 dX6_topText_70 rfl (lv_at hl 0 rfl) ?_
  refine lv_bipush (v := i32 8) B.1 B.2.1 dX6_topText_71 (by decide) ?_
  refine W.eq (g2 := F0 m 73 ls [.int (i32 8), .ref th]) (rfl) ?_
  refine c_V B hH hl hc K.2.2.1 (C := RX6) (T := TX6) (N := 9) (ci := 6) (As := [.int (i32 8)]) (ok_X6_refuse hl9 K.2.1 σ th 8 (by unfold rng; omega) hth hGσ hYσ h) wc_X6_81 1 hd_X6_refuse ⟨Nat.le_trans (Nat.le_of_ble_eq_true rfl) K.2.2.2.1, Nat.le_trans (Nat.le_of_ble_eq_true rfl) K.2.2.2.2.1⟩ hth.1 hth.2 (by decide) rfl rfl (rest := []) rfl (Nat.le_of_ble_eq_true rfl) dX6_topText_73 (fun σ84 w hq => ?_) (fun σ9 E9 hx9 => hX σ9 E9 _ _ _ (tb_out K.2.2.2.2.2.1 rfl) hx9.1 hx9.2.1 hx9.2.2.1 (hE.trans hx9.2.2.2))
  obtain ⟨rfl, h, hGσ84, hYσ84, xσ84⟩ := hq
  have h := h xσ84
  intro H locs ls hH hl hc
  refine W.eq (g2 := F0 m 76 ls []) (rfl) ?_
  try dsimp only at h
  exact a_X6_topText_76 K hQ hX hTh _ _ (g1.up xσ84) h hGσ84 hYσ84 (hE.trans xσ84) (hth.up xσ84) _ _ _ hH (lv_sub (l' := [(0, .ref th), (1, va_rf v1)]) hl [0, 1] rfl) hc
set_option maxRecDepth 20000 in
theorem a_X6_topText_61 {Q : Sg → Unit → Prop} {X : Sg → String → Prop} {th : Nat} (K : MD l R p s m args c cX6_topText 2 RX6 D cA tys A n0 s0 10 173 []) (hQ : CQV p l e R s m args below meth c cX6_topText D cA A n0 s0 QM σi Q) (hX : CX p l e R s m args below meth c 2 D cA A n0 s0 QM σi X) (hTh : CT p l e R s m args below meth c cX6_topText 2 D cA A n0 s0 QM σi RX6 X) : ∀ (σ : Sg) (v1 : Option Nat) (g1 : tyV σ 5 v1), w_X6_topText_61 th Q X σ v1 → RG σ → TY σ → Ext σi σ → kO σ th 6 → JJ p l e R s m args below meth c 2 D cA A n0 s0 QM σ 61 [(0, .ref th), (1, va_rf v1)] [] := by
  intro σ v1 g1 h hGσ hYσ hE hth H locs ls hH hl hc
  have B := K.1
  have hl9 := K.2.2.2.2.2.2
  unfold w_X6_topText_61 at h
  refine lv_aload_nQ B.1 B.2.1 dX6_topText_61 rfl (lv_at hl 1 rfl) ?_
  obtain ⟨a85, ea85, h⟩ := h
  have ka85 : kO σ a85 5 := g1 a85 ea85
  have h := h ka85
  refine W.eq (g2 := F0 m 62 ls [.ref a85]) (by rw [ea85]; rfl) ?_
  refine f_geti B hH ka85 (by decide) rfl wu_X5 3 (by decide) wf_X6_214 rfl rfl dX6_topText_62 ?_
  refine lv_bipush (v := i32 8) B.1 B.2.1 dX6_topText_65 (by decide) ?_
  refine lv_icmp_ne (tgt := 76) B.1 B.2.1 dX6_topText_67 (by decide) (fun h9 => ?_) (fun h9 => ?_)
  · rw [if_pos (fun q => h9 ((i32_eq (hGσ _ _) (by unfold rng; omega)).mpr q))] at h
    exact a_X6_topText_76 K hQ hX hTh _ _ g1 h hGσ hYσ hE hth _ _ _ hH (lv_sub (l' := [(0, .ref th), (1, va_rf v1)]) hl [0, 1] rfl) hc
  · rw [if_neg (fun q => q ((i32_eq (hGσ _ _) (by unfold rng; omega)).mp h9))] at h
    exact a_X6_topText_70 K hQ hX hTh _ _ g1 h hGσ hYσ hE hth _ _ _ hH (lv_sub (l' := [(0, .ref th), (1, va_rf v1)]) hl [0, 1] rfl) hc
set_option maxRecDepth 20000 in
theorem a_X6_topText_55 {Q : Sg → Unit → Prop} {X : Sg → String → Prop} {th : Nat} (K : MD l R p s m args c cX6_topText 2 RX6 D cA tys A n0 s0 10 173 []) (hQ : CQV p l e R s m args below meth c cX6_topText D cA A n0 s0 QM σi Q) (hX : CX p l e R s m args below meth c 2 D cA A n0 s0 QM σi X) (hTh : CT p l e R s m args below meth c cX6_topText 2 D cA A n0 s0 QM σi RX6 X) : ∀ (σ : Sg) (v1 : Option Nat) (g1 : tyV σ 5 v1), w_X6_topText_55 th Q X σ v1 → RG σ → TY σ → Ext σi σ → kO σ th 6 → JJ p l e R s m args below meth c 2 D cA A n0 s0 QM σ 55 [(0, .ref th), (1, va_rf v1)] [] := by
  intro σ v1 g1 h hGσ hYσ hE hth H locs ls hH hl hc
  have B := K.1
  have hl9 := K.2.2.2.2.2.2
  unfold w_X6_topText_55 at h
  refine lv_aload_n B.1 B.2.1 dX6_topText_55 rfl (lv_at hl 0 rfl) ?_
  refine lv_bipush (v := i32 6) B.1 B.2.1 dX6_topText_56 (by decide) ?_
  refine W.eq (g2 := F0 m 58 ls [.int (i32 6), .ref th]) (rfl) ?_
  refine c_V B hH hl hc K.2.2.1 (C := RX6) (T := TX6) (N := 9) (ci := 6) (As := [.int (i32 6)]) (ok_X6_refuse hl9 K.2.1 σ th 6 (by unfold rng; omega) hth hGσ hYσ h) wc_X6_81 1 hd_X6_refuse ⟨Nat.le_trans (Nat.le_of_ble_eq_true rfl) K.2.2.2.1, Nat.le_trans (Nat.le_of_ble_eq_true rfl) K.2.2.2.2.1⟩ hth.1 hth.2 (by decide) rfl rfl (rest := []) rfl (Nat.le_of_ble_eq_true rfl) dX6_topText_58 (fun σ86 w hq => ?_) (fun σ9 E9 hx9 => hX σ9 E9 _ _ _ (tb_out K.2.2.2.2.2.1 rfl) hx9.1 hx9.2.1 hx9.2.2.1 (hE.trans hx9.2.2.2))
  obtain ⟨rfl, h, hGσ86, hYσ86, xσ86⟩ := hq
  have h := h xσ86
  intro H locs ls hH hl hc
  refine W.eq (g2 := F0 m 61 ls []) (rfl) ?_
  try dsimp only at h
  exact a_X6_topText_61 K hQ hX hTh _ _ (g1.up xσ86) h hGσ86 hYσ86 (hE.trans xσ86) (hth.up xσ86) _ _ _ hH (lv_sub (l' := [(0, .ref th), (1, va_rf v1)]) hl [0, 1] rfl) hc
set_option maxRecDepth 20000 in
theorem a_X6_topText_0 {Q : Sg → Unit → Prop} {X : Sg → String → Prop} {th : Nat} (K : MD l R p s m args c cX6_topText 2 RX6 D cA tys A n0 s0 10 173 []) (hQ : CQV p l e R s m args below meth c cX6_topText D cA A n0 s0 QM σi Q) (hX : CX p l e R s m args below meth c 2 D cA A n0 s0 QM σi X) (hTh : CT p l e R s m args below meth c cX6_topText 2 D cA A n0 s0 QM σi RX6 X) : ∀ (σ : Sg), w_X6_topText_0 th Q X σ → RG σ → TY σ → Ext σi σ → kO σ th 6 → JJ p l e R s m args below meth c 2 D cA A n0 s0 QM σ 0 [(0, .ref th)] [] := by
  intro σ h hGσ hYσ hE hth H locs ls hH hl hc
  have B := K.1
  have hl9 := K.2.2.2.2.2.2
  unfold w_X6_topText_0 at h
  refine lv_aload_n B.1 B.2.1 dX6_topText_0 rfl (lv_at hl 0 rfl) ?_
  refine W.eq (g2 := F0 m 1 ls [.ref th]) (rfl) ?_
  refine c_V B hH hl hc K.2.2.1 (C := RX6) (T := TX6) (N := 9) (ci := 6) (As := []) (ok_X6_next hl9 K.2.1 σ th hth hGσ hYσ h) wc_X6_40 0 hd_X6_next ⟨Nat.le_trans (Nat.le_of_ble_eq_true rfl) K.2.2.2.1, Nat.le_trans (Nat.le_of_ble_eq_true rfl) K.2.2.2.2.1⟩ hth.1 hth.2 (by decide) rfl rfl (rest := []) rfl (Nat.le_of_ble_eq_true rfl) dX6_topText_1 (fun σ87 w hq => ?_) (fun σ9 E9 hx9 => hX σ9 E9 _ _ _ (tb_out K.2.2.2.2.2.1 rfl) hx9.1 hx9.2.1 hx9.2.2.1 (hE.trans hx9.2.2.2))
  obtain ⟨rfl, h, hGσ87, hYσ87, xσ87⟩ := hq
  have h := h xσ87
  intro H locs ls hH hl hc
  refine W.eq (g2 := F0 m 4 ls []) (rfl) ?_
  try dsimp only at h
  refine lv_aload_n B.1 B.2.1 dX6_topText_4 rfl (lv_at hl 0 rfl) ?_
  refine f_getp B hH (hth.up xσ87) (by decide) rfl wu_X6 8 (by decide) wf_X6_88 rfl rfl dX6_topText_5 ?_
  refine lv_aload_n B.1 B.2.1 dX6_topText_8 rfl (lv_at hl 0 rfl) ?_
  refine lv_iconst (v := i32 1) B.1 B.2.1 dX6_topText_9 (by decide) ?_
  refine lv_bipush (v := i32 9) B.1 B.2.1 dX6_topText_10 (by decide) ?_
  refine W.eq (g2 := F0 m 12 ls [.int (i32 9), .int (i32 1), .ref th, va_rf (gP σ87 th 8)]) (rfl) ?_
  refine c_V B hH hl hc K.2.2.1 (C := RX6) (T := TX6) (N := 9) (ci := 6) (As := [.int (i32 1), .int (i32 9)]) (ok_X6_number hl9 K.2.1 σ87 th 1 9 (by unfold rng; omega) (by unfold rng; omega) (hth.up xσ87) hGσ87 hYσ87 h) wc_X6_134 2 hd_X6_number ⟨Nat.le_trans (Nat.le_of_ble_eq_true rfl) K.2.2.2.1, Nat.le_trans (Nat.le_of_ble_eq_true rfl) K.2.2.2.2.1⟩ (hth.up xσ87).1 (hth.up xσ87).2 (by decide) rfl rfl (rest := [va_rf (gP σ87 th 8)]) rfl (by simp only [List.map_cons, List.map_nil, rf_cat]; exact Nat.le_of_ble_eq_true rfl) dX6_topText_12 (fun σ88 w hq => ?_) (fun σ9 E9 hx9 => hX σ9 E9 _ _ _ (tb_out K.2.2.2.2.2.1 rfl) hx9.1 hx9.2.1 hx9.2.2.1 ((hE.trans xσ87).trans hx9.2.2.2))
  obtain ⟨r89, rfl, gr89, h, hGσ88, hYσ88, xσ88⟩ := hq
  have h := h xσ88
  intro H locs ls hH hl hc
  refine W.eq (g2 := F0 m 15 ls [.int (i32 r89), va_rf (gP σ87 th 8)]) (rfl) ?_
  try dsimp only at h
  obtain ⟨a90, ea90, h⟩ := h
  have ka90 : kO σ88 a90 5 := ((hYσ87.get (hth.up xσ87) (by decide)).up xσ88) a90 ea90
  have h := h ka90
  obtain ⟨σ91, eσ91⟩ : ∃ z, z = pI σ88 a90 9 r89 := ⟨_, rfl⟩
  have h := h σ91 eσ91
  refine W.eq (g2 := F0 m 15 ls [.int (i32 r89), .ref a90]) (by rw [ea90]; rfl) ?_
  refine f_puti B hH ka90 (by decide) rfl wu_X5 tyX5 tyX5_ok nmX5 9 (by decide) wf_X6_137 rfl (ty := .int) rfl rfl rfl rfl rfl dX6_topText_15 (fun H locs hH => ?_)
  have hH : Hd D cA A s (pI σ88 a90 9 r89) H locs := hH
  rw [← eσ91] at hH
  have hGσ91 : RG σ91 := by rw [eσ91]; exact hGσ88.pI gr89
  have hYσ91 : TY σ91 := by rw [eσ91]; exact hYσ88.pI
  have xσ91 : Ext σ88 σ91 := by rw [eσ91]; exact Ext.pI
  have hc : CB n0 s0 σ91 := by rw [eσ91]; exact hc
  rw [show gc σ88 = gc σ91 by rw [eσ91]; try rfl, show gs σ88 = gs σ91 by rw [eσ91]; try rfl]
  refine lv_aload_n B.1 B.2.1 dX6_topText_18 rfl (lv_at hl 0 rfl) ?_
  refine W.eq (g2 := F0 m 19 ls [.ref th]) (rfl) ?_
  refine c_V B hH hl hc K.2.2.1 (C := RX6) (T := TX6) (N := 9) (ci := 6) (As := []) (ok_X6_next hl9 K.2.1 σ91 th (hth.up (xσ87.trans (xσ88.trans xσ91))) hGσ91 hYσ91 h) wc_X6_40 0 hd_X6_next ⟨Nat.le_trans (Nat.le_of_ble_eq_true rfl) K.2.2.2.1, Nat.le_trans (Nat.le_of_ble_eq_true rfl) K.2.2.2.2.1⟩ (hth.up (xσ87.trans (xσ88.trans xσ91))).1 (hth.up (xσ87.trans (xσ88.trans xσ91))).2 (by decide) rfl rfl (rest := []) rfl (Nat.le_of_ble_eq_true rfl) dX6_topText_19 (fun σ92 w hq => ?_) (fun σ9 E9 hx9 => hX σ9 E9 _ _ _ (tb_out K.2.2.2.2.2.1 rfl) hx9.1 hx9.2.1 hx9.2.2.1 ((((hE.trans xσ87).trans xσ88).trans xσ91).trans hx9.2.2.2))
  obtain ⟨rfl, h, hGσ92, hYσ92, xσ92⟩ := hq
  have h := h xσ92
  intro H locs ls hH hl hc
  refine W.eq (g2 := F0 m 22 ls []) (rfl) ?_
  try dsimp only at h
  refine lv_aload_n B.1 B.2.1 dX6_topText_22 rfl (lv_at hl 0 rfl) ?_
  refine lv_bipush (v := i32 10) B.1 B.2.1 dX6_topText_23 (by decide) ?_
  refine W.eq (g2 := F0 m 25 ls [.int (i32 10), .ref th]) (rfl) ?_
  refine c_V B hH hl hc K.2.2.1 (C := RX6) (T := TX6) (N := 9) (ci := 6) (As := [.int (i32 10)]) (ok_X6_firstInput hl9 K.2.1 σ92 th 10 (by unfold rng; omega) (hth.up (xσ87.trans (xσ88.trans (xσ91.trans xσ92)))) hGσ92 hYσ92 h) wc_X6_152 1 hd_X6_firstInput ⟨Nat.le_trans (Nat.le_of_ble_eq_true rfl) K.2.2.2.1, Nat.le_trans (Nat.le_of_ble_eq_true rfl) K.2.2.2.2.1⟩ (hth.up (xσ87.trans (xσ88.trans (xσ91.trans xσ92)))).1 (hth.up (xσ87.trans (xσ88.trans (xσ91.trans xσ92)))).2 (by decide) rfl rfl (rest := []) rfl (Nat.le_of_ble_eq_true rfl) dX6_topText_25 (fun σ93 w hq => ?_) (fun σ9 E9 hx9 => hX σ9 E9 _ _ _ (tb_out K.2.2.2.2.2.1 rfl) hx9.1 hx9.2.1 hx9.2.2.1 (((((hE.trans xσ87).trans xσ88).trans xσ91).trans xσ92).trans hx9.2.2.2))
  obtain ⟨rfl, h, hGσ93, hYσ93, xσ93⟩ := hq
  have h := h xσ93
  intro H locs ls hH hl hc
  refine W.eq (g2 := F0 m 28 ls []) (rfl) ?_
  try dsimp only at h
  refine lv_aload_n B.1 B.2.1 dX6_topText_28 rfl (lv_at hl 0 rfl) ?_
  refine f_getp B hH (hth.up (xσ87.trans (xσ88.trans (xσ91.trans (xσ92.trans xσ93))))) (by decide) rfl wu_X6 7 (by decide) wf_X6_31 rfl rfl dX6_topText_29 ?_
  obtain ⟨a94, ea94, h⟩ := h
  have ka94 : kO σ93 a94 4 := (hYσ93.get (hth.up (xσ87.trans (xσ88.trans (xσ91.trans (xσ92.trans xσ93))))) (by decide)) a94 ea94
  have h := h ka94
  refine W.eq (g2 := F0 m 32 ls [.ref a94]) (by rw [ea94]; rfl) ?_
  refine f_getp B hH ka94 (by decide) rfl wu_X4 0 (by decide) wf_X6_84 rfl rfl dX6_topText_32 ?_
  refine lv_aload_n B.1 B.2.1 dX6_topText_35 rfl (lv_at hl 0 rfl) ?_
  refine f_getp B hH (hth.up (xσ87.trans (xσ88.trans (xσ91.trans (xσ92.trans xσ93))))) (by decide) rfl wu_X6 8 (by decide) wf_X6_88 rfl rfl dX6_topText_36 ?_
  obtain ⟨a95, ea95, h⟩ := h
  have ka95 : kO σ93 a95 5 := (hYσ93.get (hth.up (xσ87.trans (xσ88.trans (xσ91.trans (xσ92.trans xσ93))))) (by decide)) a95 ea95
  have h := h ka95
  refine W.eq (g2 := F0 m 39 ls [.ref a95, va_rf (gP σ93 a94 0)]) (by rw [ea95]; rfl) ?_
  refine f_geti B hH ka95 (by decide) rfl wu_X5 7 (by decide) wf_X6_155 rfl rfl dX6_topText_39 ?_
  obtain ⟨a96, ea96, h⟩ := h
  have ka96 : kO σ93 a96 115 := (hYσ93.get ka94 (by decide)) a96 ea96
  have h := h ka96
  obtain ⟨q1, h⟩ := h
  refine W.eq (g2 := F0 m 42 ls [.int (i32 (gI σ93 a95 7)), .ref a96]) (by rw [ea96]; rfl) ?_
  refine y_aald B hH (t0 := 6) ka96 (by decide) K.2.1.2.2.2.1 q1 (hYσ93.2 _) dX6_topText_42 ?_
  refine lv_astore_nQ (lv' := [(1, va_rf (gP σ93 a96 (gI σ93 a95 7).toNat)), (0, .ref th)]) B.1 B.2.1 dX6_topText_43 rfl hl (by decide) rfl (fun ls hl => ?_)
  refine lv_aload_nQ B.1 B.2.1 dX6_topText_44 rfl (lv_at hl 0 rfl) ?_
  refine lv_ldc2 B.1 B.2.1 B.2.2.1 (B.2.2.2.1 _ (wk_X6_233)) dX6_topText_45 ?_
  obtain ⟨a99, ea99, h⟩ := h
  have ka99 : kO σ93 a99 5 := (hYσ93.get ka96 rfl) a99 ea99
  have h := h ka99
  refine W.eq (g2 := F0 m 48 ls [.long 1918987883, .ref a99]) (by rw [ea99]; rfl) ?_
  refine c_V B hH hl hc K.2.2.1 (C := RX5) (T := TX5) (N := 17) (ci := 5) (As := [.long 1918987883]) (ok_X5_find hl9 K.2.1 σ93 a99 1918987883 ka99 hGσ93 hYσ93 h) wc_X6_235 1 hd_X5_find ⟨Nat.le_trans (Nat.le_of_ble_eq_true rfl) K.2.2.2.1, Nat.le_trans (Nat.le_of_ble_eq_true rfl) K.2.2.2.2.1⟩ ka99.1 ka99.2 (by decide) rfl rfl (rest := []) rfl (Nat.le_of_ble_eq_true rfl) dX6_topText_48 (fun σ97 w hq => ?_) (fun σ9 E9 hx9 => hX σ9 E9 _ _ _ (tb_out K.2.2.2.2.2.1 rfl) hx9.1 hx9.2.1 hx9.2.2.1 ((((((hE.trans xσ87).trans xσ88).trans xσ91).trans xσ92).trans xσ93).trans hx9.2.2.2))
  obtain ⟨r98, rfl, gr98, h, hGσ97, hYσ97, xσ97⟩ := hq
  have h := h xσ97
  intro H locs ls hH hl hc
  refine W.eq (g2 := F0 m 51 ls [.int (i32 r98)]) (rfl) ?_
  try dsimp only at h
  refine lv_iconst (v := i32 (-1)) B.1 B.2.1 dX6_topText_51 (by decide) ?_
  refine lv_icmp_eq (tgt := 61) B.1 B.2.1 dX6_topText_52 (by decide) (fun h9 => ?_) (fun h9 => ?_)
  · rw [if_pos ((i32_eq gr98 (by unfold rng; omega)).mp h9)] at h
    exact a_X6_topText_61 K hQ hX hTh _ _ ((hYσ93.get ka96 rfl).up xσ97) h hGσ97 hYσ97 ((((((hE.trans xσ87).trans xσ88).trans xσ91).trans xσ92).trans xσ93).trans xσ97) (hth.up (xσ87.trans (xσ88.trans (xσ91.trans (xσ92.trans (xσ93.trans xσ97)))))) _ _ _ hH (lv_sub (l' := [(0, .ref th), (1, va_rf (gP σ93 a96 (gI σ93 a95 7).toNat))]) hl [1, 0] rfl) hc
  · rw [if_neg (fun q => h9 ((i32_eq gr98 (by unfold rng; omega)).mpr q))] at h
    exact a_X6_topText_55 K hQ hX hTh _ _ ((hYσ93.get ka96 rfl).up xσ97) h hGσ97 hYσ97 ((((((hE.trans xσ87).trans xσ88).trans xσ91).trans xσ92).trans xσ93).trans xσ97) (hth.up (xσ87.trans (xσ88.trans (xσ91.trans (xσ92.trans (xσ93.trans xσ97)))))) _ _ _ hH (lv_sub (l' := [(0, .ref th), (1, va_rf (gP σ93 a96 (gI σ93 a95 7).toNat))]) hl [1, 0] rfl) hc
theorem ok_X6_topText (hl0 : l.stackTraces = false) (hT : TyC cA tys) {Q : Sg → Unit → Prop} {X : Sg → String → Prop} (σ : Sg) (th : Nat) (hth : kO σ th 6) (hG : RG σ) (hY : TY σ) (h : wp_X6_topText th σ Q X) : Ok l D cA tys A yX6_topText (.code yX6_topText cX6_topText 2 none) 10 173 [.ref th] σ (QcV σ Q) (QxC σ X) := by
  unfold wp_X6_topText at h
  exact oc_V hl0 (by decide) (by exact Nat.le_of_ble_eq_true rfl) hT (fun p e R s m args below meth c K hQ hX hTh hin9 H locs ls hH hl hc => a_X6_topText_0 K hQ hX hTh σ h hG hY (Ext.rfl' σ) hth H locs ls hH (lv_sub (l' := [(0, .ref th)]) hl [0] rfl) hc)
theorem dX5_hasColumnsOf_0 : decode cX5_hasColumnsOf 0 = .ok (.iconst 0, 1) := by decide +kernel
theorem dX5_hasColumnsOf_1 : decode cX5_hasColumnsOf 1 = .ok (.istore_n 2, 1) := by decide +kernel
theorem dX5_hasColumnsOf_2 : decode cX5_hasColumnsOf 2 = .ok (.iload_n 2, 1) := by decide +kernel
theorem dX5_hasColumnsOf_3 : decode cX5_hasColumnsOf 3 = .ok (.aload_n 0, 1) := by decide +kernel
theorem dX5_hasColumnsOf_4 : decode cX5_hasColumnsOf 4 = .ok (.getfield 22, 3) := by decide +kernel
theorem dX5_hasColumnsOf_7 : decode cX5_hasColumnsOf 7 = .ok (.if_icmp .ge 35, 3) := by decide +kernel
theorem dX5_hasColumnsOf_10 : decode cX5_hasColumnsOf 10 = .ok (.iload_n 2, 1) := by decide +kernel
theorem dX5_hasColumnsOf_11 : decode cX5_hasColumnsOf 11 = .ok (.aload_n 1, 1) := by decide +kernel
theorem dX5_hasColumnsOf_12 : decode cX5_hasColumnsOf 12 = .ok (.getfield 22, 3) := by decide +kernel
theorem dX5_hasColumnsOf_15 : decode cX5_hasColumnsOf 15 = .ok (.if_icmp .ge 27, 3) := by decide +kernel
theorem dX5_hasColumnsOf_18 : decode cX5_hasColumnsOf 18 = .ok (.aload_n 0, 1) := by decide +kernel
theorem dX5_hasColumnsOf_19 : decode cX5_hasColumnsOf 19 = .ok (.getfield 9, 3) := by decide +kernel
theorem dX5_hasColumnsOf_22 : decode cX5_hasColumnsOf 22 = .ok (.iload_n 2, 1) := by decide +kernel
theorem dX5_hasColumnsOf_23 : decode cX5_hasColumnsOf 23 = .ok (.laload, 1) := by decide +kernel
theorem dX5_hasColumnsOf_24 : decode cX5_hasColumnsOf 24 = .ok (.aload_n 1, 1) := by decide +kernel
theorem dX5_hasColumnsOf_25 : decode cX5_hasColumnsOf 25 = .ok (.getfield 9, 3) := by decide +kernel
theorem dX5_hasColumnsOf_28 : decode cX5_hasColumnsOf 28 = .ok (.iload_n 2, 1) := by decide +kernel
theorem dX5_hasColumnsOf_29 : decode cX5_hasColumnsOf 29 = .ok (.laload, 1) := by decide +kernel
theorem dX5_hasColumnsOf_30 : decode cX5_hasColumnsOf 30 = .ok (.lcmp, 1) := by decide +kernel
theorem dX5_hasColumnsOf_31 : decode cX5_hasColumnsOf 31 = .ok (.ifCond .eq 5, 3) := by decide +kernel
theorem dX5_hasColumnsOf_34 : decode cX5_hasColumnsOf 34 = .ok (.iconst 0, 1) := by decide +kernel
theorem dX5_hasColumnsOf_35 : decode cX5_hasColumnsOf 35 = .ok (.ireturn, 1) := by decide +kernel
theorem dX5_hasColumnsOf_36 : decode cX5_hasColumnsOf 36 = .ok (.iinc 2 1, 3) := by decide +kernel
theorem dX5_hasColumnsOf_39 : decode cX5_hasColumnsOf 39 = .ok (.goto (-37), 3) := by decide +kernel
theorem dX5_hasColumnsOf_42 : decode cX5_hasColumnsOf 42 = .ok (.aload_n 0, 1) := by decide +kernel
theorem dX5_hasColumnsOf_43 : decode cX5_hasColumnsOf 43 = .ok (.getfield 22, 3) := by decide +kernel
theorem dX5_hasColumnsOf_46 : decode cX5_hasColumnsOf 46 = .ok (.aload_n 1, 1) := by decide +kernel
theorem dX5_hasColumnsOf_47 : decode cX5_hasColumnsOf 47 = .ok (.getfield 22, 3) := by decide +kernel
theorem dX5_hasColumnsOf_50 : decode cX5_hasColumnsOf 50 = .ok (.if_icmp .ne 7, 3) := by decide +kernel
theorem dX5_hasColumnsOf_53 : decode cX5_hasColumnsOf 53 = .ok (.iconst 1, 1) := by decide +kernel
theorem dX5_hasColumnsOf_54 : decode cX5_hasColumnsOf 54 = .ok (.goto 4, 3) := by decide +kernel
theorem dX5_hasColumnsOf_57 : decode cX5_hasColumnsOf 57 = .ok (.iconst 0, 1) := by decide +kernel
theorem dX5_hasColumnsOf_58 : decode cX5_hasColumnsOf 58 = .ok (.ireturn, 1) := by decide +kernel
set_option maxRecDepth 20000 in
theorem a_X5_hasColumnsOf_58 {Q : Sg → Int → Prop} {X : Sg → String → Prop} {th : Nat} (K : MD l R p s m args c cX5_hasColumnsOf 3 RX5 D cA tys A n0 s0 0 0 []) (hQ : CQZ p l e R s m args below meth c cX5_hasColumnsOf D cA A n0 s0 QM σi Q) (hX : CX p l e R s m args below meth c 3 D cA A n0 s0 QM σi X) (hTh : CT p l e R s m args below meth c cX5_hasColumnsOf 3 D cA A n0 s0 QM σi RX5 X) : ∀ (σ : Sg) (u0 : Int) (gu0 : rng u0), w_X5_hasColumnsOf_58 th Q X σ u0 → RG σ → TY σ → Ext σi σ → kO σ th 5 → JJ p l e R s m args below meth c 3 D cA A n0 s0 QM σ 58 [(0, .ref th)] [.int (i32 u0)] := by
  intro σ u0 gu0 h hGσ hYσ hE hth H locs ls hH hl hc
  have B := K.1
  have hl9 := K.2.2.2.2.2.2
  unfold w_X5_hasColumnsOf_58 at h
  obtain ⟨qz, h⟩ := h
  exact hQ _ _ _ _ _ _ gu0 qz dX5_hasColumnsOf_58 hH hc h hGσ hYσ hE
set_option maxRecDepth 20000 in
theorem a_X5_hasColumnsOf_57 {Q : Sg → Int → Prop} {X : Sg → String → Prop} {th : Nat} (K : MD l R p s m args c cX5_hasColumnsOf 3 RX5 D cA tys A n0 s0 0 0 []) (hQ : CQZ p l e R s m args below meth c cX5_hasColumnsOf D cA A n0 s0 QM σi Q) (hX : CX p l e R s m args below meth c 3 D cA A n0 s0 QM σi X) (hTh : CT p l e R s m args below meth c cX5_hasColumnsOf 3 D cA A n0 s0 QM σi RX5 X) : ∀ (σ : Sg), w_X5_hasColumnsOf_57 th Q X σ → RG σ → TY σ → Ext σi σ → kO σ th 5 → JJ p l e R s m args below meth c 3 D cA A n0 s0 QM σ 57 [(0, .ref th)] [] := by
  intro σ h hGσ hYσ hE hth H locs ls hH hl hc
  have B := K.1
  have hl9 := K.2.2.2.2.2.2
  unfold w_X5_hasColumnsOf_57 at h
  refine lv_iconst (v := i32 0) B.1 B.2.1 dX5_hasColumnsOf_57 (by decide) ?_
  exact a_X5_hasColumnsOf_58 K hQ hX hTh _ _ (by unfold rng; omega) h hGσ hYσ hE hth _ _ _ hH (lv_sub (l' := [(0, .ref th)]) hl [0] rfl) hc
set_option maxRecDepth 20000 in
theorem a_X5_hasColumnsOf_53 {Q : Sg → Int → Prop} {X : Sg → String → Prop} {th : Nat} (K : MD l R p s m args c cX5_hasColumnsOf 3 RX5 D cA tys A n0 s0 0 0 []) (hQ : CQZ p l e R s m args below meth c cX5_hasColumnsOf D cA A n0 s0 QM σi Q) (hX : CX p l e R s m args below meth c 3 D cA A n0 s0 QM σi X) (hTh : CT p l e R s m args below meth c cX5_hasColumnsOf 3 D cA A n0 s0 QM σi RX5 X) : ∀ (σ : Sg), w_X5_hasColumnsOf_53 th Q X σ → RG σ → TY σ → Ext σi σ → kO σ th 5 → JJ p l e R s m args below meth c 3 D cA A n0 s0 QM σ 53 [(0, .ref th)] [] := by
  intro σ h hGσ hYσ hE hth H locs ls hH hl hc
  have B := K.1
  have hl9 := K.2.2.2.2.2.2
  unfold w_X5_hasColumnsOf_53 at h
  refine lv_iconst (v := i32 1) B.1 B.2.1 dX5_hasColumnsOf_53 (by decide) ?_
  refine lv_goto (tgt := 58) B.1 B.2.1 dX5_hasColumnsOf_54 (by decide) ?_
  exact a_X5_hasColumnsOf_58 K hQ hX hTh _ _ (by unfold rng; omega) h hGσ hYσ hE hth _ _ _ hH (lv_sub (l' := [(0, .ref th)]) hl [0] rfl) hc
set_option maxRecDepth 20000 in
theorem a_X5_hasColumnsOf_42 {Q : Sg → Int → Prop} {X : Sg → String → Prop} {th : Nat} (K : MD l R p s m args c cX5_hasColumnsOf 3 RX5 D cA tys A n0 s0 0 0 []) (hQ : CQZ p l e R s m args below meth c cX5_hasColumnsOf D cA A n0 s0 QM σi Q) (hX : CX p l e R s m args below meth c 3 D cA A n0 s0 QM σi X) (hTh : CT p l e R s m args below meth c cX5_hasColumnsOf 3 D cA A n0 s0 QM σi RX5 X) : ∀ (σ : Sg) (v1 : Option Nat) (g1 : tyV σ 5 v1), w_X5_hasColumnsOf_42 th Q X σ v1 → RG σ → TY σ → Ext σi σ → kO σ th 5 → JJ p l e R s m args below meth c 3 D cA A n0 s0 QM σ 42 [(0, .ref th), (1, va_rf v1)] [] := by
  intro σ v1 g1 h hGσ hYσ hE hth H locs ls hH hl hc
  have B := K.1
  have hl9 := K.2.2.2.2.2.2
  unfold w_X5_hasColumnsOf_42 at h
  refine lv_aload_n B.1 B.2.1 dX5_hasColumnsOf_42 rfl (lv_at hl 0 rfl) ?_
  refine f_geti B hH hth (by decide) rfl wu_X5 3 (by decide) wf_X5_22 rfl rfl dX5_hasColumnsOf_43 ?_
  refine lv_aload_nQ B.1 B.2.1 dX5_hasColumnsOf_46 rfl (lv_at hl 1 rfl) ?_
  obtain ⟨a11, ea11, h⟩ := h
  have ka11 : kO σ a11 5 := g1 a11 ea11
  have h := h ka11
  refine W.eq (g2 := F0 m 47 ls [.ref a11, .int (i32 (gI σ th 3))]) (by rw [ea11]; rfl) ?_
  refine f_geti B hH ka11 (by decide) rfl wu_X5 3 (by decide) wf_X5_22 rfl rfl dX5_hasColumnsOf_47 ?_
  refine lv_icmp_ne (tgt := 57) B.1 B.2.1 dX5_hasColumnsOf_50 (by decide) (fun h9 => ?_) (fun h9 => ?_)
  · rw [if_pos (fun q => h9 ((i32_eq (hGσ _ _) (hGσ _ _)).mpr q))] at h
    exact a_X5_hasColumnsOf_57 K hQ hX hTh _ h hGσ hYσ hE hth _ _ _ hH (lv_sub (l' := [(0, .ref th)]) hl [0] rfl) hc
  · rw [if_neg (fun q => q ((i32_eq (hGσ _ _) (hGσ _ _)).mp h9))] at h
    exact a_X5_hasColumnsOf_53 K hQ hX hTh _ h hGσ hYσ hE hth _ _ _ hH (lv_sub (l' := [(0, .ref th)]) hl [0] rfl) hc
set_option maxRecDepth 20000 in
theorem a_X5_hasColumnsOf_36 {Q : Sg → Int → Prop} {X : Sg → String → Prop} {th : Nat} (K : MD l R p s m args c cX5_hasColumnsOf 3 RX5 D cA tys A n0 s0 0 0 []) (hQ : CQZ p l e R s m args below meth c cX5_hasColumnsOf D cA A n0 s0 QM σi Q) (hX : CX p l e R s m args below meth c 3 D cA A n0 s0 QM σi X) (hTh : CT p l e R s m args below meth c cX5_hasColumnsOf 3 D cA A n0 s0 QM σi RX5 X) {K2 : Sg → Option Nat → Int → Prop} (hK2 : ∀ (σ : Sg) (v1 : Option Nat) (v2 : Int) (g1 : tyV σ 5 v1) (g2 : rng v2), K2 σ v1 v2 → RG σ → TY σ → Ext σi σ → kO σ th 5 → JJ p l e R s m args below meth c 3 D cA A n0 s0 QM σ 2 [(0, .ref th), (1, va_rf v1), (2, .int (i32 v2))] []) : ∀ (σ : Sg) (v1 : Option Nat) (v2 : Int) (g1 : tyV σ 5 v1) (g2 : rng v2), w_X5_hasColumnsOf_36 th K2 Q X σ v1 v2 → RG σ → TY σ → Ext σi σ → kO σ th 5 → JJ p l e R s m args below meth c 3 D cA A n0 s0 QM σ 36 [(0, .ref th), (1, va_rf v1), (2, .int (i32 v2))] [] := by
  intro σ v1 v2 g1 g2 h hGσ hYσ hE hth H locs ls hH hl hc
  have B := K.1
  have hl9 := K.2.2.2.2.2.2
  unfold w_X5_hasColumnsOf_36 at h
  obtain ⟨q1, h⟩ := h
  refine lv_iinc (k := 2) (v := i32 (v2 + 1)) (lv' := [(2, .int (i32 (v2 + 1))), (0, .ref th), (1, va_rf v1)]) B.1 B.2.1 dX5_hasColumnsOf_36 hl rfl (i32_add _ _) (by decide) (by generalize v1 = w9; cases w9 <;> rfl) (fun ls hl => ?_)
  refine lv_goto (tgt := 2) B.1 B.2.1 dX5_hasColumnsOf_39 (by decide) ?_
  exact hK2 _ _ _ g1 q1 h hGσ hYσ hE hth _ _ _ hH (lv_sub (l' := [(0, .ref th), (1, va_rf v1), (2, .int (i32 (v2 + 1)))]) hl [1, 2, 0] rfl) hc
set_option maxRecDepth 20000 in
theorem a_X5_hasColumnsOf_34 {Q : Sg → Int → Prop} {X : Sg → String → Prop} {th : Nat} (K : MD l R p s m args c cX5_hasColumnsOf 3 RX5 D cA tys A n0 s0 0 0 []) (hQ : CQZ p l e R s m args below meth c cX5_hasColumnsOf D cA A n0 s0 QM σi Q) (hX : CX p l e R s m args below meth c 3 D cA A n0 s0 QM σi X) (hTh : CT p l e R s m args below meth c cX5_hasColumnsOf 3 D cA A n0 s0 QM σi RX5 X) : ∀ (σ : Sg), w_X5_hasColumnsOf_34 th Q X σ → RG σ → TY σ → Ext σi σ → kO σ th 5 → JJ p l e R s m args below meth c 3 D cA A n0 s0 QM σ 34 [(0, .ref th)] [] := by
  intro σ h hGσ hYσ hE hth H locs ls hH hl hc
  have B := K.1
  have hl9 := K.2.2.2.2.2.2
  unfold w_X5_hasColumnsOf_34 at h
  refine lv_iconst (v := i32 0) B.1 B.2.1 dX5_hasColumnsOf_34 (by decide) ?_
  exact hQ _ _ _ _ _ _ (by unfold rng; omega) (Or.inl rfl) dX5_hasColumnsOf_35 hH hc h hGσ hYσ hE
set_option maxRecDepth 20000 in
theorem a_X5_hasColumnsOf_18 {Q : Sg → Int → Prop} {X : Sg → String → Prop} {th : Nat} (K : MD l R p s m args c cX5_hasColumnsOf 3 RX5 D cA tys A n0 s0 0 0 []) (hQ : CQZ p l e R s m args below meth c cX5_hasColumnsOf D cA A n0 s0 QM σi Q) (hX : CX p l e R s m args below meth c 3 D cA A n0 s0 QM σi X) (hTh : CT p l e R s m args below meth c cX5_hasColumnsOf 3 D cA A n0 s0 QM σi RX5 X) {K2 : Sg → Option Nat → Int → Prop} (hK2 : ∀ (σ : Sg) (v1 : Option Nat) (v2 : Int) (g1 : tyV σ 5 v1) (g2 : rng v2), K2 σ v1 v2 → RG σ → TY σ → Ext σi σ → kO σ th 5 → JJ p l e R s m args below meth c 3 D cA A n0 s0 QM σ 2 [(0, .ref th), (1, va_rf v1), (2, .int (i32 v2))] []) : ∀ (σ : Sg) (v1 : Option Nat) (v2 : Int) (g1 : tyV σ 5 v1) (g2 : rng v2), w_X5_hasColumnsOf_18 th K2 Q X σ v1 v2 → RG σ → TY σ → Ext σi σ → kO σ th 5 → JJ p l e R s m args below meth c 3 D cA A n0 s0 QM σ 18 [(0, .ref th), (1, va_rf v1), (2, .int (i32 v2))] [] := by
  intro σ v1 v2 g1 g2 h hGσ hYσ hE hth H locs ls hH hl hc
  have B := K.1
  have hl9 := K.2.2.2.2.2.2
  unfold w_X5_hasColumnsOf_18 at h
  refine lv_aload_n B.1 B.2.1 dX5_hasColumnsOf_18 rfl (lv_at hl 0 rfl) ?_
  refine f_getp B hH hth (by decide) rfl wu_X5 0 (by decide) wf_X5_9 rfl rfl dX5_hasColumnsOf_19 ?_
  refine lv_iload_n B.1 B.2.1 dX5_hasColumnsOf_22 rfl (lv_at hl 2 rfl) ?_
  obtain ⟨a12, ea12, h⟩ := h
  have ka12 : kO σ a12 101 := (hYσ.get hth (by decide)) a12 ea12
  have h := h ka12
  obtain ⟨q1, h⟩ := h
  refine W.eq (g2 := F0 m 23 ls [.int (i32 v2), .ref a12]) (by rw [ea12]; rfl) ?_
  refine y_lald B K.2.1 hH ka12 q1 dX5_hasColumnsOf_23 (hYσ.2 _) ?_
  refine lv_aload_nQ B.1 B.2.1 dX5_hasColumnsOf_24 rfl (lv_at hl 1 rfl) ?_
  obtain ⟨a13, ea13, h⟩ := h
  have ka13 : kO σ a13 5 := g1 a13 ea13
  have h := h ka13
  refine W.eq (g2 := F0 m 25 ls [.ref a13, .long (gJ σ a12 v2.toNat)]) (by rw [ea13]; rfl) ?_
  refine f_getp B hH ka13 (by decide) rfl wu_X5 0 (by decide) wf_X5_9 rfl rfl dX5_hasColumnsOf_25 ?_
  refine lv_iload_n B.1 B.2.1 dX5_hasColumnsOf_28 rfl (lv_at hl 2 rfl) ?_
  obtain ⟨a14, ea14, h⟩ := h
  have ka14 : kO σ a14 101 := (hYσ.get ka13 (by decide)) a14 ea14
  have h := h ka14
  obtain ⟨q2, h⟩ := h
  refine W.eq (g2 := F0 m 29 ls [.int (i32 v2), .ref a14, .long (gJ σ a12 v2.toNat)]) (by rw [ea14]; rfl) ?_
  refine y_lald B K.2.1 hH ka14 q2 dX5_hasColumnsOf_29 (hYσ.2 _) ?_
  refine W.lcmp B.1 B.2.1 dX5_hasColumnsOf_30 ?_
  refine lv_if_eq (tgt := 36) B.1 B.2.1 dX5_hasColumnsOf_31 (by decide) (fun h9 => ?_) (fun h9 => ?_)
  · rw [if_pos ((lg_cmp_eq _ _).mp h9)] at h
    exact a_X5_hasColumnsOf_36 K hQ hX hTh hK2 _ _ _ g1 g2 h hGσ hYσ hE hth _ _ _ hH (lv_sub (l' := [(0, .ref th), (1, va_rf v1), (2, .int (i32 v2))]) hl [0, 1, 2] rfl) hc
  · rw [if_neg (fun q => h9 ((lg_cmp_eq _ _).mpr q))] at h
    exact a_X5_hasColumnsOf_34 K hQ hX hTh _ h hGσ hYσ hE hth _ _ _ hH (lv_sub (l' := [(0, .ref th)]) hl [0] rfl) hc
set_option maxRecDepth 20000 in
theorem a_X5_hasColumnsOf_10 {Q : Sg → Int → Prop} {X : Sg → String → Prop} {th : Nat} (K : MD l R p s m args c cX5_hasColumnsOf 3 RX5 D cA tys A n0 s0 0 0 []) (hQ : CQZ p l e R s m args below meth c cX5_hasColumnsOf D cA A n0 s0 QM σi Q) (hX : CX p l e R s m args below meth c 3 D cA A n0 s0 QM σi X) (hTh : CT p l e R s m args below meth c cX5_hasColumnsOf 3 D cA A n0 s0 QM σi RX5 X) {K2 : Sg → Option Nat → Int → Prop} (hK2 : ∀ (σ : Sg) (v1 : Option Nat) (v2 : Int) (g1 : tyV σ 5 v1) (g2 : rng v2), K2 σ v1 v2 → RG σ → TY σ → Ext σi σ → kO σ th 5 → JJ p l e R s m args below meth c 3 D cA A n0 s0 QM σ 2 [(0, .ref th), (1, va_rf v1), (2, .int (i32 v2))] []) : ∀ (σ : Sg) (v1 : Option Nat) (v2 : Int) (g1 : tyV σ 5 v1) (g2 : rng v2), w_X5_hasColumnsOf_10 th K2 Q X σ v1 v2 → RG σ → TY σ → Ext σi σ → kO σ th 5 → JJ p l e R s m args below meth c 3 D cA A n0 s0 QM σ 10 [(0, .ref th), (1, va_rf v1), (2, .int (i32 v2))] [] := by
  intro σ v1 v2 g1 g2 h hGσ hYσ hE hth H locs ls hH hl hc
  have B := K.1
  have hl9 := K.2.2.2.2.2.2
  unfold w_X5_hasColumnsOf_10 at h
  refine lv_iload_n B.1 B.2.1 dX5_hasColumnsOf_10 rfl (lv_at hl 2 rfl) ?_
  refine lv_aload_nQ B.1 B.2.1 dX5_hasColumnsOf_11 rfl (lv_at hl 1 rfl) ?_
  obtain ⟨a15, ea15, h⟩ := h
  have ka15 : kO σ a15 5 := g1 a15 ea15
  have h := h ka15
  refine W.eq (g2 := F0 m 12 ls [.ref a15, .int (i32 v2)]) (by rw [ea15]; rfl) ?_
  refine f_geti B hH ka15 (by decide) rfl wu_X5 3 (by decide) wf_X5_22 rfl rfl dX5_hasColumnsOf_12 ?_
  refine lv_icmp_ge (tgt := 42) B.1 B.2.1 dX5_hasColumnsOf_15 (by decide) (fun h9 => ?_) (fun h9 => ?_)
  · rw [if_pos ((i32_le (hGσ _ _) g2).mp h9)] at h
    exact a_X5_hasColumnsOf_42 K hQ hX hTh _ _ g1 h hGσ hYσ hE hth _ _ _ hH (lv_sub (l' := [(0, .ref th), (1, va_rf v1)]) hl [0, 1] rfl) hc
  · rw [if_neg (fun q => h9 ((i32_le (hGσ _ _) g2).mpr q))] at h
    exact a_X5_hasColumnsOf_18 K hQ hX hTh hK2 _ _ _ g1 g2 h hGσ hYσ hE hth _ _ _ hH (lv_sub (l' := [(0, .ref th), (1, va_rf v1), (2, .int (i32 v2))]) hl [0, 1, 2] rfl) hc
set_option maxRecDepth 20000 in
theorem a_X5_hasColumnsOf_2 {Q : Sg → Int → Prop} {X : Sg → String → Prop} {th : Nat} (K : MD l R p s m args c cX5_hasColumnsOf 3 RX5 D cA tys A n0 s0 0 0 []) (hQ : CQZ p l e R s m args below meth c cX5_hasColumnsOf D cA A n0 s0 QM σi Q) (hX : CX p l e R s m args below meth c 3 D cA A n0 s0 QM σi X) (hTh : CT p l e R s m args below meth c cX5_hasColumnsOf 3 D cA A n0 s0 QM σi RX5 X) {K2 : Sg → Option Nat → Int → Prop} (hK2 : ∀ (σ : Sg) (v1 : Option Nat) (v2 : Int) (g1 : tyV σ 5 v1) (g2 : rng v2), K2 σ v1 v2 → RG σ → TY σ → Ext σi σ → kO σ th 5 → JJ p l e R s m args below meth c 3 D cA A n0 s0 QM σ 2 [(0, .ref th), (1, va_rf v1), (2, .int (i32 v2))] []) : ∀ (σ : Sg) (v1 : Option Nat) (v2 : Int) (g1 : tyV σ 5 v1) (g2 : rng v2), w_X5_hasColumnsOf_2 th K2 Q X σ v1 v2 → RG σ → TY σ → Ext σi σ → kO σ th 5 → JJ p l e R s m args below meth c 3 D cA A n0 s0 QM σ 2 [(0, .ref th), (1, va_rf v1), (2, .int (i32 v2))] [] := by
  intro σ v1 v2 g1 g2 h hGσ hYσ hE hth H locs ls hH hl hc
  have B := K.1
  have hl9 := K.2.2.2.2.2.2
  unfold w_X5_hasColumnsOf_2 at h
  refine lv_iload_n B.1 B.2.1 dX5_hasColumnsOf_2 rfl (lv_at hl 2 rfl) ?_
  refine lv_aload_n B.1 B.2.1 dX5_hasColumnsOf_3 rfl (lv_at hl 0 rfl) ?_
  refine f_geti B hH hth (by decide) rfl wu_X5 3 (by decide) wf_X5_22 rfl rfl dX5_hasColumnsOf_4 ?_
  refine lv_icmp_ge (tgt := 42) B.1 B.2.1 dX5_hasColumnsOf_7 (by decide) (fun h9 => ?_) (fun h9 => ?_)
  · rw [if_pos ((i32_le (hGσ _ _) g2).mp h9)] at h
    exact a_X5_hasColumnsOf_42 K hQ hX hTh _ _ g1 h hGσ hYσ hE hth _ _ _ hH (lv_sub (l' := [(0, .ref th), (1, va_rf v1)]) hl [0, 1] rfl) hc
  · rw [if_neg (fun q => h9 ((i32_le (hGσ _ _) g2).mpr q))] at h
    exact a_X5_hasColumnsOf_10 K hQ hX hTh hK2 _ _ _ g1 g2 h hGσ hYσ hE hth _ _ _ hH (lv_sub (l' := [(0, .ref th), (1, va_rf v1), (2, .int (i32 v2))]) hl [0, 1, 2] rfl) hc
theorem al_X5_hasColumnsOf_2 {Q : Sg → Int → Prop} {X : Sg → String → Prop} {th : Nat} (K : MD l R p s m args c cX5_hasColumnsOf 3 RX5 D cA tys A n0 s0 0 0 []) (hQ : CQZ p l e R s m args below meth c cX5_hasColumnsOf D cA A n0 s0 QM σi Q) (hX : CX p l e R s m args below meth c 3 D cA A n0 s0 QM σi X) (hTh : CT p l e R s m args below meth c cX5_hasColumnsOf 3 D cA A n0 s0 QM σi RX5 X) : ∀ (n : Nat), ∀ (σ : Sg) (v1 : Option Nat) (v2 : Int) (g1 : tyV σ 5 v1) (g2 : rng v2), wl_X5_hasColumnsOf_2 th Q X n σ v1 v2 → RG σ → TY σ → Ext σi σ → kO σ th 5 → JJ p l e R s m args below meth c 3 D cA A n0 s0 QM σ 2 [(0, .ref th), (1, va_rf v1), (2, .int (i32 v2))] [] := by
  intro n
  induction n with
  | zero => intro σ v1 v2 g1 g2 h; exact h.elim
  | succ n ih => exact fun σ v1 v2 g1 g2 h => a_X5_hasColumnsOf_2 K hQ hX hTh ih σ v1 v2 g1 g2 h
set_option maxRecDepth 20000 in
theorem a_X5_hasColumnsOf_0 {Q : Sg → Int → Prop} {X : Sg → String → Prop} {th : Nat} (K : MD l R p s m args c cX5_hasColumnsOf 3 RX5 D cA tys A n0 s0 0 0 []) (hQ : CQZ p l e R s m args below meth c cX5_hasColumnsOf D cA A n0 s0 QM σi Q) (hX : CX p l e R s m args below meth c 3 D cA A n0 s0 QM σi X) (hTh : CT p l e R s m args below meth c cX5_hasColumnsOf 3 D cA A n0 s0 QM σi RX5 X) : ∀ (σ : Sg) (v1 : Option Nat) (g1 : tyV σ 5 v1), w_X5_hasColumnsOf_0 th Q X σ v1 → RG σ → TY σ → Ext σi σ → kO σ th 5 → JJ p l e R s m args below meth c 3 D cA A n0 s0 QM σ 0 [(0, .ref th), (1, va_rf v1)] [] := by
  intro σ v1 g1 h hGσ hYσ hE hth H locs ls hH hl hc
  have B := K.1
  have hl9 := K.2.2.2.2.2.2
  unfold w_X5_hasColumnsOf_0 at h
  refine lv_iconst (v := i32 0) B.1 B.2.1 dX5_hasColumnsOf_0 (by decide) ?_
  refine lv_istore_n (lv' := [(2, .int (i32 0)), (0, .ref th), (1, va_rf v1)]) B.1 B.2.1 dX5_hasColumnsOf_1 rfl hl (by decide) (by generalize v1 = w9; cases w9 <;> rfl) (fun ls hl => ?_)
  obtain ⟨n9, h⟩ := h
  exact al_X5_hasColumnsOf_2 K hQ hX hTh n9 _ _ _ g1 (by unfold rng; omega) h hGσ hYσ hE hth _ _ _ hH (lv_sub (l' := [(0, .ref th), (1, va_rf v1), (2, .int (i32 0))]) hl [1, 2, 0] rfl) hc
theorem ok_X5_hasColumnsOf (hl0 : l.stackTraces = false) (hT : TyC cA tys) {Q : Sg → Int → Prop} {X : Sg → String → Prop} (σ : Sg) (th : Nat) (v1 : Option Nat) (g1 : tyV σ 5 v1) (hth : kO σ th 5) (hG : RG σ) (hY : TY σ) (h : wp_X5_hasColumnsOf th v1 σ Q X) : Ok l D cA tys A yX5_hasColumnsOf (.code yX5_hasColumnsOf cX5_hasColumnsOf 3 (some .boolean)) 0 0 [.ref th, va_rf v1] σ (QcZ σ Q) (QxC σ X) := by
  unfold wp_X5_hasColumnsOf at h
  exact oc_Z hl0 (by decide) (by cases v1 <;> exact Nat.le_of_ble_eq_true rfl) hT (fun p e R s m args below meth c K hQ hX hTh H locs ls hH hl hc => a_X5_hasColumnsOf_0 K hQ hX hTh σ v1 g1 h hG hY (Ext.rfl' σ) hth H locs ls hH (lv_sub (l' := [(0, .ref th), (1, va_rf v1)]) hl [0, 1] (by cases v1 <;> rfl)) hc)
theorem dX6_unionText_0 : decode cX6_unionText 0 = .ok (.aload_n 0, 1) := by decide +kernel
theorem dX6_unionText_1 : decode cX6_unionText 1 = .ok (.invokevirtual 40, 3) := by decide +kernel
theorem dX6_unionText_4 : decode cX6_unionText 4 = .ok (.aload_n 0, 1) := by decide +kernel
theorem dX6_unionText_5 : decode cX6_unionText 5 = .ok (.iconst 3, 1) := by decide +kernel
theorem dX6_unionText_6 : decode cX6_unionText 6 = .ok (.invokevirtual 152, 3) := by decide +kernel
theorem dX6_unionText_9 : decode cX6_unionText 9 = .ok (.aload_n 0, 1) := by decide +kernel
theorem dX6_unionText_10 : decode cX6_unionText 10 = .ok (.invokevirtual 40, 3) := by decide +kernel
theorem dX6_unionText_13 : decode cX6_unionText 13 = .ok (.aload_n 0, 1) := by decide +kernel
theorem dX6_unionText_14 : decode cX6_unionText 14 = .ok (.getfield 88, 3) := by decide +kernel
theorem dX6_unionText_17 : decode cX6_unionText 17 = .ok (.aload_n 0, 1) := by decide +kernel
theorem dX6_unionText_18 : decode cX6_unionText 18 = .ok (.invokevirtual 174, 3) := by decide +kernel
theorem dX6_unionText_21 : decode cX6_unionText 21 = .ok (.putfield 178, 3) := by decide +kernel
theorem dX6_unionText_24 : decode cX6_unionText 24 = .ok (.aload_n 0, 1) := by decide +kernel
theorem dX6_unionText_25 : decode cX6_unionText 25 = .ok (.getfield 88, 3) := by decide +kernel
theorem dX6_unionText_28 : decode cX6_unionText 28 = .ok (.aload_n 0, 1) := by decide +kernel
theorem dX6_unionText_29 : decode cX6_unionText 29 = .ok (.getfield 31, 3) := by decide +kernel
theorem dX6_unionText_32 : decode cX6_unionText 32 = .ok (.getfield 84, 3) := by decide +kernel
theorem dX6_unionText_35 : decode cX6_unionText 35 = .ok (.aload_n 0, 1) := by decide +kernel
theorem dX6_unionText_36 : decode cX6_unionText 36 = .ok (.getfield 88, 3) := by decide +kernel
theorem dX6_unionText_39 : decode cX6_unionText 39 = .ok (.getfield 155, 3) := by decide +kernel
theorem dX6_unionText_42 : decode cX6_unionText 42 = .ok (.aaload, 1) := by decide +kernel
theorem dX6_unionText_43 : decode cX6_unionText 43 = .ok (.invokevirtual 158, 3) := by decide +kernel
theorem dX6_unionText_46 : decode cX6_unionText 46 = .ok (.aload_n 0, 1) := by decide +kernel
theorem dX6_unionText_47 : decode cX6_unionText 47 = .ok (.getfield 88, 3) := by decide +kernel
theorem dX6_unionText_50 : decode cX6_unionText 50 = .ok (.aload_n 0, 1) := by decide +kernel
theorem dX6_unionText_51 : decode cX6_unionText 51 = .ok (.getfield 31, 3) := by decide +kernel
theorem dX6_unionText_54 : decode cX6_unionText 54 = .ok (.getfield 84, 3) := by decide +kernel
theorem dX6_unionText_57 : decode cX6_unionText 57 = .ok (.aload_n 0, 1) := by decide +kernel
theorem dX6_unionText_58 : decode cX6_unionText 58 = .ok (.getfield 88, 3) := by decide +kernel
theorem dX6_unionText_61 : decode cX6_unionText 61 = .ok (.getfield 178, 3) := by decide +kernel
theorem dX6_unionText_64 : decode cX6_unionText 64 = .ok (.aaload, 1) := by decide +kernel
theorem dX6_unionText_65 : decode cX6_unionText 65 = .ok (.invokevirtual 181, 3) := by decide +kernel
theorem dX6_unionText_68 : decode cX6_unionText 68 = .ok (.ifCond .ne 9, 3) := by decide +kernel
theorem dX6_unionText_71 : decode cX6_unionText 71 = .ok (.aload_n 0, 1) := by decide +kernel
theorem dX6_unionText_72 : decode cX6_unionText 72 = .ok (.bipush 8, 2) := by decide +kernel
theorem dX6_unionText_74 : decode cX6_unionText 74 = .ok (.invokevirtual 81, 3) := by decide +kernel
theorem dX6_unionText_77 : decode cX6_unionText 77 = .ok (.aload_n 0, 1) := by decide +kernel
theorem dX6_unionText_78 : decode cX6_unionText 78 = .ok (.invokevirtual 40, 3) := by decide +kernel
theorem dX6_unionText_81 : decode cX6_unionText 81 = .ok (.return_, 1) := by decide +kernel
set_option maxRecDepth 20000 in
theorem a_X6_unionText_77 {Q : Sg → Unit → Prop} {X : Sg → String → Prop} {th : Nat} (K : MD l R p s m args c cX6_unionText 1 RX6 D cA tys A n0 s0 10 173 []) (hQ : CQV p l e R s m args below meth c cX6_unionText D cA A n0 s0 QM σi Q) (hX : CX p l e R s m args below meth c 1 D cA A n0 s0 QM σi X) (hTh : CT p l e R s m args below meth c cX6_unionText 1 D cA A n0 s0 QM σi RX6 X) : ∀ (σ : Sg), w_X6_unionText_77 th Q X σ → RG σ → TY σ → Ext σi σ → kO σ th 6 → JJ p l e R s m args below meth c 1 D cA A n0 s0 QM σ 77 [(0, .ref th)] [] := by
  intro σ h hGσ hYσ hE hth H locs ls hH hl hc
  have B := K.1
  have hl9 := K.2.2.2.2.2.2
  unfold w_X6_unionText_77 at h
  refine lv_aload_n B.1 B.2.1 dX6_unionText_77 rfl (lv_at hl 0 rfl) ?_
  refine W.eq (g2 := F0 m 78 ls [.ref th]) (rfl) ?_
  refine c_V B hH hl hc K.2.2.1 (C := RX6) (T := TX6) (N := 9) (ci := 6) (As := []) (ok_X6_next hl9 K.2.1 σ th hth hGσ hYσ h) wc_X6_40 0 hd_X6_next ⟨Nat.le_trans (Nat.le_of_ble_eq_true rfl) K.2.2.2.1, Nat.le_trans (Nat.le_of_ble_eq_true rfl) K.2.2.2.2.1⟩ hth.1 hth.2 (by decide) rfl rfl (rest := []) rfl (Nat.le_of_ble_eq_true rfl) dX6_unionText_78 (fun σ37 w hq => ?_) (fun σ9 E9 hx9 => hX σ9 E9 _ _ _ (tb_out K.2.2.2.2.2.1 rfl) hx9.1 hx9.2.1 hx9.2.2.1 (hE.trans hx9.2.2.2))
  obtain ⟨rfl, h, hGσ37, hYσ37, xσ37⟩ := hq
  have h := h xσ37
  intro H locs ls hH hl hc
  refine W.eq (g2 := F0 m 81 ls []) (rfl) ?_
  try dsimp only at h
  exact hQ _ _ _ _ _ dX6_unionText_81 hH hc h hGσ37 hYσ37 (hE.trans xσ37)
set_option maxRecDepth 20000 in
theorem a_X6_unionText_71 {Q : Sg → Unit → Prop} {X : Sg → String → Prop} {th : Nat} (K : MD l R p s m args c cX6_unionText 1 RX6 D cA tys A n0 s0 10 173 []) (hQ : CQV p l e R s m args below meth c cX6_unionText D cA A n0 s0 QM σi Q) (hX : CX p l e R s m args below meth c 1 D cA A n0 s0 QM σi X) (hTh : CT p l e R s m args below meth c cX6_unionText 1 D cA A n0 s0 QM σi RX6 X) : ∀ (σ : Sg), w_X6_unionText_71 th Q X σ → RG σ → TY σ → Ext σi σ → kO σ th 6 → JJ p l e R s m args below meth c 1 D cA A n0 s0 QM σ 71 [(0, .ref th)] [] := by
  intro σ h hGσ hYσ hE hth H locs ls hH hl hc
  have B := K.1
  have hl9 := K.2.2.2.2.2.2
  unfold w_X6_unionText_71 at h
  refine lv_aload_n B.1 B.2.1 dX6_unionText_71 rfl (lv_at hl 0 rfl) ?_
  refine lv_bipush (v := i32 8) B.1 B.2.1 dX6_unionText_72 (by decide) ?_
  refine W.eq (g2 := F0 m 74 ls [.int (i32 8), .ref th]) (rfl) ?_
  refine c_V B hH hl hc K.2.2.1 (C := RX6) (T := TX6) (N := 9) (ci := 6) (As := [.int (i32 8)]) (ok_X6_refuse hl9 K.2.1 σ th 8 (by unfold rng; omega) hth hGσ hYσ h) wc_X6_81 1 hd_X6_refuse ⟨Nat.le_trans (Nat.le_of_ble_eq_true rfl) K.2.2.2.1, Nat.le_trans (Nat.le_of_ble_eq_true rfl) K.2.2.2.2.1⟩ hth.1 hth.2 (by decide) rfl rfl (rest := []) rfl (Nat.le_of_ble_eq_true rfl) dX6_unionText_74 (fun σ38 w hq => ?_) (fun σ9 E9 hx9 => hX σ9 E9 _ _ _ (tb_out K.2.2.2.2.2.1 rfl) hx9.1 hx9.2.1 hx9.2.2.1 (hE.trans hx9.2.2.2))
  obtain ⟨rfl, h, hGσ38, hYσ38, xσ38⟩ := hq
  have h := h xσ38
  intro H locs ls hH hl hc
  refine W.eq (g2 := F0 m 77 ls []) (rfl) ?_
  try dsimp only at h
  exact a_X6_unionText_77 K hQ hX hTh _ h hGσ38 hYσ38 (hE.trans xσ38) (hth.up xσ38) _ _ _ hH (lv_sub (l' := [(0, .ref th)]) hl [0] rfl) hc
set_option maxRecDepth 20000 in
theorem a_X6_unionText_0 {Q : Sg → Unit → Prop} {X : Sg → String → Prop} {th : Nat} (K : MD l R p s m args c cX6_unionText 1 RX6 D cA tys A n0 s0 10 173 []) (hQ : CQV p l e R s m args below meth c cX6_unionText D cA A n0 s0 QM σi Q) (hX : CX p l e R s m args below meth c 1 D cA A n0 s0 QM σi X) (hTh : CT p l e R s m args below meth c cX6_unionText 1 D cA A n0 s0 QM σi RX6 X) : ∀ (σ : Sg), w_X6_unionText_0 th Q X σ → RG σ → TY σ → Ext σi σ → kO σ th 6 → JJ p l e R s m args below meth c 1 D cA A n0 s0 QM σ 0 [(0, .ref th)] [] := by
  intro σ h hGσ hYσ hE hth H locs ls hH hl hc
  have B := K.1
  have hl9 := K.2.2.2.2.2.2
  unfold w_X6_unionText_0 at h
  refine lv_aload_n B.1 B.2.1 dX6_unionText_0 rfl (lv_at hl 0 rfl) ?_
  refine W.eq (g2 := F0 m 1 ls [.ref th]) (rfl) ?_
  refine c_V B hH hl hc K.2.2.1 (C := RX6) (T := TX6) (N := 9) (ci := 6) (As := []) (ok_X6_next hl9 K.2.1 σ th hth hGσ hYσ h) wc_X6_40 0 hd_X6_next ⟨Nat.le_trans (Nat.le_of_ble_eq_true rfl) K.2.2.2.1, Nat.le_trans (Nat.le_of_ble_eq_true rfl) K.2.2.2.2.1⟩ hth.1 hth.2 (by decide) rfl rfl (rest := []) rfl (Nat.le_of_ble_eq_true rfl) dX6_unionText_1 (fun σ39 w hq => ?_) (fun σ9 E9 hx9 => hX σ9 E9 _ _ _ (tb_out K.2.2.2.2.2.1 rfl) hx9.1 hx9.2.1 hx9.2.2.1 (hE.trans hx9.2.2.2))
  obtain ⟨rfl, h, hGσ39, hYσ39, xσ39⟩ := hq
  have h := h xσ39
  intro H locs ls hH hl hc
  refine W.eq (g2 := F0 m 4 ls []) (rfl) ?_
  try dsimp only at h
  refine lv_aload_n B.1 B.2.1 dX6_unionText_4 rfl (lv_at hl 0 rfl) ?_
  refine lv_iconst (v := i32 3) B.1 B.2.1 dX6_unionText_5 (by decide) ?_
  refine W.eq (g2 := F0 m 6 ls [.int (i32 3), .ref th]) (rfl) ?_
  refine c_V B hH hl hc K.2.2.1 (C := RX6) (T := TX6) (N := 9) (ci := 6) (As := [.int (i32 3)]) (ok_X6_firstInput hl9 K.2.1 σ39 th 3 (by unfold rng; omega) (hth.up xσ39) hGσ39 hYσ39 h) wc_X6_152 1 hd_X6_firstInput ⟨Nat.le_trans (Nat.le_of_ble_eq_true rfl) K.2.2.2.1, Nat.le_trans (Nat.le_of_ble_eq_true rfl) K.2.2.2.2.1⟩ (hth.up xσ39).1 (hth.up xσ39).2 (by decide) rfl rfl (rest := []) rfl (Nat.le_of_ble_eq_true rfl) dX6_unionText_6 (fun σ40 w hq => ?_) (fun σ9 E9 hx9 => hX σ9 E9 _ _ _ (tb_out K.2.2.2.2.2.1 rfl) hx9.1 hx9.2.1 hx9.2.2.1 ((hE.trans xσ39).trans hx9.2.2.2))
  obtain ⟨rfl, h, hGσ40, hYσ40, xσ40⟩ := hq
  have h := h xσ40
  intro H locs ls hH hl hc
  refine W.eq (g2 := F0 m 9 ls []) (rfl) ?_
  try dsimp only at h
  refine lv_aload_n B.1 B.2.1 dX6_unionText_9 rfl (lv_at hl 0 rfl) ?_
  refine W.eq (g2 := F0 m 10 ls [.ref th]) (rfl) ?_
  refine c_V B hH hl hc K.2.2.1 (C := RX6) (T := TX6) (N := 9) (ci := 6) (As := []) (ok_X6_next hl9 K.2.1 σ40 th (hth.up (xσ39.trans xσ40)) hGσ40 hYσ40 h) wc_X6_40 0 hd_X6_next ⟨Nat.le_trans (Nat.le_of_ble_eq_true rfl) K.2.2.2.1, Nat.le_trans (Nat.le_of_ble_eq_true rfl) K.2.2.2.2.1⟩ (hth.up (xσ39.trans xσ40)).1 (hth.up (xσ39.trans xσ40)).2 (by decide) rfl rfl (rest := []) rfl (Nat.le_of_ble_eq_true rfl) dX6_unionText_10 (fun σ41 w hq => ?_) (fun σ9 E9 hx9 => hX σ9 E9 _ _ _ (tb_out K.2.2.2.2.2.1 rfl) hx9.1 hx9.2.1 hx9.2.2.1 (((hE.trans xσ39).trans xσ40).trans hx9.2.2.2))
  obtain ⟨rfl, h, hGσ41, hYσ41, xσ41⟩ := hq
  have h := h xσ41
  intro H locs ls hH hl hc
  refine W.eq (g2 := F0 m 13 ls []) (rfl) ?_
  try dsimp only at h
  refine lv_aload_n B.1 B.2.1 dX6_unionText_13 rfl (lv_at hl 0 rfl) ?_
  refine f_getp B hH (hth.up (xσ39.trans (xσ40.trans xσ41))) (by decide) rfl wu_X6 8 (by decide) wf_X6_88 rfl rfl dX6_unionText_14 ?_
  refine lv_aload_n B.1 B.2.1 dX6_unionText_17 rfl (lv_at hl 0 rfl) ?_
  refine W.eq (g2 := F0 m 18 ls [.ref th, va_rf (gP σ41 th 8)]) (rfl) ?_
  refine c_V B hH hl hc K.2.2.1 (C := RX6) (T := TX6) (N := 9) (ci := 6) (As := []) (ok_X6_input hl9 K.2.1 σ41 th (hth.up (xσ39.trans (xσ40.trans xσ41))) hGσ41 hYσ41 h) wc_X6_174 0 hd_X6_input ⟨Nat.le_trans (Nat.le_of_ble_eq_true rfl) K.2.2.2.1, Nat.le_trans (Nat.le_of_ble_eq_true rfl) K.2.2.2.2.1⟩ (hth.up (xσ39.trans (xσ40.trans xσ41))).1 (hth.up (xσ39.trans (xσ40.trans xσ41))).2 (by decide) rfl rfl (rest := [va_rf (gP σ41 th 8)]) rfl (by simp only [List.map_cons, List.map_nil, rf_cat]; exact Nat.le_of_ble_eq_true rfl) dX6_unionText_18 (fun σ42 w hq => ?_) (fun σ9 E9 hx9 => hX σ9 E9 _ _ _ (tb_out K.2.2.2.2.2.1 rfl) hx9.1 hx9.2.1 hx9.2.2.1 ((((hE.trans xσ39).trans xσ40).trans xσ41).trans hx9.2.2.2))
  obtain ⟨r43, rfl, gr43, h, hGσ42, hYσ42, xσ42⟩ := hq
  have h := h xσ42
  intro H locs ls hH hl hc
  refine W.eq (g2 := F0 m 21 ls [.int (i32 r43), va_rf (gP σ41 th 8)]) (rfl) ?_
  try dsimp only at h
  obtain ⟨a44, ea44, h⟩ := h
  have ka44 : kO σ42 a44 5 := ((hYσ41.get (hth.up (xσ39.trans (xσ40.trans xσ41))) (by decide)).up xσ42) a44 ea44
  have h := h ka44
  obtain ⟨σ45, eσ45⟩ : ∃ z, z = pI σ42 a44 8 r43 := ⟨_, rfl⟩
  have h := h σ45 eσ45
  refine W.eq (g2 := F0 m 21 ls [.int (i32 r43), .ref a44]) (by rw [ea44]; rfl) ?_
  refine f_puti B hH ka44 (by decide) rfl wu_X5 tyX5 tyX5_ok nmX5 8 (by decide) wf_X6_178 rfl (ty := .int) rfl rfl rfl rfl rfl dX6_unionText_21 (fun H locs hH => ?_)
  have hH : Hd D cA A s (pI σ42 a44 8 r43) H locs := hH
  rw [← eσ45] at hH
  have hGσ45 : RG σ45 := by rw [eσ45]; exact hGσ42.pI gr43
  have hYσ45 : TY σ45 := by rw [eσ45]; exact hYσ42.pI
  have xσ45 : Ext σ42 σ45 := by rw [eσ45]; exact Ext.pI
  have hc : CB n0 s0 σ45 := by rw [eσ45]; exact hc
  rw [show gc σ42 = gc σ45 by rw [eσ45]; try rfl, show gs σ42 = gs σ45 by rw [eσ45]; try rfl]
  refine lv_aload_n B.1 B.2.1 dX6_unionText_24 rfl (lv_at hl 0 rfl) ?_
  refine f_getp B hH (hth.up (xσ39.trans (xσ40.trans (xσ41.trans (xσ42.trans xσ45))))) (by decide) rfl wu_X6 8 (by decide) wf_X6_88 rfl rfl dX6_unionText_25 ?_
  refine lv_aload_n B.1 B.2.1 dX6_unionText_28 rfl (lv_at hl 0 rfl) ?_
  refine f_getp B hH (hth.up (xσ39.trans (xσ40.trans (xσ41.trans (xσ42.trans xσ45))))) (by decide) rfl wu_X6 7 (by decide) wf_X6_31 rfl rfl dX6_unionText_29 ?_
  obtain ⟨a46, ea46, h⟩ := h
  have ka46 : kO σ45 a46 4 := (hYσ45.get (hth.up (xσ39.trans (xσ40.trans (xσ41.trans (xσ42.trans xσ45))))) (by decide)) a46 ea46
  have h := h ka46
  refine W.eq (g2 := F0 m 32 ls [.ref a46, va_rf (gP σ45 th 8)]) (by rw [ea46]; rfl) ?_
  refine f_getp B hH ka46 (by decide) rfl wu_X4 0 (by decide) wf_X6_84 rfl rfl dX6_unionText_32 ?_
  refine lv_aload_n B.1 B.2.1 dX6_unionText_35 rfl (lv_at hl 0 rfl) ?_
  refine f_getp B hH (hth.up (xσ39.trans (xσ40.trans (xσ41.trans (xσ42.trans xσ45))))) (by decide) rfl wu_X6 8 (by decide) wf_X6_88 rfl rfl dX6_unionText_36 ?_
  obtain ⟨a47, ea47, h⟩ := h
  have ka47 : kO σ45 a47 5 := (hYσ45.get (hth.up (xσ39.trans (xσ40.trans (xσ41.trans (xσ42.trans xσ45))))) (by decide)) a47 ea47
  have h := h ka47
  refine W.eq (g2 := F0 m 39 ls [.ref a47, va_rf (gP σ45 a46 0), va_rf (gP σ45 th 8)]) (by rw [ea47]; rfl) ?_
  refine f_geti B hH ka47 (by decide) rfl wu_X5 7 (by decide) wf_X6_155 rfl rfl dX6_unionText_39 ?_
  obtain ⟨a48, ea48, h⟩ := h
  have ka48 : kO σ45 a48 115 := (hYσ45.get ka46 (by decide)) a48 ea48
  have h := h ka48
  obtain ⟨q1, h⟩ := h
  refine W.eq (g2 := F0 m 42 ls [.int (i32 (gI σ45 a47 7)), .ref a48, va_rf (gP σ45 th 8)]) (by rw [ea48]; rfl) ?_
  refine y_aald B hH (t0 := 6) ka48 (by decide) K.2.1.2.2.2.1 q1 (hYσ45.2 _) dX6_unionText_42 ?_
  refine W.eq (g2 := F0 m 43 ls [va_rf (gP σ45 a48 (gI σ45 a47 7).toNat), .ref a47]) (by rw [ea47]; rfl) ?_
  refine c_V B hH hl hc K.2.2.1 (C := RX5) (T := TX5) (N := 17) (ci := 5) (As := [va_rf (gP σ45 a48 (gI σ45 a47 7).toNat)]) (ok_X5_addColumnsOf hl9 K.2.1 σ45 a47 (gP σ45 a48 (gI σ45 a47 7).toNat) (hYσ45.get ka48 rfl) ka47 hGσ45 hYσ45 h) wc_X6_158 1 hd_X5_addColumnsOf ⟨Nat.le_trans (Nat.le_of_ble_eq_true rfl) K.2.2.2.1, Nat.le_trans (Nat.le_of_ble_eq_true rfl) K.2.2.2.2.1⟩ ka47.1 ka47.2 (by decide) rfl rfl (rest := []) rfl (Nat.le_of_ble_eq_true rfl) dX6_unionText_43 (fun σ49 w hq => ?_) (fun σ9 E9 hx9 => hX σ9 E9 _ _ _ (tb_out K.2.2.2.2.2.1 rfl) hx9.1 hx9.2.1 hx9.2.2.1 ((((((hE.trans xσ39).trans xσ40).trans xσ41).trans xσ42).trans xσ45).trans hx9.2.2.2))
  obtain ⟨rfl, h, hGσ49, hYσ49, xσ49⟩ := hq
  have h := h xσ49
  intro H locs ls hH hl hc
  refine W.eq (g2 := F0 m 46 ls []) (rfl) ?_
  try dsimp only at h
  refine lv_aload_n B.1 B.2.1 dX6_unionText_46 rfl (lv_at hl 0 rfl) ?_
  refine f_getp B hH (hth.up (xσ39.trans (xσ40.trans (xσ41.trans (xσ42.trans (xσ45.trans xσ49)))))) (by decide) rfl wu_X6 8 (by decide) wf_X6_88 rfl rfl dX6_unionText_47 ?_
  refine lv_aload_n B.1 B.2.1 dX6_unionText_50 rfl (lv_at hl 0 rfl) ?_
  refine f_getp B hH (hth.up (xσ39.trans (xσ40.trans (xσ41.trans (xσ42.trans (xσ45.trans xσ49)))))) (by decide) rfl wu_X6 7 (by decide) wf_X6_31 rfl rfl dX6_unionText_51 ?_
  obtain ⟨a50, ea50, h⟩ := h
  have ka50 : kO σ49 a50 4 := (hYσ49.get (hth.up (xσ39.trans (xσ40.trans (xσ41.trans (xσ42.trans (xσ45.trans xσ49)))))) (by decide)) a50 ea50
  have h := h ka50
  refine W.eq (g2 := F0 m 54 ls [.ref a50, va_rf (gP σ49 th 8)]) (by rw [ea50]; rfl) ?_
  refine f_getp B hH ka50 (by decide) rfl wu_X4 0 (by decide) wf_X6_84 rfl rfl dX6_unionText_54 ?_
  refine lv_aload_n B.1 B.2.1 dX6_unionText_57 rfl (lv_at hl 0 rfl) ?_
  refine f_getp B hH (hth.up (xσ39.trans (xσ40.trans (xσ41.trans (xσ42.trans (xσ45.trans xσ49)))))) (by decide) rfl wu_X6 8 (by decide) wf_X6_88 rfl rfl dX6_unionText_58 ?_
  obtain ⟨a51, ea51, h⟩ := h
  have ka51 : kO σ49 a51 5 := (hYσ49.get (hth.up (xσ39.trans (xσ40.trans (xσ41.trans (xσ42.trans (xσ45.trans xσ49)))))) (by decide)) a51 ea51
  have h := h ka51
  refine W.eq (g2 := F0 m 61 ls [.ref a51, va_rf (gP σ49 a50 0), va_rf (gP σ49 th 8)]) (by rw [ea51]; rfl) ?_
  refine f_geti B hH ka51 (by decide) rfl wu_X5 8 (by decide) wf_X6_178 rfl rfl dX6_unionText_61 ?_
  obtain ⟨a52, ea52, h⟩ := h
  have ka52 : kO σ49 a52 115 := (hYσ49.get ka50 (by decide)) a52 ea52
  have h := h ka52
  obtain ⟨q2, h⟩ := h
  refine W.eq (g2 := F0 m 64 ls [.int (i32 (gI σ49 a51 8)), .ref a52, va_rf (gP σ49 th 8)]) (by rw [ea52]; rfl) ?_
  refine y_aald B hH (t0 := 6) ka52 (by decide) K.2.1.2.2.2.1 q2 (hYσ49.2 _) dX6_unionText_64 ?_
  refine W.eq (g2 := F0 m 65 ls [va_rf (gP σ49 a52 (gI σ49 a51 8).toNat), .ref a51]) (by rw [ea51]; rfl) ?_
  refine c_V B hH hl hc K.2.2.1 (C := RX5) (T := TX5) (N := 17) (ci := 5) (As := [va_rf (gP σ49 a52 (gI σ49 a51 8).toNat)]) (ok_X5_hasColumnsOf hl9 K.2.1 σ49 a51 (gP σ49 a52 (gI σ49 a51 8).toNat) (hYσ49.get ka52 rfl) ka51 hGσ49 hYσ49 h) wc_X6_181 1 hd_X5_hasColumnsOf ⟨Nat.le_trans (Nat.le_of_ble_eq_true rfl) K.2.2.2.1, Nat.le_trans (Nat.le_of_ble_eq_true rfl) K.2.2.2.2.1⟩ ka51.1 ka51.2 (by decide) rfl rfl (rest := []) rfl (Nat.le_of_ble_eq_true rfl) dX6_unionText_65 (fun σ53 w hq => ?_) (fun σ9 E9 hx9 => hX σ9 E9 _ _ _ (tb_out K.2.2.2.2.2.1 rfl) hx9.1 hx9.2.1 hx9.2.2.1 (((((((hE.trans xσ39).trans xσ40).trans xσ41).trans xσ42).trans xσ45).trans xσ49).trans hx9.2.2.2))
  obtain ⟨r54, rfl, ⟨gr54, gzr54⟩, h, hGσ53, hYσ53, xσ53⟩ := hq
  have h := h xσ53
  intro H locs ls hH hl hc
  refine W.eq (g2 := F0 m 68 ls [.int (i32 r54)]) (rfl) ?_
  try dsimp only at h
  refine lv_if_ne (tgt := 77) B.1 B.2.1 dX6_unionText_68 (by decide) (fun h9 => ?_) (fun h9 => ?_)
  · rw [if_pos (fun q => h9 ((z_eq gr54).mpr q))] at h
    exact a_X6_unionText_77 K hQ hX hTh _ h hGσ53 hYσ53 (((((((hE.trans xσ39).trans xσ40).trans xσ41).trans xσ42).trans xσ45).trans xσ49).trans xσ53) (hth.up (xσ39.trans (xσ40.trans (xσ41.trans (xσ42.trans (xσ45.trans (xσ49.trans xσ53))))))) _ _ _ hH (lv_sub (l' := [(0, .ref th)]) hl [0] rfl) hc
  · rw [if_neg (fun q => q ((z_eq gr54).mp h9))] at h
    exact a_X6_unionText_71 K hQ hX hTh _ h hGσ53 hYσ53 (((((((hE.trans xσ39).trans xσ40).trans xσ41).trans xσ42).trans xσ45).trans xσ49).trans xσ53) (hth.up (xσ39.trans (xσ40.trans (xσ41.trans (xσ42.trans (xσ45.trans (xσ49.trans xσ53))))))) _ _ _ hH (lv_sub (l' := [(0, .ref th)]) hl [0] rfl) hc
theorem ok_X6_unionText (hl0 : l.stackTraces = false) (hT : TyC cA tys) {Q : Sg → Unit → Prop} {X : Sg → String → Prop} (σ : Sg) (th : Nat) (hth : kO σ th 6) (hG : RG σ) (hY : TY σ) (h : wp_X6_unionText th σ Q X) : Ok l D cA tys A yX6_unionText (.code yX6_unionText cX6_unionText 1 none) 10 173 [.ref th] σ (QcV σ Q) (QxC σ X) := by
  unfold wp_X6_unionText at h
  exact oc_V hl0 (by decide) (by exact Nat.le_of_ble_eq_true rfl) hT (fun p e R s m args below meth c K hQ hX hTh hin9 H locs ls hH hl hc => a_X6_unionText_0 K hQ hX hTh σ h hG hY (Ext.rfl' σ) hth H locs ls hH (lv_sub (l' := [(0, .ref th)]) hl [0] rfl) hc)
theorem dX6_uniqueText_0 : decode cX6_uniqueText 0 = .ok (.aload_n 0, 1) := by decide +kernel
theorem dX6_uniqueText_1 : decode cX6_uniqueText 1 = .ok (.invokevirtual 40, 3) := by decide +kernel
theorem dX6_uniqueText_4 : decode cX6_uniqueText 4 = .ok (.aload_n 0, 1) := by decide +kernel
theorem dX6_uniqueText_5 : decode cX6_uniqueText 5 = .ok (.bipush 9, 2) := by decide +kernel
theorem dX6_uniqueText_7 : decode cX6_uniqueText 7 = .ok (.invokevirtual 152, 3) := by decide +kernel
theorem dX6_uniqueText_10 : decode cX6_uniqueText 10 = .ok (.aload_n 0, 1) := by decide +kernel
theorem dX6_uniqueText_11 : decode cX6_uniqueText 11 = .ok (.invokevirtual 40, 3) := by decide +kernel
theorem dX6_uniqueText_14 : decode cX6_uniqueText 14 = .ok (.aload_n 0, 1) := by decide +kernel
theorem dX6_uniqueText_15 : decode cX6_uniqueText 15 = .ok (.getfield 88, 3) := by decide +kernel
theorem dX6_uniqueText_18 : decode cX6_uniqueText 18 = .ok (.aload_n 0, 1) := by decide +kernel
theorem dX6_uniqueText_19 : decode cX6_uniqueText 19 = .ok (.getfield 31, 3) := by decide +kernel
theorem dX6_uniqueText_22 : decode cX6_uniqueText 22 = .ok (.getfield 84, 3) := by decide +kernel
theorem dX6_uniqueText_25 : decode cX6_uniqueText 25 = .ok (.aload_n 0, 1) := by decide +kernel
theorem dX6_uniqueText_26 : decode cX6_uniqueText 26 = .ok (.getfield 88, 3) := by decide +kernel
theorem dX6_uniqueText_29 : decode cX6_uniqueText 29 = .ok (.getfield 155, 3) := by decide +kernel
theorem dX6_uniqueText_32 : decode cX6_uniqueText 32 = .ok (.aaload, 1) := by decide +kernel
theorem dX6_uniqueText_33 : decode cX6_uniqueText 33 = .ok (.invokevirtual 158, 3) := by decide +kernel
theorem dX6_uniqueText_36 : decode cX6_uniqueText 36 = .ok (.aload_n 0, 1) := by decide +kernel
theorem dX6_uniqueText_37 : decode cX6_uniqueText 37 = .ok (.bipush 6, 2) := by decide +kernel
theorem dX6_uniqueText_39 : decode cX6_uniqueText 39 = .ok (.invokevirtual 146, 3) := by decide +kernel
theorem dX6_uniqueText_42 : decode cX6_uniqueText 42 = .ok (.aload_n 0, 1) := by decide +kernel
theorem dX6_uniqueText_43 : decode cX6_uniqueText 43 = .ok (.getfield 88, 3) := by decide +kernel
theorem dX6_uniqueText_46 : decode cX6_uniqueText 46 = .ok (.aload_n 0, 1) := by decide +kernel
theorem dX6_uniqueText_47 : decode cX6_uniqueText 47 = .ok (.aload_n 0, 1) := by decide +kernel
theorem dX6_uniqueText_48 : decode cX6_uniqueText 48 = .ok (.getfield 88, 3) := by decide +kernel
theorem dX6_uniqueText_51 : decode cX6_uniqueText 51 = .ok (.invokevirtual 185, 3) := by decide +kernel
theorem dX6_uniqueText_54 : decode cX6_uniqueText 54 = .ok (.putfield 189, 3) := by decide +kernel
theorem dX6_uniqueText_57 : decode cX6_uniqueText 57 = .ok (.aload_n 0, 1) := by decide +kernel
theorem dX6_uniqueText_58 : decode cX6_uniqueText 58 = .ok (.invokevirtual 40, 3) := by decide +kernel
theorem dX6_uniqueText_61 : decode cX6_uniqueText 61 = .ok (.aload_n 0, 1) := by decide +kernel
theorem dX6_uniqueText_62 : decode cX6_uniqueText 62 = .ok (.bipush 11, 2) := by decide +kernel
theorem dX6_uniqueText_64 : decode cX6_uniqueText 64 = .ok (.invokevirtual 146, 3) := by decide +kernel
theorem dX6_uniqueText_67 : decode cX6_uniqueText 67 = .ok (.aload_n 0, 1) := by decide +kernel
theorem dX6_uniqueText_68 : decode cX6_uniqueText 68 = .ok (.getfield 88, 3) := by decide +kernel
theorem dX6_uniqueText_71 : decode cX6_uniqueText 71 = .ok (.aload_n 0, 1) := by decide +kernel
theorem dX6_uniqueText_72 : decode cX6_uniqueText 72 = .ok (.iconst 1, 1) := by decide +kernel
theorem dX6_uniqueText_73 : decode cX6_uniqueText 73 = .ok (.sipush 1000, 3) := by decide +kernel
theorem dX6_uniqueText_76 : decode cX6_uniqueText 76 = .ok (.invokevirtual 134, 3) := by decide +kernel
theorem dX6_uniqueText_79 : decode cX6_uniqueText 79 = .ok (.putfield 226, 3) := by decide +kernel
theorem dX6_uniqueText_82 : decode cX6_uniqueText 82 = .ok (.aload_n 0, 1) := by decide +kernel
theorem dX6_uniqueText_83 : decode cX6_uniqueText 83 = .ok (.invokevirtual 40, 3) := by decide +kernel
theorem dX6_uniqueText_86 : decode cX6_uniqueText 86 = .ok (.return_, 1) := by decide +kernel
set_option maxRecDepth 20000 in
theorem a_X6_uniqueText_0 {Q : Sg → Unit → Prop} {X : Sg → String → Prop} {th : Nat} (K : MD l R p s m args c cX6_uniqueText 1 RX6 D cA tys A n0 s0 10 173 []) (hQ : CQV p l e R s m args below meth c cX6_uniqueText D cA A n0 s0 QM σi Q) (hX : CX p l e R s m args below meth c 1 D cA A n0 s0 QM σi X) (hTh : CT p l e R s m args below meth c cX6_uniqueText 1 D cA A n0 s0 QM σi RX6 X) : ∀ (σ : Sg), w_X6_uniqueText_0 th Q X σ → RG σ → TY σ → Ext σi σ → kO σ th 6 → JJ p l e R s m args below meth c 1 D cA A n0 s0 QM σ 0 [(0, .ref th)] [] := by
  intro σ h hGσ hYσ hE hth H locs ls hH hl hc
  have B := K.1
  have hl9 := K.2.2.2.2.2.2
  unfold w_X6_uniqueText_0 at h
  refine lv_aload_n B.1 B.2.1 dX6_uniqueText_0 rfl (lv_at hl 0 rfl) ?_
  refine W.eq (g2 := F0 m 1 ls [.ref th]) (rfl) ?_
  refine c_V B hH hl hc K.2.2.1 (C := RX6) (T := TX6) (N := 9) (ci := 6) (As := []) (ok_X6_next hl9 K.2.1 σ th hth hGσ hYσ h) wc_X6_40 0 hd_X6_next ⟨Nat.le_trans (Nat.le_of_ble_eq_true rfl) K.2.2.2.1, Nat.le_trans (Nat.le_of_ble_eq_true rfl) K.2.2.2.2.1⟩ hth.1 hth.2 (by decide) rfl rfl (rest := []) rfl (Nat.le_of_ble_eq_true rfl) dX6_uniqueText_1 (fun σ39 w hq => ?_) (fun σ9 E9 hx9 => hX σ9 E9 _ _ _ (tb_out K.2.2.2.2.2.1 rfl) hx9.1 hx9.2.1 hx9.2.2.1 (hE.trans hx9.2.2.2))
  obtain ⟨rfl, h, hGσ39, hYσ39, xσ39⟩ := hq
  have h := h xσ39
  intro H locs ls hH hl hc
  refine W.eq (g2 := F0 m 4 ls []) (rfl) ?_
  try dsimp only at h
  refine lv_aload_n B.1 B.2.1 dX6_uniqueText_4 rfl (lv_at hl 0 rfl) ?_
  refine lv_bipush (v := i32 9) B.1 B.2.1 dX6_uniqueText_5 (by decide) ?_
  refine W.eq (g2 := F0 m 7 ls [.int (i32 9), .ref th]) (rfl) ?_
  refine c_V B hH hl hc K.2.2.1 (C := RX6) (T := TX6) (N := 9) (ci := 6) (As := [.int (i32 9)]) (ok_X6_firstInput hl9 K.2.1 σ39 th 9 (by unfold rng; omega) (hth.up xσ39) hGσ39 hYσ39 h) wc_X6_152 1 hd_X6_firstInput ⟨Nat.le_trans (Nat.le_of_ble_eq_true rfl) K.2.2.2.1, Nat.le_trans (Nat.le_of_ble_eq_true rfl) K.2.2.2.2.1⟩ (hth.up xσ39).1 (hth.up xσ39).2 (by decide) rfl rfl (rest := []) rfl (Nat.le_of_ble_eq_true rfl) dX6_uniqueText_7 (fun σ40 w hq => ?_) (fun σ9 E9 hx9 => hX σ9 E9 _ _ _ (tb_out K.2.2.2.2.2.1 rfl) hx9.1 hx9.2.1 hx9.2.2.1 ((hE.trans xσ39).trans hx9.2.2.2))
  obtain ⟨rfl, h, hGσ40, hYσ40, xσ40⟩ := hq
  have h := h xσ40
  intro H locs ls hH hl hc
  refine W.eq (g2 := F0 m 10 ls []) (rfl) ?_
  try dsimp only at h
  refine lv_aload_n B.1 B.2.1 dX6_uniqueText_10 rfl (lv_at hl 0 rfl) ?_
  refine W.eq (g2 := F0 m 11 ls [.ref th]) (rfl) ?_
  refine c_V B hH hl hc K.2.2.1 (C := RX6) (T := TX6) (N := 9) (ci := 6) (As := []) (ok_X6_next hl9 K.2.1 σ40 th (hth.up (xσ39.trans xσ40)) hGσ40 hYσ40 h) wc_X6_40 0 hd_X6_next ⟨Nat.le_trans (Nat.le_of_ble_eq_true rfl) K.2.2.2.1, Nat.le_trans (Nat.le_of_ble_eq_true rfl) K.2.2.2.2.1⟩ (hth.up (xσ39.trans xσ40)).1 (hth.up (xσ39.trans xσ40)).2 (by decide) rfl rfl (rest := []) rfl (Nat.le_of_ble_eq_true rfl) dX6_uniqueText_11 (fun σ41 w hq => ?_) (fun σ9 E9 hx9 => hX σ9 E9 _ _ _ (tb_out K.2.2.2.2.2.1 rfl) hx9.1 hx9.2.1 hx9.2.2.1 (((hE.trans xσ39).trans xσ40).trans hx9.2.2.2))
  obtain ⟨rfl, h, hGσ41, hYσ41, xσ41⟩ := hq
  have h := h xσ41
  intro H locs ls hH hl hc
  refine W.eq (g2 := F0 m 14 ls []) (rfl) ?_
  try dsimp only at h
  refine lv_aload_n B.1 B.2.1 dX6_uniqueText_14 rfl (lv_at hl 0 rfl) ?_
  refine f_getp B hH (hth.up (xσ39.trans (xσ40.trans xσ41))) (by decide) rfl wu_X6 8 (by decide) wf_X6_88 rfl rfl dX6_uniqueText_15 ?_
  refine lv_aload_n B.1 B.2.1 dX6_uniqueText_18 rfl (lv_at hl 0 rfl) ?_
  refine f_getp B hH (hth.up (xσ39.trans (xσ40.trans xσ41))) (by decide) rfl wu_X6 7 (by decide) wf_X6_31 rfl rfl dX6_uniqueText_19 ?_
  obtain ⟨a42, ea42, h⟩ := h
  have ka42 : kO σ41 a42 4 := (hYσ41.get (hth.up (xσ39.trans (xσ40.trans xσ41))) (by decide)) a42 ea42
  have h := h ka42
  refine W.eq (g2 := F0 m 22 ls [.ref a42, va_rf (gP σ41 th 8)]) (by rw [ea42]; rfl) ?_
  refine f_getp B hH ka42 (by decide) rfl wu_X4 0 (by decide) wf_X6_84 rfl rfl dX6_uniqueText_22 ?_
  refine lv_aload_n B.1 B.2.1 dX6_uniqueText_25 rfl (lv_at hl 0 rfl) ?_
  refine f_getp B hH (hth.up (xσ39.trans (xσ40.trans xσ41))) (by decide) rfl wu_X6 8 (by decide) wf_X6_88 rfl rfl dX6_uniqueText_26 ?_
  obtain ⟨a43, ea43, h⟩ := h
  have ka43 : kO σ41 a43 5 := (hYσ41.get (hth.up (xσ39.trans (xσ40.trans xσ41))) (by decide)) a43 ea43
  have h := h ka43
  refine W.eq (g2 := F0 m 29 ls [.ref a43, va_rf (gP σ41 a42 0), va_rf (gP σ41 th 8)]) (by rw [ea43]; rfl) ?_
  refine f_geti B hH ka43 (by decide) rfl wu_X5 7 (by decide) wf_X6_155 rfl rfl dX6_uniqueText_29 ?_
  obtain ⟨a44, ea44, h⟩ := h
  have ka44 : kO σ41 a44 115 := (hYσ41.get ka42 (by decide)) a44 ea44
  have h := h ka44
  obtain ⟨q1, h⟩ := h
  refine W.eq (g2 := F0 m 32 ls [.int (i32 (gI σ41 a43 7)), .ref a44, va_rf (gP σ41 th 8)]) (by rw [ea44]; rfl) ?_
  refine y_aald B hH (t0 := 6) ka44 (by decide) K.2.1.2.2.2.1 q1 (hYσ41.2 _) dX6_uniqueText_32 ?_
  refine W.eq (g2 := F0 m 33 ls [va_rf (gP σ41 a44 (gI σ41 a43 7).toNat), .ref a43]) (by rw [ea43]; rfl) ?_
  refine c_V B hH hl hc K.2.2.1 (C := RX5) (T := TX5) (N := 17) (ci := 5) (As := [va_rf (gP σ41 a44 (gI σ41 a43 7).toNat)]) (ok_X5_addColumnsOf hl9 K.2.1 σ41 a43 (gP σ41 a44 (gI σ41 a43 7).toNat) (hYσ41.get ka44 rfl) ka43 hGσ41 hYσ41 h) wc_X6_158 1 hd_X5_addColumnsOf ⟨Nat.le_trans (Nat.le_of_ble_eq_true rfl) K.2.2.2.1, Nat.le_trans (Nat.le_of_ble_eq_true rfl) K.2.2.2.2.1⟩ ka43.1 ka43.2 (by decide) rfl rfl (rest := []) rfl (Nat.le_of_ble_eq_true rfl) dX6_uniqueText_33 (fun σ45 w hq => ?_) (fun σ9 E9 hx9 => hX σ9 E9 _ _ _ (tb_out K.2.2.2.2.2.1 rfl) hx9.1 hx9.2.1 hx9.2.2.1 ((((hE.trans xσ39).trans xσ40).trans xσ41).trans hx9.2.2.2))
  obtain ⟨rfl, h, hGσ45, hYσ45, xσ45⟩ := hq
  have h := h xσ45
  intro H locs ls hH hl hc
  refine W.eq (g2 := F0 m 36 ls []) (rfl) ?_
  try dsimp only at h
  refine lv_aload_n B.1 B.2.1 dX6_uniqueText_36 rfl (lv_at hl 0 rfl) ?_
  refine lv_bipush (v := i32 6) B.1 B.2.1 dX6_uniqueText_37 (by decide) ?_
  refine W.eq (g2 := F0 m 39 ls [.int (i32 6), .ref th]) (rfl) ?_
  refine c_V B hH hl hc K.2.2.1 (C := RX6) (T := TX6) (N := 9) (ci := 6) (As := [.int (i32 6)]) (ok_X6_wantWord hl9 K.2.1 σ45 th 6 (by unfold rng; omega) (hth.up (xσ39.trans (xσ40.trans (xσ41.trans xσ45)))) hGσ45 hYσ45 h) wc_X6_146 1 hd_X6_wantWord ⟨Nat.le_trans (Nat.le_of_ble_eq_true rfl) K.2.2.2.1, Nat.le_trans (Nat.le_of_ble_eq_true rfl) K.2.2.2.2.1⟩ (hth.up (xσ39.trans (xσ40.trans (xσ41.trans xσ45)))).1 (hth.up (xσ39.trans (xσ40.trans (xσ41.trans xσ45)))).2 (by decide) rfl rfl (rest := []) rfl (Nat.le_of_ble_eq_true rfl) dX6_uniqueText_39 (fun σ46 w hq => ?_) (fun σ9 E9 hx9 => hX σ9 E9 _ _ _ (tb_out K.2.2.2.2.2.1 rfl) hx9.1 hx9.2.1 hx9.2.2.1 (((((hE.trans xσ39).trans xσ40).trans xσ41).trans xσ45).trans hx9.2.2.2))
  obtain ⟨rfl, h, hGσ46, hYσ46, xσ46⟩ := hq
  have h := h xσ46
  intro H locs ls hH hl hc
  refine W.eq (g2 := F0 m 42 ls []) (rfl) ?_
  try dsimp only at h
  refine lv_aload_n B.1 B.2.1 dX6_uniqueText_42 rfl (lv_at hl 0 rfl) ?_
  refine f_getp B hH (hth.up (xσ39.trans (xσ40.trans (xσ41.trans (xσ45.trans xσ46))))) (by decide) rfl wu_X6 8 (by decide) wf_X6_88 rfl rfl dX6_uniqueText_43 ?_
  refine lv_aload_n B.1 B.2.1 dX6_uniqueText_46 rfl (lv_at hl 0 rfl) ?_
  refine lv_aload_n B.1 B.2.1 dX6_uniqueText_47 rfl (lv_at hl 0 rfl) ?_
  refine f_getp B hH (hth.up (xσ39.trans (xσ40.trans (xσ41.trans (xσ45.trans xσ46))))) (by decide) rfl wu_X6 8 (by decide) wf_X6_88 rfl rfl dX6_uniqueText_48 ?_
  refine W.eq (g2 := F0 m 51 ls [va_rf (gP σ46 th 8), .ref th, va_rf (gP σ46 th 8)]) (rfl) ?_
  refine c_V B hH hl hc K.2.2.1 (C := RX6) (T := TX6) (N := 9) (ci := 6) (As := [va_rf (gP σ46 th 8)]) (ok_X6_column hl9 K.2.1 σ46 th (gP σ46 th 8) (hYσ46.get (hth.up (xσ39.trans (xσ40.trans (xσ41.trans (xσ45.trans xσ46))))) (by decide)) (hth.up (xσ39.trans (xσ40.trans (xσ41.trans (xσ45.trans xσ46))))) hGσ46 hYσ46 h) wc_X6_185 1 hd_X6_column ⟨Nat.le_trans (Nat.le_of_ble_eq_true rfl) K.2.2.2.1, Nat.le_trans (Nat.le_of_ble_eq_true rfl) K.2.2.2.2.1⟩ (hth.up (xσ39.trans (xσ40.trans (xσ41.trans (xσ45.trans xσ46))))).1 (hth.up (xσ39.trans (xσ40.trans (xσ41.trans (xσ45.trans xσ46))))).2 (by decide) rfl rfl (rest := [va_rf (gP σ46 th 8)]) rfl (by simp only [List.map_cons, List.map_nil, rf_cat]; exact Nat.le_of_ble_eq_true rfl) dX6_uniqueText_51 (fun σ47 w hq => ?_) (fun σ9 E9 hx9 => hX σ9 E9 _ _ _ (tb_out K.2.2.2.2.2.1 rfl) hx9.1 hx9.2.1 hx9.2.2.1 ((((((hE.trans xσ39).trans xσ40).trans xσ41).trans xσ45).trans xσ46).trans hx9.2.2.2))
  obtain ⟨r48, rfl, gr48, h, hGσ47, hYσ47, xσ47⟩ := hq
  have h := h xσ47
  intro H locs ls hH hl hc
  refine W.eq (g2 := F0 m 54 ls [.int (i32 r48), va_rf (gP σ46 th 8)]) (rfl) ?_
  try dsimp only at h
  obtain ⟨a49, ea49, h⟩ := h
  have ka49 : kO σ47 a49 5 := ((hYσ46.get (hth.up (xσ39.trans (xσ40.trans (xσ41.trans (xσ45.trans xσ46))))) (by decide)).up xσ47) a49 ea49
  have h := h ka49
  obtain ⟨σ50, eσ50⟩ : ∃ z, z = pI σ47 a49 13 r48 := ⟨_, rfl⟩
  have h := h σ50 eσ50
  refine W.eq (g2 := F0 m 54 ls [.int (i32 r48), .ref a49]) (by rw [ea49]; rfl) ?_
  refine f_puti B hH ka49 (by decide) rfl wu_X5 tyX5 tyX5_ok nmX5 13 (by decide) wf_X6_189 rfl (ty := .int) rfl rfl rfl rfl rfl dX6_uniqueText_54 (fun H locs hH => ?_)
  have hH : Hd D cA A s (pI σ47 a49 13 r48) H locs := hH
  rw [← eσ50] at hH
  have hGσ50 : RG σ50 := by rw [eσ50]; exact hGσ47.pI gr48
  have hYσ50 : TY σ50 := by rw [eσ50]; exact hYσ47.pI
  have xσ50 : Ext σ47 σ50 := by rw [eσ50]; exact Ext.pI
  have hc : CB n0 s0 σ50 := by rw [eσ50]; exact hc
  rw [show gc σ47 = gc σ50 by rw [eσ50]; try rfl, show gs σ47 = gs σ50 by rw [eσ50]; try rfl]
  refine lv_aload_n B.1 B.2.1 dX6_uniqueText_57 rfl (lv_at hl 0 rfl) ?_
  refine W.eq (g2 := F0 m 58 ls [.ref th]) (rfl) ?_
  refine c_V B hH hl hc K.2.2.1 (C := RX6) (T := TX6) (N := 9) (ci := 6) (As := []) (ok_X6_next hl9 K.2.1 σ50 th (hth.up (xσ39.trans (xσ40.trans (xσ41.trans (xσ45.trans (xσ46.trans (xσ47.trans xσ50))))))) hGσ50 hYσ50 h) wc_X6_40 0 hd_X6_next ⟨Nat.le_trans (Nat.le_of_ble_eq_true rfl) K.2.2.2.1, Nat.le_trans (Nat.le_of_ble_eq_true rfl) K.2.2.2.2.1⟩ (hth.up (xσ39.trans (xσ40.trans (xσ41.trans (xσ45.trans (xσ46.trans (xσ47.trans xσ50))))))).1 (hth.up (xσ39.trans (xσ40.trans (xσ41.trans (xσ45.trans (xσ46.trans (xσ47.trans xσ50))))))).2 (by decide) rfl rfl (rest := []) rfl (Nat.le_of_ble_eq_true rfl) dX6_uniqueText_58 (fun σ51 w hq => ?_) (fun σ9 E9 hx9 => hX σ9 E9 _ _ _ (tb_out K.2.2.2.2.2.1 rfl) hx9.1 hx9.2.1 hx9.2.2.1 ((((((((hE.trans xσ39).trans xσ40).trans xσ41).trans xσ45).trans xσ46).trans xσ47).trans xσ50).trans hx9.2.2.2))
  obtain ⟨rfl, h, hGσ51, hYσ51, xσ51⟩ := hq
  have h := h xσ51
  intro H locs ls hH hl hc
  refine W.eq (g2 := F0 m 61 ls []) (rfl) ?_
  try dsimp only at h
  refine lv_aload_n B.1 B.2.1 dX6_uniqueText_61 rfl (lv_at hl 0 rfl) ?_
  refine lv_bipush (v := i32 11) B.1 B.2.1 dX6_uniqueText_62 (by decide) ?_
  refine W.eq (g2 := F0 m 64 ls [.int (i32 11), .ref th]) (rfl) ?_
  refine c_V B hH hl hc K.2.2.1 (C := RX6) (T := TX6) (N := 9) (ci := 6) (As := [.int (i32 11)]) (ok_X6_wantWord hl9 K.2.1 σ51 th 11 (by unfold rng; omega) (hth.up (xσ39.trans (xσ40.trans (xσ41.trans (xσ45.trans (xσ46.trans (xσ47.trans (xσ50.trans xσ51)))))))) hGσ51 hYσ51 h) wc_X6_146 1 hd_X6_wantWord ⟨Nat.le_trans (Nat.le_of_ble_eq_true rfl) K.2.2.2.1, Nat.le_trans (Nat.le_of_ble_eq_true rfl) K.2.2.2.2.1⟩ (hth.up (xσ39.trans (xσ40.trans (xσ41.trans (xσ45.trans (xσ46.trans (xσ47.trans (xσ50.trans xσ51)))))))).1 (hth.up (xσ39.trans (xσ40.trans (xσ41.trans (xσ45.trans (xσ46.trans (xσ47.trans (xσ50.trans xσ51)))))))).2 (by decide) rfl rfl (rest := []) rfl (Nat.le_of_ble_eq_true rfl) dX6_uniqueText_64 (fun σ52 w hq => ?_) (fun σ9 E9 hx9 => hX σ9 E9 _ _ _ (tb_out K.2.2.2.2.2.1 rfl) hx9.1 hx9.2.1 hx9.2.2.1 (((((((((hE.trans xσ39).trans xσ40).trans xσ41).trans xσ45).trans xσ46).trans xσ47).trans xσ50).trans xσ51).trans hx9.2.2.2))
  obtain ⟨rfl, h, hGσ52, hYσ52, xσ52⟩ := hq
  have h := h xσ52
  intro H locs ls hH hl hc
  refine W.eq (g2 := F0 m 67 ls []) (rfl) ?_
  try dsimp only at h
  refine lv_aload_n B.1 B.2.1 dX6_uniqueText_67 rfl (lv_at hl 0 rfl) ?_
  refine f_getp B hH (hth.up (xσ39.trans (xσ40.trans (xσ41.trans (xσ45.trans (xσ46.trans (xσ47.trans (xσ50.trans (xσ51.trans xσ52))))))))) (by decide) rfl wu_X6 8 (by decide) wf_X6_88 rfl rfl dX6_uniqueText_68 ?_
  refine lv_aload_n B.1 B.2.1 dX6_uniqueText_71 rfl (lv_at hl 0 rfl) ?_
  refine lv_iconst (v := i32 1) B.1 B.2.1 dX6_uniqueText_72 (by decide) ?_
  refine lv_sipush (v := i32 1000) B.1 B.2.1 dX6_uniqueText_73 (by decide) ?_
  refine W.eq (g2 := F0 m 76 ls [.int (i32 1000), .int (i32 1), .ref th, va_rf (gP σ52 th 8)]) (rfl) ?_
  refine c_V B hH hl hc K.2.2.1 (C := RX6) (T := TX6) (N := 9) (ci := 6) (As := [.int (i32 1), .int (i32 1000)]) (ok_X6_number hl9 K.2.1 σ52 th 1 1000 (by unfold rng; omega) (by unfold rng; omega) (hth.up (xσ39.trans (xσ40.trans (xσ41.trans (xσ45.trans (xσ46.trans (xσ47.trans (xσ50.trans (xσ51.trans xσ52))))))))) hGσ52 hYσ52 h) wc_X6_134 2 hd_X6_number ⟨Nat.le_trans (Nat.le_of_ble_eq_true rfl) K.2.2.2.1, Nat.le_trans (Nat.le_of_ble_eq_true rfl) K.2.2.2.2.1⟩ (hth.up (xσ39.trans (xσ40.trans (xσ41.trans (xσ45.trans (xσ46.trans (xσ47.trans (xσ50.trans (xσ51.trans xσ52))))))))).1 (hth.up (xσ39.trans (xσ40.trans (xσ41.trans (xσ45.trans (xσ46.trans (xσ47.trans (xσ50.trans (xσ51.trans xσ52))))))))).2 (by decide) rfl rfl (rest := [va_rf (gP σ52 th 8)]) rfl (by simp only [List.map_cons, List.map_nil, rf_cat]; exact Nat.le_of_ble_eq_true rfl) dX6_uniqueText_76 (fun σ53 w hq => ?_) (fun σ9 E9 hx9 => hX σ9 E9 _ _ _ (tb_out K.2.2.2.2.2.1 rfl) hx9.1 hx9.2.1 hx9.2.2.1 ((((((((((hE.trans xσ39).trans xσ40).trans xσ41).trans xσ45).trans xσ46).trans xσ47).trans xσ50).trans xσ51).trans xσ52).trans hx9.2.2.2))
  obtain ⟨r54, rfl, gr54, h, hGσ53, hYσ53, xσ53⟩ := hq
  have h := h xσ53
  intro H locs ls hH hl hc
  refine W.eq (g2 := F0 m 79 ls [.int (i32 r54), va_rf (gP σ52 th 8)]) (rfl) ?_
  try dsimp only at h
  obtain ⟨a55, ea55, h⟩ := h
  have ka55 : kO σ53 a55 5 := ((hYσ52.get (hth.up (xσ39.trans (xσ40.trans (xσ41.trans (xσ45.trans (xσ46.trans (xσ47.trans (xσ50.trans (xσ51.trans xσ52))))))))) (by decide)).up xσ53) a55 ea55
  have h := h ka55
  obtain ⟨σ56, eσ56⟩ : ∃ z, z = pI σ53 a55 16 r54 := ⟨_, rfl⟩
  have h := h σ56 eσ56
  refine W.eq (g2 := F0 m 79 ls [.int (i32 r54), .ref a55]) (by rw [ea55]; rfl) ?_
  refine f_puti B hH ka55 (by decide) rfl wu_X5 tyX5 tyX5_ok nmX5 16 (by decide) wf_X6_226 rfl (ty := .int) rfl rfl rfl rfl rfl dX6_uniqueText_79 (fun H locs hH => ?_)
  have hH : Hd D cA A s (pI σ53 a55 16 r54) H locs := hH
  rw [← eσ56] at hH
  have hGσ56 : RG σ56 := by rw [eσ56]; exact hGσ53.pI gr54
  have hYσ56 : TY σ56 := by rw [eσ56]; exact hYσ53.pI
  have xσ56 : Ext σ53 σ56 := by rw [eσ56]; exact Ext.pI
  have hc : CB n0 s0 σ56 := by rw [eσ56]; exact hc
  rw [show gc σ53 = gc σ56 by rw [eσ56]; try rfl, show gs σ53 = gs σ56 by rw [eσ56]; try rfl]
  refine lv_aload_n B.1 B.2.1 dX6_uniqueText_82 rfl (lv_at hl 0 rfl) ?_
  refine W.eq (g2 := F0 m 83 ls [.ref th]) (rfl) ?_
  refine c_V B hH hl hc K.2.2.1 (C := RX6) (T := TX6) (N := 9) (ci := 6) (As := []) (ok_X6_next hl9 K.2.1 σ56 th (hth.up (xσ39.trans (xσ40.trans (xσ41.trans (xσ45.trans (xσ46.trans (xσ47.trans (xσ50.trans (xσ51.trans (xσ52.trans (xσ53.trans xσ56))))))))))) hGσ56 hYσ56 h) wc_X6_40 0 hd_X6_next ⟨Nat.le_trans (Nat.le_of_ble_eq_true rfl) K.2.2.2.1, Nat.le_trans (Nat.le_of_ble_eq_true rfl) K.2.2.2.2.1⟩ (hth.up (xσ39.trans (xσ40.trans (xσ41.trans (xσ45.trans (xσ46.trans (xσ47.trans (xσ50.trans (xσ51.trans (xσ52.trans (xσ53.trans xσ56))))))))))).1 (hth.up (xσ39.trans (xσ40.trans (xσ41.trans (xσ45.trans (xσ46.trans (xσ47.trans (xσ50.trans (xσ51.trans (xσ52.trans (xσ53.trans xσ56))))))))))).2 (by decide) rfl rfl (rest := []) rfl (Nat.le_of_ble_eq_true rfl) dX6_uniqueText_83 (fun σ57 w hq => ?_) (fun σ9 E9 hx9 => hX σ9 E9 _ _ _ (tb_out K.2.2.2.2.2.1 rfl) hx9.1 hx9.2.1 hx9.2.2.1 ((((((((((((hE.trans xσ39).trans xσ40).trans xσ41).trans xσ45).trans xσ46).trans xσ47).trans xσ50).trans xσ51).trans xσ52).trans xσ53).trans xσ56).trans hx9.2.2.2))
  obtain ⟨rfl, h, hGσ57, hYσ57, xσ57⟩ := hq
  have h := h xσ57
  intro H locs ls hH hl hc
  refine W.eq (g2 := F0 m 86 ls []) (rfl) ?_
  try dsimp only at h
  exact hQ _ _ _ _ _ dX6_uniqueText_86 hH hc h hGσ57 hYσ57 ((((((((((((hE.trans xσ39).trans xσ40).trans xσ41).trans xσ45).trans xσ46).trans xσ47).trans xσ50).trans xσ51).trans xσ52).trans xσ53).trans xσ56).trans xσ57)
theorem ok_X6_uniqueText (hl0 : l.stackTraces = false) (hT : TyC cA tys) {Q : Sg → Unit → Prop} {X : Sg → String → Prop} (σ : Sg) (th : Nat) (hth : kO σ th 6) (hG : RG σ) (hY : TY σ) (h : wp_X6_uniqueText th σ Q X) : Ok l D cA tys A yX6_uniqueText (.code yX6_uniqueText cX6_uniqueText 1 none) 10 173 [.ref th] σ (QcV σ Q) (QxC σ X) := by
  unfold wp_X6_uniqueText at h
  exact oc_V hl0 (by decide) (by exact Nat.le_of_ble_eq_true rfl) hT (fun p e R s m args below meth c K hQ hX hTh hin9 H locs ls hH hl hc => a_X6_uniqueText_0 K hQ hX hTh σ h hG hY (Ext.rfl' σ) hth H locs ls hH (lv_sub (l' := [(0, .ref th)]) hl [0] rfl) hc)
theorem dX6_operatorText_0 : decode cX6_operatorText 0 = .ok (.aload_n 0, 1) := by decide +kernel
theorem dX6_operatorText_1 : decode cX6_operatorText 1 = .ok (.getfield 43, 3) := by decide +kernel
theorem dX6_operatorText_4 : decode cX6_operatorText 4 = .ok (.iconst 2, 1) := by decide +kernel
theorem dX6_operatorText_5 : decode cX6_operatorText 5 = .ok (.if_icmp .ne 13, 3) := by decide +kernel
theorem dX6_operatorText_8 : decode cX6_operatorText 8 = .ok (.aload_n 0, 1) := by decide +kernel
theorem dX6_operatorText_9 : decode cX6_operatorText 9 = .ok (.bipush 17, 2) := by decide +kernel
theorem dX6_operatorText_11 : decode cX6_operatorText 11 = .ok (.invokevirtual 66, 3) := by decide +kernel
theorem dX6_operatorText_14 : decode cX6_operatorText 14 = .ok (.iload_n 1, 1) := by decide +kernel
theorem dX6_operatorText_15 : decode cX6_operatorText 15 = .ok (.if_icmp .eq 7, 3) := by decide +kernel
theorem dX6_operatorText_18 : decode cX6_operatorText 18 = .ok (.aload_n 0, 1) := by decide +kernel
theorem dX6_operatorText_19 : decode cX6_operatorText 19 = .ok (.invokevirtual 70, 3) := by decide +kernel
theorem dX6_operatorText_22 : decode cX6_operatorText 22 = .ok (.aload_n 0, 1) := by decide +kernel
theorem dX6_operatorText_23 : decode cX6_operatorText 23 = .ok (.getfield 73, 3) := by decide +kernel
theorem dX6_operatorText_26 : decode cX6_operatorText 26 = .ok (.l2i, 1) := by decide +kernel
theorem dX6_operatorText_27 : decode cX6_operatorText 27 = .ok (.tableswitch 170 0 17 #[85, 170, 92, 99, 106, 113, 170, 170, 170, 170, 124, 170, 133, 142, 170, 149, 156, 163], 85) := by decide +kernel
theorem dX6_operatorText_112 : decode cX6_operatorText 112 = .ok (.aload_n 0, 1) := by decide +kernel
theorem dX6_operatorText_113 : decode cX6_operatorText 113 = .ok (.invokevirtual 98, 3) := by decide +kernel
theorem dX6_operatorText_116 : decode cX6_operatorText 116 = .ok (.goto 85, 3) := by decide +kernel
theorem dX6_operatorText_119 : decode cX6_operatorText 119 = .ok (.aload_n 0, 1) := by decide +kernel
theorem dX6_operatorText_120 : decode cX6_operatorText 120 = .ok (.invokevirtual 101, 3) := by decide +kernel
theorem dX6_operatorText_123 : decode cX6_operatorText 123 = .ok (.goto 78, 3) := by decide +kernel
theorem dX6_operatorText_126 : decode cX6_operatorText 126 = .ok (.aload_n 0, 1) := by decide +kernel
theorem dX6_operatorText_127 : decode cX6_operatorText 127 = .ok (.invokevirtual 104, 3) := by decide +kernel
theorem dX6_operatorText_130 : decode cX6_operatorText 130 = .ok (.goto 71, 3) := by decide +kernel
theorem dX6_operatorText_133 : decode cX6_operatorText 133 = .ok (.aload_n 0, 1) := by decide +kernel
theorem dX6_operatorText_134 : decode cX6_operatorText 134 = .ok (.invokevirtual 107, 3) := by decide +kernel
theorem dX6_operatorText_137 : decode cX6_operatorText 137 = .ok (.goto 64, 3) := by decide +kernel
theorem dX6_operatorText_140 : decode cX6_operatorText 140 = .ok (.aload_n 0, 1) := by decide +kernel
theorem dX6_operatorText_141 : decode cX6_operatorText 141 = .ok (.invokevirtual 110, 3) := by decide +kernel
theorem dX6_operatorText_144 : decode cX6_operatorText 144 = .ok (.aload_n 0, 1) := by decide +kernel
theorem dX6_operatorText_145 : decode cX6_operatorText 145 = .ok (.invokevirtual 113, 3) := by decide +kernel
theorem dX6_operatorText_148 : decode cX6_operatorText 148 = .ok (.goto 53, 3) := by decide +kernel
theorem dX6_operatorText_151 : decode cX6_operatorText 151 = .ok (.aload_n 0, 1) := by decide +kernel
theorem dX6_operatorText_152 : decode cX6_operatorText 152 = .ok (.bipush 6, 2) := by decide +kernel
theorem dX6_operatorText_154 : decode cX6_operatorText 154 = .ok (.invokevirtual 116, 3) := by decide +kernel
theorem dX6_operatorText_157 : decode cX6_operatorText 157 = .ok (.goto 44, 3) := by decide +kernel
theorem dX6_operatorText_160 : decode cX6_operatorText 160 = .ok (.aload_n 0, 1) := by decide +kernel
theorem dX6_operatorText_161 : decode cX6_operatorText 161 = .ok (.bipush 7, 2) := by decide +kernel
theorem dX6_operatorText_163 : decode cX6_operatorText 163 = .ok (.invokevirtual 116, 3) := by decide +kernel
theorem dX6_operatorText_166 : decode cX6_operatorText 166 = .ok (.goto 35, 3) := by decide +kernel
theorem dX6_operatorText_169 : decode cX6_operatorText 169 = .ok (.aload_n 0, 1) := by decide +kernel
theorem dX6_operatorText_170 : decode cX6_operatorText 170 = .ok (.invokevirtual 119, 3) := by decide +kernel
theorem dX6_operatorText_173 : decode cX6_operatorText 173 = .ok (.goto 28, 3) := by decide +kernel
theorem dX6_operatorText_176 : decode cX6_operatorText 176 = .ok (.aload_n 0, 1) := by decide +kernel
theorem dX6_operatorText_177 : decode cX6_operatorText 177 = .ok (.invokevirtual 122, 3) := by decide +kernel
theorem dX6_operatorText_180 : decode cX6_operatorText 180 = .ok (.goto 21, 3) := by decide +kernel
theorem dX6_operatorText_183 : decode cX6_operatorText 183 = .ok (.aload_n 0, 1) := by decide +kernel
theorem dX6_operatorText_184 : decode cX6_operatorText 184 = .ok (.invokevirtual 125, 3) := by decide +kernel
theorem dX6_operatorText_187 : decode cX6_operatorText 187 = .ok (.goto 14, 3) := by decide +kernel
theorem dX6_operatorText_190 : decode cX6_operatorText 190 = .ok (.aload_n 0, 1) := by decide +kernel
theorem dX6_operatorText_191 : decode cX6_operatorText 191 = .ok (.invokevirtual 128, 3) := by decide +kernel
theorem dX6_operatorText_194 : decode cX6_operatorText 194 = .ok (.goto 7, 3) := by decide +kernel
theorem dX6_operatorText_197 : decode cX6_operatorText 197 = .ok (.aload_n 0, 1) := by decide +kernel
theorem dX6_operatorText_198 : decode cX6_operatorText 198 = .ok (.invokevirtual 70, 3) := by decide +kernel
theorem dX6_operatorText_201 : decode cX6_operatorText 201 = .ok (.return_, 1) := by decide +kernel
set_option maxRecDepth 20000 in
theorem a_X6_operatorText_201 {Q : Sg → Unit → Prop} {X : Sg → String → Prop} {th : Nat} (K : MD l R p s m args c cX6_operatorText 2 RX6 D cA tys A n0 s0 162 11245 []) (hQ : CQV p l e R s m args below meth c cX6_operatorText D cA A n0 s0 QM σi Q) (hX : CX p l e R s m args below meth c 2 D cA A n0 s0 QM σi X) (hTh : CT p l e R s m args below meth c cX6_operatorText 2 D cA A n0 s0 QM σi RX6 X) : ∀ (σ : Sg), w_X6_operatorText_201 th Q X σ → RG σ → TY σ → Ext σi σ → kO σ th 6 → JJ p l e R s m args below meth c 2 D cA A n0 s0 QM σ 201 [(0, .ref th)] [] := by
  intro σ h hGσ hYσ hE hth H locs ls hH hl hc
  have B := K.1
  have hl9 := K.2.2.2.2.2.2
  unfold w_X6_operatorText_201 at h
  exact hQ _ _ _ _ _ dX6_operatorText_201 hH hc h hGσ hYσ hE
set_option maxRecDepth 20000 in
theorem a_X6_operatorText_112 {Q : Sg → Unit → Prop} {X : Sg → String → Prop} {th : Nat} (K : MD l R p s m args c cX6_operatorText 2 RX6 D cA tys A n0 s0 162 11245 []) (hQ : CQV p l e R s m args below meth c cX6_operatorText D cA A n0 s0 QM σi Q) (hX : CX p l e R s m args below meth c 2 D cA A n0 s0 QM σi X) (hTh : CT p l e R s m args below meth c cX6_operatorText 2 D cA A n0 s0 QM σi RX6 X) : ∀ (σ : Sg), w_X6_operatorText_112 th Q X σ → RG σ → TY σ → Ext σi σ → kO σ th 6 → JJ p l e R s m args below meth c 2 D cA A n0 s0 QM σ 112 [(0, .ref th)] [] := by
  intro σ h hGσ hYσ hE hth H locs ls hH hl hc
  have B := K.1
  have hl9 := K.2.2.2.2.2.2
  unfold w_X6_operatorText_112 at h
  refine lv_aload_n B.1 B.2.1 dX6_operatorText_112 rfl (lv_at hl 0 rfl) ?_
  refine W.eq (g2 := F0 m 113 ls [.ref th]) (rfl) ?_
  refine c_V B hH hl hc K.2.2.1 (C := RX6) (T := TX6) (N := 9) (ci := 6) (As := []) (ok_X6_sourceText hl9 K.2.1 σ th hth hGσ hYσ h) wc_X6_98 0 hd_X6_sourceText ⟨Nat.le_trans (Nat.le_of_ble_eq_true rfl) K.2.2.2.1, Nat.le_trans (Nat.le_of_ble_eq_true rfl) K.2.2.2.2.1⟩ hth.1 hth.2 (by decide) rfl rfl (rest := []) rfl (Nat.le_of_ble_eq_true rfl) dX6_operatorText_113 (fun σ33 w hq => ?_) (fun σ9 E9 hx9 => hX σ9 E9 _ _ _ (tb_out K.2.2.2.2.2.1 rfl) hx9.1 hx9.2.1 hx9.2.2.1 (hE.trans hx9.2.2.2))
  obtain ⟨rfl, h, hGσ33, hYσ33, xσ33⟩ := hq
  have h := h xσ33
  intro H locs ls hH hl hc
  refine W.eq (g2 := F0 m 116 ls []) (rfl) ?_
  try dsimp only at h
  refine lv_goto (tgt := 201) B.1 B.2.1 dX6_operatorText_116 (by decide) ?_
  exact a_X6_operatorText_201 K hQ hX hTh _ h hGσ33 hYσ33 (hE.trans xσ33) (hth.up xσ33) _ _ _ hH (lv_sub (l' := [(0, .ref th)]) hl [0] rfl) hc
set_option maxRecDepth 20000 in
theorem a_X6_operatorText_119 {Q : Sg → Unit → Prop} {X : Sg → String → Prop} {th : Nat} (K : MD l R p s m args c cX6_operatorText 2 RX6 D cA tys A n0 s0 162 11245 []) (hQ : CQV p l e R s m args below meth c cX6_operatorText D cA A n0 s0 QM σi Q) (hX : CX p l e R s m args below meth c 2 D cA A n0 s0 QM σi X) (hTh : CT p l e R s m args below meth c cX6_operatorText 2 D cA A n0 s0 QM σi RX6 X) : ∀ (σ : Sg), w_X6_operatorText_119 th Q X σ → RG σ → TY σ → Ext σi σ → kO σ th 6 → JJ p l e R s m args below meth c 2 D cA A n0 s0 QM σ 119 [(0, .ref th)] [] := by
  intro σ h hGσ hYσ hE hth H locs ls hH hl hc
  have B := K.1
  have hl9 := K.2.2.2.2.2.2
  unfold w_X6_operatorText_119 at h
  refine lv_aload_n B.1 B.2.1 dX6_operatorText_119 rfl (lv_at hl 0 rfl) ?_
  refine W.eq (g2 := F0 m 120 ls [.ref th]) (rfl) ?_
  refine c_V B hH hl hc K.2.2.1 (C := RX6) (T := TX6) (N := 9) (ci := 6) (As := []) (ok_X6_filterText hl9 K.2.1 σ th hth hGσ hYσ h) wc_X6_101 0 hd_X6_filterText ⟨Nat.le_trans (Nat.le_of_ble_eq_true rfl) K.2.2.2.1, Nat.le_trans (Nat.le_of_ble_eq_true rfl) K.2.2.2.2.1⟩ hth.1 hth.2 (by decide) rfl rfl (rest := []) rfl (Nat.le_of_ble_eq_true rfl) dX6_operatorText_120 (fun σ34 w hq => ?_) (fun σ9 E9 hx9 => hX σ9 E9 _ _ _ (tb_out K.2.2.2.2.2.1 rfl) hx9.1 hx9.2.1 hx9.2.2.1 (hE.trans hx9.2.2.2))
  obtain ⟨rfl, h, hGσ34, hYσ34, xσ34⟩ := hq
  have h := h xσ34
  intro H locs ls hH hl hc
  refine W.eq (g2 := F0 m 123 ls []) (rfl) ?_
  try dsimp only at h
  refine lv_goto (tgt := 201) B.1 B.2.1 dX6_operatorText_123 (by decide) ?_
  exact a_X6_operatorText_201 K hQ hX hTh _ h hGσ34 hYσ34 (hE.trans xσ34) (hth.up xσ34) _ _ _ hH (lv_sub (l' := [(0, .ref th)]) hl [0] rfl) hc
set_option maxRecDepth 20000 in
theorem a_X6_operatorText_126 {Q : Sg → Unit → Prop} {X : Sg → String → Prop} {th : Nat} (K : MD l R p s m args c cX6_operatorText 2 RX6 D cA tys A n0 s0 162 11245 []) (hQ : CQV p l e R s m args below meth c cX6_operatorText D cA A n0 s0 QM σi Q) (hX : CX p l e R s m args below meth c 2 D cA A n0 s0 QM σi X) (hTh : CT p l e R s m args below meth c cX6_operatorText 2 D cA A n0 s0 QM σi RX6 X) : ∀ (σ : Sg), w_X6_operatorText_126 th Q X σ → RG σ → TY σ → Ext σi σ → kO σ th 6 → JJ p l e R s m args below meth c 2 D cA A n0 s0 QM σ 126 [(0, .ref th)] [] := by
  intro σ h hGσ hYσ hE hth H locs ls hH hl hc
  have B := K.1
  have hl9 := K.2.2.2.2.2.2
  unfold w_X6_operatorText_126 at h
  refine lv_aload_n B.1 B.2.1 dX6_operatorText_126 rfl (lv_at hl 0 rfl) ?_
  refine W.eq (g2 := F0 m 127 ls [.ref th]) (rfl) ?_
  refine c_V B hH hl hc K.2.2.1 (C := RX6) (T := TX6) (N := 9) (ci := 6) (As := []) (ok_X6_mapText hl9 K.2.1 σ th hth hGσ hYσ h) wc_X6_104 0 hd_X6_mapText ⟨Nat.le_trans (Nat.le_of_ble_eq_true rfl) K.2.2.2.1, Nat.le_trans (Nat.le_of_ble_eq_true rfl) K.2.2.2.2.1⟩ hth.1 hth.2 (by decide) rfl rfl (rest := []) rfl (Nat.le_of_ble_eq_true rfl) dX6_operatorText_127 (fun σ35 w hq => ?_) (fun σ9 E9 hx9 => hX σ9 E9 _ _ _ (tb_out K.2.2.2.2.2.1 rfl) hx9.1 hx9.2.1 hx9.2.2.1 (hE.trans hx9.2.2.2))
  obtain ⟨rfl, h, hGσ35, hYσ35, xσ35⟩ := hq
  have h := h xσ35
  intro H locs ls hH hl hc
  refine W.eq (g2 := F0 m 130 ls []) (rfl) ?_
  try dsimp only at h
  refine lv_goto (tgt := 201) B.1 B.2.1 dX6_operatorText_130 (by decide) ?_
  exact a_X6_operatorText_201 K hQ hX hTh _ h hGσ35 hYσ35 (hE.trans xσ35) (hth.up xσ35) _ _ _ hH (lv_sub (l' := [(0, .ref th)]) hl [0] rfl) hc
set_option maxRecDepth 20000 in
theorem a_X6_operatorText_133 {Q : Sg → Unit → Prop} {X : Sg → String → Prop} {th : Nat} (K : MD l R p s m args c cX6_operatorText 2 RX6 D cA tys A n0 s0 162 11245 []) (hQ : CQV p l e R s m args below meth c cX6_operatorText D cA A n0 s0 QM σi Q) (hX : CX p l e R s m args below meth c 2 D cA A n0 s0 QM σi X) (hTh : CT p l e R s m args below meth c cX6_operatorText 2 D cA A n0 s0 QM σi RX6 X) : ∀ (σ : Sg), w_X6_operatorText_133 th Q X σ → RG σ → TY σ → Ext σi σ → kO σ th 6 → JJ p l e R s m args below meth c 2 D cA A n0 s0 QM σ 133 [(0, .ref th)] [] := by
  intro σ h hGσ hYσ hE hth H locs ls hH hl hc
  have B := K.1
  have hl9 := K.2.2.2.2.2.2
  unfold w_X6_operatorText_133 at h
  refine lv_aload_n B.1 B.2.1 dX6_operatorText_133 rfl (lv_at hl 0 rfl) ?_
  refine W.eq (g2 := F0 m 134 ls [.ref th]) (rfl) ?_
  refine c_V B hH hl hc K.2.2.1 (C := RX6) (T := TX6) (N := 9) (ci := 6) (As := []) (ok_X6_unionText hl9 K.2.1 σ th hth hGσ hYσ h) wc_X6_107 0 hd_X6_unionText ⟨Nat.le_trans (Nat.le_of_ble_eq_true rfl) K.2.2.2.1, Nat.le_trans (Nat.le_of_ble_eq_true rfl) K.2.2.2.2.1⟩ hth.1 hth.2 (by decide) rfl rfl (rest := []) rfl (Nat.le_of_ble_eq_true rfl) dX6_operatorText_134 (fun σ36 w hq => ?_) (fun σ9 E9 hx9 => hX σ9 E9 _ _ _ (tb_out K.2.2.2.2.2.1 rfl) hx9.1 hx9.2.1 hx9.2.2.1 (hE.trans hx9.2.2.2))
  obtain ⟨rfl, h, hGσ36, hYσ36, xσ36⟩ := hq
  have h := h xσ36
  intro H locs ls hH hl hc
  refine W.eq (g2 := F0 m 137 ls []) (rfl) ?_
  try dsimp only at h
  refine lv_goto (tgt := 201) B.1 B.2.1 dX6_operatorText_137 (by decide) ?_
  exact a_X6_operatorText_201 K hQ hX hTh _ h hGσ36 hYσ36 (hE.trans xσ36) (hth.up xσ36) _ _ _ hH (lv_sub (l' := [(0, .ref th)]) hl [0] rfl) hc
set_option maxRecDepth 20000 in
theorem a_X6_operatorText_140 {Q : Sg → Unit → Prop} {X : Sg → String → Prop} {th : Nat} (K : MD l R p s m args c cX6_operatorText 2 RX6 D cA tys A n0 s0 162 11245 []) (hQ : CQV p l e R s m args below meth c cX6_operatorText D cA A n0 s0 QM σi Q) (hX : CX p l e R s m args below meth c 2 D cA A n0 s0 QM σi X) (hTh : CT p l e R s m args below meth c cX6_operatorText 2 D cA A n0 s0 QM σi RX6 X) : ∀ (σ : Sg), w_X6_operatorText_140 th Q X σ → RG σ → TY σ → Ext σi σ → kO σ th 6 → JJ p l e R s m args below meth c 2 D cA A n0 s0 QM σ 140 [(0, .ref th)] [] := by
  intro σ h hGσ hYσ hE hth H locs ls hH hl hc
  have B := K.1
  have hl9 := K.2.2.2.2.2.2
  unfold w_X6_operatorText_140 at h
  refine lv_aload_n B.1 B.2.1 dX6_operatorText_140 rfl (lv_at hl 0 rfl) ?_
  refine W.eq (g2 := F0 m 141 ls [.ref th]) (rfl) ?_
  refine c_V B hH hl hc K.2.2.1 (C := RX6) (T := TX6) (N := 9) (ci := 6) (As := []) (ok_X6_foldText hl9 K.2.1 σ th hth hGσ hYσ h) wc_X6_110 0 hd_X6_foldText ⟨Nat.le_trans (Nat.le_of_ble_eq_true rfl) K.2.2.2.1, Nat.le_trans (Nat.le_of_ble_eq_true rfl) K.2.2.2.2.1⟩ hth.1 hth.2 (by decide) rfl rfl (rest := []) rfl (Nat.le_of_ble_eq_true rfl) dX6_operatorText_141 (fun σ37 w hq => ?_) (fun σ9 E9 hx9 => hX σ9 E9 _ _ _ (tb_out K.2.2.2.2.2.1 rfl) hx9.1 hx9.2.1 hx9.2.2.1 (hE.trans hx9.2.2.2))
  obtain ⟨rfl, h, hGσ37, hYσ37, xσ37⟩ := hq
  have h := h xσ37
  intro H locs ls hH hl hc
  refine W.eq (g2 := F0 m 144 ls []) (rfl) ?_
  try dsimp only at h
  refine lv_aload_n B.1 B.2.1 dX6_operatorText_144 rfl (lv_at hl 0 rfl) ?_
  refine W.eq (g2 := F0 m 145 ls [.ref th]) (rfl) ?_
  refine c_V B hH hl hc K.2.2.1 (C := RX6) (T := TX6) (N := 9) (ci := 6) (As := []) (ok_X6_aggregates hl9 K.2.1 σ37 th (hth.up xσ37) hGσ37 hYσ37 h) wc_X6_113 0 hd_X6_aggregates ⟨Nat.le_trans (Nat.le_of_ble_eq_true rfl) K.2.2.2.1, Nat.le_trans (Nat.le_of_ble_eq_true rfl) K.2.2.2.2.1⟩ (hth.up xσ37).1 (hth.up xσ37).2 (by decide) rfl rfl (rest := []) rfl (Nat.le_of_ble_eq_true rfl) dX6_operatorText_145 (fun σ38 w hq => ?_) (fun σ9 E9 hx9 => hX σ9 E9 _ _ _ (tb_out K.2.2.2.2.2.1 rfl) hx9.1 hx9.2.1 hx9.2.2.1 ((hE.trans xσ37).trans hx9.2.2.2))
  obtain ⟨rfl, h, hGσ38, hYσ38, xσ38⟩ := hq
  have h := h xσ38
  intro H locs ls hH hl hc
  refine W.eq (g2 := F0 m 148 ls []) (rfl) ?_
  try dsimp only at h
  refine lv_goto (tgt := 201) B.1 B.2.1 dX6_operatorText_148 (by decide) ?_
  exact a_X6_operatorText_201 K hQ hX hTh _ h hGσ38 hYσ38 ((hE.trans xσ37).trans xσ38) (hth.up (xσ37.trans xσ38)) _ _ _ hH (lv_sub (l' := [(0, .ref th)]) hl [0] rfl) hc
set_option maxRecDepth 20000 in
theorem a_X6_operatorText_151 {Q : Sg → Unit → Prop} {X : Sg → String → Prop} {th : Nat} (K : MD l R p s m args c cX6_operatorText 2 RX6 D cA tys A n0 s0 162 11245 []) (hQ : CQV p l e R s m args below meth c cX6_operatorText D cA A n0 s0 QM σi Q) (hX : CX p l e R s m args below meth c 2 D cA A n0 s0 QM σi X) (hTh : CT p l e R s m args below meth c cX6_operatorText 2 D cA A n0 s0 QM σi RX6 X) : ∀ (σ : Sg), w_X6_operatorText_151 th Q X σ → RG σ → TY σ → Ext σi σ → kO σ th 6 → JJ p l e R s m args below meth c 2 D cA A n0 s0 QM σ 151 [(0, .ref th)] [] := by
  intro σ h hGσ hYσ hE hth H locs ls hH hl hc
  have B := K.1
  have hl9 := K.2.2.2.2.2.2
  unfold w_X6_operatorText_151 at h
  refine lv_aload_n B.1 B.2.1 dX6_operatorText_151 rfl (lv_at hl 0 rfl) ?_
  refine lv_bipush (v := i32 6) B.1 B.2.1 dX6_operatorText_152 (by decide) ?_
  refine W.eq (g2 := F0 m 154 ls [.int (i32 6), .ref th]) (rfl) ?_
  refine c_V B hH hl hc K.2.2.1 (C := RX6) (T := TX6) (N := 9) (ci := 6) (As := [.int (i32 6)]) (ok_X6_pairText hl9 K.2.1 σ th 6 (by unfold rng; omega) hth hGσ hYσ h) wc_X6_116 1 hd_X6_pairText ⟨Nat.le_trans (Nat.le_of_ble_eq_true rfl) K.2.2.2.1, Nat.le_trans (Nat.le_of_ble_eq_true rfl) K.2.2.2.2.1⟩ hth.1 hth.2 (by decide) rfl rfl (rest := []) rfl (Nat.le_of_ble_eq_true rfl) dX6_operatorText_154 (fun σ39 w hq => ?_) (fun σ9 E9 hx9 => hX σ9 E9 _ _ _ (tb_out K.2.2.2.2.2.1 rfl) hx9.1 hx9.2.1 hx9.2.2.1 (hE.trans hx9.2.2.2))
  obtain ⟨rfl, h, hGσ39, hYσ39, xσ39⟩ := hq
  have h := h xσ39
  intro H locs ls hH hl hc
  refine W.eq (g2 := F0 m 157 ls []) (rfl) ?_
  try dsimp only at h
  refine lv_goto (tgt := 201) B.1 B.2.1 dX6_operatorText_157 (by decide) ?_
  exact a_X6_operatorText_201 K hQ hX hTh _ h hGσ39 hYσ39 (hE.trans xσ39) (hth.up xσ39) _ _ _ hH (lv_sub (l' := [(0, .ref th)]) hl [0] rfl) hc
set_option maxRecDepth 20000 in
theorem a_X6_operatorText_160 {Q : Sg → Unit → Prop} {X : Sg → String → Prop} {th : Nat} (K : MD l R p s m args c cX6_operatorText 2 RX6 D cA tys A n0 s0 162 11245 []) (hQ : CQV p l e R s m args below meth c cX6_operatorText D cA A n0 s0 QM σi Q) (hX : CX p l e R s m args below meth c 2 D cA A n0 s0 QM σi X) (hTh : CT p l e R s m args below meth c cX6_operatorText 2 D cA A n0 s0 QM σi RX6 X) : ∀ (σ : Sg), w_X6_operatorText_160 th Q X σ → RG σ → TY σ → Ext σi σ → kO σ th 6 → JJ p l e R s m args below meth c 2 D cA A n0 s0 QM σ 160 [(0, .ref th)] [] := by
  intro σ h hGσ hYσ hE hth H locs ls hH hl hc
  have B := K.1
  have hl9 := K.2.2.2.2.2.2
  unfold w_X6_operatorText_160 at h
  refine lv_aload_n B.1 B.2.1 dX6_operatorText_160 rfl (lv_at hl 0 rfl) ?_
  refine lv_bipush (v := i32 7) B.1 B.2.1 dX6_operatorText_161 (by decide) ?_
  refine W.eq (g2 := F0 m 163 ls [.int (i32 7), .ref th]) (rfl) ?_
  refine c_V B hH hl hc K.2.2.1 (C := RX6) (T := TX6) (N := 9) (ci := 6) (As := [.int (i32 7)]) (ok_X6_pairText hl9 K.2.1 σ th 7 (by unfold rng; omega) hth hGσ hYσ h) wc_X6_116 1 hd_X6_pairText ⟨Nat.le_trans (Nat.le_of_ble_eq_true rfl) K.2.2.2.1, Nat.le_trans (Nat.le_of_ble_eq_true rfl) K.2.2.2.2.1⟩ hth.1 hth.2 (by decide) rfl rfl (rest := []) rfl (Nat.le_of_ble_eq_true rfl) dX6_operatorText_163 (fun σ40 w hq => ?_) (fun σ9 E9 hx9 => hX σ9 E9 _ _ _ (tb_out K.2.2.2.2.2.1 rfl) hx9.1 hx9.2.1 hx9.2.2.1 (hE.trans hx9.2.2.2))
  obtain ⟨rfl, h, hGσ40, hYσ40, xσ40⟩ := hq
  have h := h xσ40
  intro H locs ls hH hl hc
  refine W.eq (g2 := F0 m 166 ls []) (rfl) ?_
  try dsimp only at h
  refine lv_goto (tgt := 201) B.1 B.2.1 dX6_operatorText_166 (by decide) ?_
  exact a_X6_operatorText_201 K hQ hX hTh _ h hGσ40 hYσ40 (hE.trans xσ40) (hth.up xσ40) _ _ _ hH (lv_sub (l' := [(0, .ref th)]) hl [0] rfl) hc
set_option maxRecDepth 20000 in
theorem a_X6_operatorText_169 {Q : Sg → Unit → Prop} {X : Sg → String → Prop} {th : Nat} (K : MD l R p s m args c cX6_operatorText 2 RX6 D cA tys A n0 s0 162 11245 []) (hQ : CQV p l e R s m args below meth c cX6_operatorText D cA A n0 s0 QM σi Q) (hX : CX p l e R s m args below meth c 2 D cA A n0 s0 QM σi X) (hTh : CT p l e R s m args below meth c cX6_operatorText 2 D cA A n0 s0 QM σi RX6 X) : ∀ (σ : Sg), w_X6_operatorText_169 th Q X σ → RG σ → TY σ → Ext σi σ → kO σ th 6 → JJ p l e R s m args below meth c 2 D cA A n0 s0 QM σ 169 [(0, .ref th)] [] := by
  intro σ h hGσ hYσ hE hth H locs ls hH hl hc
  have B := K.1
  have hl9 := K.2.2.2.2.2.2
  unfold w_X6_operatorText_169 at h
  refine lv_aload_n B.1 B.2.1 dX6_operatorText_169 rfl (lv_at hl 0 rfl) ?_
  refine W.eq (g2 := F0 m 170 ls [.ref th]) (rfl) ?_
  refine c_V B hH hl hc K.2.2.1 (C := RX6) (T := TX6) (N := 9) (ci := 6) (As := []) (ok_X6_matchText hl9 K.2.1 σ th hth hGσ hYσ h) wc_X6_119 0 hd_X6_matchText ⟨Nat.le_trans (Nat.le_of_ble_eq_true rfl) K.2.2.2.1, Nat.le_trans (Nat.le_of_ble_eq_true rfl) K.2.2.2.2.1⟩ hth.1 hth.2 (by decide) rfl rfl (rest := []) rfl (Nat.le_of_ble_eq_true rfl) dX6_operatorText_170 (fun σ41 w hq => ?_) (fun σ9 E9 hx9 => hX σ9 E9 _ _ _ (tb_out K.2.2.2.2.2.1 rfl) hx9.1 hx9.2.1 hx9.2.2.1 (hE.trans hx9.2.2.2))
  obtain ⟨rfl, h, hGσ41, hYσ41, xσ41⟩ := hq
  have h := h xσ41
  intro H locs ls hH hl hc
  refine W.eq (g2 := F0 m 173 ls []) (rfl) ?_
  try dsimp only at h
  refine lv_goto (tgt := 201) B.1 B.2.1 dX6_operatorText_173 (by decide) ?_
  exact a_X6_operatorText_201 K hQ hX hTh _ h hGσ41 hYσ41 (hE.trans xσ41) (hth.up xσ41) _ _ _ hH (lv_sub (l' := [(0, .ref th)]) hl [0] rfl) hc
set_option maxRecDepth 20000 in
theorem a_X6_operatorText_176 {Q : Sg → Unit → Prop} {X : Sg → String → Prop} {th : Nat} (K : MD l R p s m args c cX6_operatorText 2 RX6 D cA tys A n0 s0 162 11245 []) (hQ : CQV p l e R s m args below meth c cX6_operatorText D cA A n0 s0 QM σi Q) (hX : CX p l e R s m args below meth c 2 D cA A n0 s0 QM σi X) (hTh : CT p l e R s m args below meth c cX6_operatorText 2 D cA A n0 s0 QM σi RX6 X) : ∀ (σ : Sg), w_X6_operatorText_176 th Q X σ → RG σ → TY σ → Ext σi σ → kO σ th 6 → JJ p l e R s m args below meth c 2 D cA A n0 s0 QM σ 176 [(0, .ref th)] [] := by
  intro σ h hGσ hYσ hE hth H locs ls hH hl hc
  have B := K.1
  have hl9 := K.2.2.2.2.2.2
  unfold w_X6_operatorText_176 at h
  refine lv_aload_n B.1 B.2.1 dX6_operatorText_176 rfl (lv_at hl 0 rfl) ?_
  refine W.eq (g2 := F0 m 177 ls [.ref th]) (rfl) ?_
  refine c_V B hH hl hc K.2.2.1 (C := RX6) (T := TX6) (N := 9) (ci := 6) (As := []) (ok_X6_uniqueText hl9 K.2.1 σ th hth hGσ hYσ h) wc_X6_122 0 hd_X6_uniqueText ⟨Nat.le_trans (Nat.le_of_ble_eq_true rfl) K.2.2.2.1, Nat.le_trans (Nat.le_of_ble_eq_true rfl) K.2.2.2.2.1⟩ hth.1 hth.2 (by decide) rfl rfl (rest := []) rfl (Nat.le_of_ble_eq_true rfl) dX6_operatorText_177 (fun σ42 w hq => ?_) (fun σ9 E9 hx9 => hX σ9 E9 _ _ _ (tb_out K.2.2.2.2.2.1 rfl) hx9.1 hx9.2.1 hx9.2.2.1 (hE.trans hx9.2.2.2))
  obtain ⟨rfl, h, hGσ42, hYσ42, xσ42⟩ := hq
  have h := h xσ42
  intro H locs ls hH hl hc
  refine W.eq (g2 := F0 m 180 ls []) (rfl) ?_
  try dsimp only at h
  refine lv_goto (tgt := 201) B.1 B.2.1 dX6_operatorText_180 (by decide) ?_
  exact a_X6_operatorText_201 K hQ hX hTh _ h hGσ42 hYσ42 (hE.trans xσ42) (hth.up xσ42) _ _ _ hH (lv_sub (l' := [(0, .ref th)]) hl [0] rfl) hc
set_option maxRecDepth 20000 in
theorem a_X6_operatorText_183 {Q : Sg → Unit → Prop} {X : Sg → String → Prop} {th : Nat} (K : MD l R p s m args c cX6_operatorText 2 RX6 D cA tys A n0 s0 162 11245 []) (hQ : CQV p l e R s m args below meth c cX6_operatorText D cA A n0 s0 QM σi Q) (hX : CX p l e R s m args below meth c 2 D cA A n0 s0 QM σi X) (hTh : CT p l e R s m args below meth c cX6_operatorText 2 D cA A n0 s0 QM σi RX6 X) : ∀ (σ : Sg), w_X6_operatorText_183 th Q X σ → RG σ → TY σ → Ext σi σ → kO σ th 6 → JJ p l e R s m args below meth c 2 D cA A n0 s0 QM σ 183 [(0, .ref th)] [] := by
  intro σ h hGσ hYσ hE hth H locs ls hH hl hc
  have B := K.1
  have hl9 := K.2.2.2.2.2.2
  unfold w_X6_operatorText_183 at h
  refine lv_aload_n B.1 B.2.1 dX6_operatorText_183 rfl (lv_at hl 0 rfl) ?_
  refine W.eq (g2 := F0 m 184 ls [.ref th]) (rfl) ?_
  refine c_V B hH hl hc K.2.2.1 (C := RX6) (T := TX6) (N := 9) (ci := 6) (As := []) (ok_X6_topText hl9 K.2.1 σ th hth hGσ hYσ h) wc_X6_125 0 hd_X6_topText ⟨Nat.le_trans (Nat.le_of_ble_eq_true rfl) K.2.2.2.1, Nat.le_trans (Nat.le_of_ble_eq_true rfl) K.2.2.2.2.1⟩ hth.1 hth.2 (by decide) rfl rfl (rest := []) rfl (Nat.le_of_ble_eq_true rfl) dX6_operatorText_184 (fun σ43 w hq => ?_) (fun σ9 E9 hx9 => hX σ9 E9 _ _ _ (tb_out K.2.2.2.2.2.1 rfl) hx9.1 hx9.2.1 hx9.2.2.1 (hE.trans hx9.2.2.2))
  obtain ⟨rfl, h, hGσ43, hYσ43, xσ43⟩ := hq
  have h := h xσ43
  intro H locs ls hH hl hc
  refine W.eq (g2 := F0 m 187 ls []) (rfl) ?_
  try dsimp only at h
  refine lv_goto (tgt := 201) B.1 B.2.1 dX6_operatorText_187 (by decide) ?_
  exact a_X6_operatorText_201 K hQ hX hTh _ h hGσ43 hYσ43 (hE.trans xσ43) (hth.up xσ43) _ _ _ hH (lv_sub (l' := [(0, .ref th)]) hl [0] rfl) hc
set_option maxRecDepth 20000 in
theorem a_X6_operatorText_190 {Q : Sg → Unit → Prop} {X : Sg → String → Prop} {th : Nat} (K : MD l R p s m args c cX6_operatorText 2 RX6 D cA tys A n0 s0 162 11245 []) (hQ : CQV p l e R s m args below meth c cX6_operatorText D cA A n0 s0 QM σi Q) (hX : CX p l e R s m args below meth c 2 D cA A n0 s0 QM σi X) (hTh : CT p l e R s m args below meth c cX6_operatorText 2 D cA A n0 s0 QM σi RX6 X) : ∀ (σ : Sg), w_X6_operatorText_190 th Q X σ → RG σ → TY σ → Ext σi σ → kO σ th 6 → JJ p l e R s m args below meth c 2 D cA A n0 s0 QM σ 190 [(0, .ref th)] [] := by
  intro σ h hGσ hYσ hE hth H locs ls hH hl hc
  have B := K.1
  have hl9 := K.2.2.2.2.2.2
  unfold w_X6_operatorText_190 at h
  refine lv_aload_n B.1 B.2.1 dX6_operatorText_190 rfl (lv_at hl 0 rfl) ?_
  refine W.eq (g2 := F0 m 191 ls [.ref th]) (rfl) ?_
  refine c_V B hH hl hc K.2.2.1 (C := RX6) (T := TX6) (N := 9) (ci := 6) (As := []) (ok_X6_outputText hl9 K.2.1 σ th hth hGσ hYσ h) wc_X6_128 0 hd_X6_outputText ⟨Nat.le_trans (Nat.le_of_ble_eq_true rfl) K.2.2.2.1, Nat.le_trans (Nat.le_of_ble_eq_true rfl) K.2.2.2.2.1⟩ hth.1 hth.2 (by decide) rfl rfl (rest := []) rfl (Nat.le_of_ble_eq_true rfl) dX6_operatorText_191 (fun σ44 w hq => ?_) (fun σ9 E9 hx9 => hX σ9 E9 _ _ _ (tb_out K.2.2.2.2.2.1 rfl) hx9.1 hx9.2.1 hx9.2.2.1 (hE.trans hx9.2.2.2))
  obtain ⟨rfl, h, hGσ44, hYσ44, xσ44⟩ := hq
  have h := h xσ44
  intro H locs ls hH hl hc
  refine W.eq (g2 := F0 m 194 ls []) (rfl) ?_
  try dsimp only at h
  refine lv_goto (tgt := 201) B.1 B.2.1 dX6_operatorText_194 (by decide) ?_
  exact a_X6_operatorText_201 K hQ hX hTh _ h hGσ44 hYσ44 (hE.trans xσ44) (hth.up xσ44) _ _ _ hH (lv_sub (l' := [(0, .ref th)]) hl [0] rfl) hc
set_option maxRecDepth 20000 in
theorem a_X6_operatorText_197 {Q : Sg → Unit → Prop} {X : Sg → String → Prop} {th : Nat} (K : MD l R p s m args c cX6_operatorText 2 RX6 D cA tys A n0 s0 162 11245 []) (hQ : CQV p l e R s m args below meth c cX6_operatorText D cA A n0 s0 QM σi Q) (hX : CX p l e R s m args below meth c 2 D cA A n0 s0 QM σi X) (hTh : CT p l e R s m args below meth c cX6_operatorText 2 D cA A n0 s0 QM σi RX6 X) : ∀ (σ : Sg), w_X6_operatorText_197 th Q X σ → RG σ → TY σ → Ext σi σ → kO σ th 6 → JJ p l e R s m args below meth c 2 D cA A n0 s0 QM σ 197 [(0, .ref th)] [] := by
  intro σ h hGσ hYσ hE hth H locs ls hH hl hc
  have B := K.1
  have hl9 := K.2.2.2.2.2.2
  unfold w_X6_operatorText_197 at h
  refine lv_aload_n B.1 B.2.1 dX6_operatorText_197 rfl (lv_at hl 0 rfl) ?_
  refine W.eq (g2 := F0 m 198 ls [.ref th]) (rfl) ?_
  refine c_V B hH hl hc K.2.2.1 (C := RX6) (T := TX6) (N := 9) (ci := 6) (As := []) (ok_X6_cannotStand hl9 K.2.1 σ th hth hGσ hYσ h) wc_X6_70 0 hd_X6_cannotStand ⟨Nat.le_trans (Nat.le_of_ble_eq_true rfl) K.2.2.2.1, Nat.le_trans (Nat.le_of_ble_eq_true rfl) K.2.2.2.2.1⟩ hth.1 hth.2 (by decide) rfl rfl (rest := []) rfl (Nat.le_of_ble_eq_true rfl) dX6_operatorText_198 (fun σ45 w hq => ?_) (fun σ9 E9 hx9 => hX σ9 E9 _ _ _ (tb_out K.2.2.2.2.2.1 rfl) hx9.1 hx9.2.1 hx9.2.2.1 (hE.trans hx9.2.2.2))
  obtain ⟨rfl, h, hGσ45, hYσ45, xσ45⟩ := hq
  have h := h xσ45
  intro H locs ls hH hl hc
  refine W.eq (g2 := F0 m 201 ls []) (rfl) ?_
  try dsimp only at h
  exact a_X6_operatorText_201 K hQ hX hTh _ h hGσ45 hYσ45 (hE.trans xσ45) (hth.up xσ45) _ _ _ hH (lv_sub (l' := [(0, .ref th)]) hl [0] rfl) hc
set_option maxRecDepth 20000 in
theorem a_X6_operatorText_22 {Q : Sg → Unit → Prop} {X : Sg → String → Prop} {th : Nat} (K : MD l R p s m args c cX6_operatorText 2 RX6 D cA tys A n0 s0 162 11245 []) (hQ : CQV p l e R s m args below meth c cX6_operatorText D cA A n0 s0 QM σi Q) (hX : CX p l e R s m args below meth c 2 D cA A n0 s0 QM σi X) (hTh : CT p l e R s m args below meth c cX6_operatorText 2 D cA A n0 s0 QM σi RX6 X) : ∀ (σ : Sg), w_X6_operatorText_22 th Q X σ → RG σ → TY σ → Ext σi σ → kO σ th 6 → JJ p l e R s m args below meth c 2 D cA A n0 s0 QM σ 22 [(0, .ref th)] [] := by
  intro σ h hGσ hYσ hE hth H locs ls hH hl hc
  have B := K.1
  have hl9 := K.2.2.2.2.2.2
  unfold w_X6_operatorText_22 at h
  refine lv_aload_n B.1 B.2.1 dX6_operatorText_22 rfl (lv_at hl 0 rfl) ?_
  refine f_getl B hH hth (by decide) rfl wu_X6 4 (by decide) wf_X6_73 rfl rfl dX6_operatorText_23 ?_
  refine lv_l2i B.1 B.2.1 dX6_operatorText_26 rfl ?_
  refine W.eq (g2 := F0 m 27 ls [.int (i32 ((gJ σ th 4).toInt32.toInt))]) (by simp only [i32_self]) ?_
  rcases Classical.em ((gJ σ th 4).toInt32.toInt = 0) with e9 | e9
  · rw [if_pos e9] at h
    refine lv_tableIn (off := 85) (tgt := 112) B.1 B.2.1 dX6_operatorText_27 (by rw [i32_toInt (rng_toInt _), e9]; decide) (by rw [i32_toInt (rng_toInt _), e9]; decide) (by rw [i32_toInt (rng_toInt _), e9]; rfl) (by decide) ?_
    exact a_X6_operatorText_112 K hQ hX hTh _ h hGσ hYσ hE hth _ _ _ hH (lv_sub (l' := [(0, .ref th)]) hl [0] rfl) hc
  rw [if_neg e9] at h
  have k1 := e9
  rcases Classical.em ((gJ σ th 4).toInt32.toInt = 2) with e9 | e9
  · rw [if_pos e9] at h
    refine lv_tableIn (off := 92) (tgt := 119) B.1 B.2.1 dX6_operatorText_27 (by rw [i32_toInt (rng_toInt _), e9]; decide) (by rw [i32_toInt (rng_toInt _), e9]; decide) (by rw [i32_toInt (rng_toInt _), e9]; rfl) (by decide) ?_
    exact a_X6_operatorText_119 K hQ hX hTh _ h hGσ hYσ hE hth _ _ _ hH (lv_sub (l' := [(0, .ref th)]) hl [0] rfl) hc
  rw [if_neg e9] at h
  have k2 := e9
  rcases Classical.em ((gJ σ th 4).toInt32.toInt = 3) with e9 | e9
  · rw [if_pos e9] at h
    refine lv_tableIn (off := 99) (tgt := 126) B.1 B.2.1 dX6_operatorText_27 (by rw [i32_toInt (rng_toInt _), e9]; decide) (by rw [i32_toInt (rng_toInt _), e9]; decide) (by rw [i32_toInt (rng_toInt _), e9]; rfl) (by decide) ?_
    exact a_X6_operatorText_126 K hQ hX hTh _ h hGσ hYσ hE hth _ _ _ hH (lv_sub (l' := [(0, .ref th)]) hl [0] rfl) hc
  rw [if_neg e9] at h
  have k3 := e9
  rcases Classical.em ((gJ σ th 4).toInt32.toInt = 4) with e9 | e9
  · rw [if_pos e9] at h
    refine lv_tableIn (off := 106) (tgt := 133) B.1 B.2.1 dX6_operatorText_27 (by rw [i32_toInt (rng_toInt _), e9]; decide) (by rw [i32_toInt (rng_toInt _), e9]; decide) (by rw [i32_toInt (rng_toInt _), e9]; rfl) (by decide) ?_
    exact a_X6_operatorText_133 K hQ hX hTh _ h hGσ hYσ hE hth _ _ _ hH (lv_sub (l' := [(0, .ref th)]) hl [0] rfl) hc
  rw [if_neg e9] at h
  have k4 := e9
  rcases Classical.em ((gJ σ th 4).toInt32.toInt = 5) with e9 | e9
  · rw [if_pos e9] at h
    refine lv_tableIn (off := 113) (tgt := 140) B.1 B.2.1 dX6_operatorText_27 (by rw [i32_toInt (rng_toInt _), e9]; decide) (by rw [i32_toInt (rng_toInt _), e9]; decide) (by rw [i32_toInt (rng_toInt _), e9]; rfl) (by decide) ?_
    exact a_X6_operatorText_140 K hQ hX hTh _ h hGσ hYσ hE hth _ _ _ hH (lv_sub (l' := [(0, .ref th)]) hl [0] rfl) hc
  rw [if_neg e9] at h
  have k5 := e9
  rcases Classical.em ((gJ σ th 4).toInt32.toInt = 10) with e9 | e9
  · rw [if_pos e9] at h
    refine lv_tableIn (off := 124) (tgt := 151) B.1 B.2.1 dX6_operatorText_27 (by rw [i32_toInt (rng_toInt _), e9]; decide) (by rw [i32_toInt (rng_toInt _), e9]; decide) (by rw [i32_toInt (rng_toInt _), e9]; rfl) (by decide) ?_
    exact a_X6_operatorText_151 K hQ hX hTh _ h hGσ hYσ hE hth _ _ _ hH (lv_sub (l' := [(0, .ref th)]) hl [0] rfl) hc
  rw [if_neg e9] at h
  have k6 := e9
  rcases Classical.em ((gJ σ th 4).toInt32.toInt = 12) with e9 | e9
  · rw [if_pos e9] at h
    refine lv_tableIn (off := 133) (tgt := 160) B.1 B.2.1 dX6_operatorText_27 (by rw [i32_toInt (rng_toInt _), e9]; decide) (by rw [i32_toInt (rng_toInt _), e9]; decide) (by rw [i32_toInt (rng_toInt _), e9]; rfl) (by decide) ?_
    exact a_X6_operatorText_160 K hQ hX hTh _ h hGσ hYσ hE hth _ _ _ hH (lv_sub (l' := [(0, .ref th)]) hl [0] rfl) hc
  rw [if_neg e9] at h
  have k7 := e9
  rcases Classical.em ((gJ σ th 4).toInt32.toInt = 13) with e9 | e9
  · rw [if_pos e9] at h
    refine lv_tableIn (off := 142) (tgt := 169) B.1 B.2.1 dX6_operatorText_27 (by rw [i32_toInt (rng_toInt _), e9]; decide) (by rw [i32_toInt (rng_toInt _), e9]; decide) (by rw [i32_toInt (rng_toInt _), e9]; rfl) (by decide) ?_
    exact a_X6_operatorText_169 K hQ hX hTh _ h hGσ hYσ hE hth _ _ _ hH (lv_sub (l' := [(0, .ref th)]) hl [0] rfl) hc
  rw [if_neg e9] at h
  have k8 := e9
  rcases Classical.em ((gJ σ th 4).toInt32.toInt = 15) with e9 | e9
  · rw [if_pos e9] at h
    refine lv_tableIn (off := 149) (tgt := 176) B.1 B.2.1 dX6_operatorText_27 (by rw [i32_toInt (rng_toInt _), e9]; decide) (by rw [i32_toInt (rng_toInt _), e9]; decide) (by rw [i32_toInt (rng_toInt _), e9]; rfl) (by decide) ?_
    exact a_X6_operatorText_176 K hQ hX hTh _ h hGσ hYσ hE hth _ _ _ hH (lv_sub (l' := [(0, .ref th)]) hl [0] rfl) hc
  rw [if_neg e9] at h
  have k9 := e9
  rcases Classical.em ((gJ σ th 4).toInt32.toInt = 16) with e9 | e9
  · rw [if_pos e9] at h
    refine lv_tableIn (off := 156) (tgt := 183) B.1 B.2.1 dX6_operatorText_27 (by rw [i32_toInt (rng_toInt _), e9]; decide) (by rw [i32_toInt (rng_toInt _), e9]; decide) (by rw [i32_toInt (rng_toInt _), e9]; rfl) (by decide) ?_
    exact a_X6_operatorText_183 K hQ hX hTh _ h hGσ hYσ hE hth _ _ _ hH (lv_sub (l' := [(0, .ref th)]) hl [0] rfl) hc
  rw [if_neg e9] at h
  have k10 := e9
  rcases Classical.em ((gJ σ th 4).toInt32.toInt = 17) with e9 | e9
  · rw [if_pos e9] at h
    refine lv_tableIn (off := 163) (tgt := 190) B.1 B.2.1 dX6_operatorText_27 (by rw [i32_toInt (rng_toInt _), e9]; decide) (by rw [i32_toInt (rng_toInt _), e9]; decide) (by rw [i32_toInt (rng_toInt _), e9]; rfl) (by decide) ?_
    exact a_X6_operatorText_190 K hQ hX hTh _ h hGσ hYσ hE hth _ _ _ hH (lv_sub (l' := [(0, .ref th)]) hl [0] rfl) hc
  rw [if_neg e9] at h
  have k11 := e9
  rcases (show ((gJ σ th 4).toInt32.toInt < 0 ∨ 17 < (gJ σ th 4).toInt32.toInt) ∨ (gJ σ th 4).toInt32.toInt = 1 ∨ (gJ σ th 4).toInt32.toInt = 6 ∨ (gJ σ th 4).toInt32.toInt = 7 ∨ (gJ σ th 4).toInt32.toInt = 8 ∨ (gJ σ th 4).toInt32.toInt = 9 ∨ (gJ σ th 4).toInt32.toInt = 11 ∨ (gJ σ th 4).toInt32.toInt = 14 by omega) with e9 | e9 | e9 | e9 | e9 | e9 | e9 | e9
  · refine lv_tableOut (tgt := 197) B.1 B.2.1 dX6_operatorText_27 (by rw [i32_toInt (rng_toInt _)]; exact e9) (by decide) ?_
    exact a_X6_operatorText_197 K hQ hX hTh _ h hGσ hYσ hE hth _ _ _ hH (lv_sub (l' := [(0, .ref th)]) hl [0] rfl) hc
  · refine lv_tableIn (off := 170) (tgt := 197) B.1 B.2.1 dX6_operatorText_27 (by rw [i32_toInt (rng_toInt _), e9]; decide) (by rw [i32_toInt (rng_toInt _), e9]; decide) (by rw [i32_toInt (rng_toInt _), e9]; rfl) (by decide) ?_
    exact a_X6_operatorText_197 K hQ hX hTh _ h hGσ hYσ hE hth _ _ _ hH (lv_sub (l' := [(0, .ref th)]) hl [0] rfl) hc
  · refine lv_tableIn (off := 170) (tgt := 197) B.1 B.2.1 dX6_operatorText_27 (by rw [i32_toInt (rng_toInt _), e9]; decide) (by rw [i32_toInt (rng_toInt _), e9]; decide) (by rw [i32_toInt (rng_toInt _), e9]; rfl) (by decide) ?_
    exact a_X6_operatorText_197 K hQ hX hTh _ h hGσ hYσ hE hth _ _ _ hH (lv_sub (l' := [(0, .ref th)]) hl [0] rfl) hc
  · refine lv_tableIn (off := 170) (tgt := 197) B.1 B.2.1 dX6_operatorText_27 (by rw [i32_toInt (rng_toInt _), e9]; decide) (by rw [i32_toInt (rng_toInt _), e9]; decide) (by rw [i32_toInt (rng_toInt _), e9]; rfl) (by decide) ?_
    exact a_X6_operatorText_197 K hQ hX hTh _ h hGσ hYσ hE hth _ _ _ hH (lv_sub (l' := [(0, .ref th)]) hl [0] rfl) hc
  · refine lv_tableIn (off := 170) (tgt := 197) B.1 B.2.1 dX6_operatorText_27 (by rw [i32_toInt (rng_toInt _), e9]; decide) (by rw [i32_toInt (rng_toInt _), e9]; decide) (by rw [i32_toInt (rng_toInt _), e9]; rfl) (by decide) ?_
    exact a_X6_operatorText_197 K hQ hX hTh _ h hGσ hYσ hE hth _ _ _ hH (lv_sub (l' := [(0, .ref th)]) hl [0] rfl) hc
  · refine lv_tableIn (off := 170) (tgt := 197) B.1 B.2.1 dX6_operatorText_27 (by rw [i32_toInt (rng_toInt _), e9]; decide) (by rw [i32_toInt (rng_toInt _), e9]; decide) (by rw [i32_toInt (rng_toInt _), e9]; rfl) (by decide) ?_
    exact a_X6_operatorText_197 K hQ hX hTh _ h hGσ hYσ hE hth _ _ _ hH (lv_sub (l' := [(0, .ref th)]) hl [0] rfl) hc
  · refine lv_tableIn (off := 170) (tgt := 197) B.1 B.2.1 dX6_operatorText_27 (by rw [i32_toInt (rng_toInt _), e9]; decide) (by rw [i32_toInt (rng_toInt _), e9]; decide) (by rw [i32_toInt (rng_toInt _), e9]; rfl) (by decide) ?_
    exact a_X6_operatorText_197 K hQ hX hTh _ h hGσ hYσ hE hth _ _ _ hH (lv_sub (l' := [(0, .ref th)]) hl [0] rfl) hc
  · refine lv_tableIn (off := 170) (tgt := 197) B.1 B.2.1 dX6_operatorText_27 (by rw [i32_toInt (rng_toInt _), e9]; decide) (by rw [i32_toInt (rng_toInt _), e9]; decide) (by rw [i32_toInt (rng_toInt _), e9]; rfl) (by decide) ?_
    exact a_X6_operatorText_197 K hQ hX hTh _ h hGσ hYσ hE hth _ _ _ hH (lv_sub (l' := [(0, .ref th)]) hl [0] rfl) hc
set_option maxRecDepth 20000 in
theorem a_X6_operatorText_18 {Q : Sg → Unit → Prop} {X : Sg → String → Prop} {th : Nat} (K : MD l R p s m args c cX6_operatorText 2 RX6 D cA tys A n0 s0 162 11245 []) (hQ : CQV p l e R s m args below meth c cX6_operatorText D cA A n0 s0 QM σi Q) (hX : CX p l e R s m args below meth c 2 D cA A n0 s0 QM σi X) (hTh : CT p l e R s m args below meth c cX6_operatorText 2 D cA A n0 s0 QM σi RX6 X) : ∀ (σ : Sg), w_X6_operatorText_18 th Q X σ → RG σ → TY σ → Ext σi σ → kO σ th 6 → JJ p l e R s m args below meth c 2 D cA A n0 s0 QM σ 18 [(0, .ref th)] [] := by
  intro σ h hGσ hYσ hE hth H locs ls hH hl hc
  have B := K.1
  have hl9 := K.2.2.2.2.2.2
  unfold w_X6_operatorText_18 at h
  refine lv_aload_n B.1 B.2.1 dX6_operatorText_18 rfl (lv_at hl 0 rfl) ?_
  refine W.eq (g2 := F0 m 19 ls [.ref th]) (rfl) ?_
  refine c_V B hH hl hc K.2.2.1 (C := RX6) (T := TX6) (N := 9) (ci := 6) (As := []) (ok_X6_cannotStand hl9 K.2.1 σ th hth hGσ hYσ h) wc_X6_70 0 hd_X6_cannotStand ⟨Nat.le_trans (Nat.le_of_ble_eq_true rfl) K.2.2.2.1, Nat.le_trans (Nat.le_of_ble_eq_true rfl) K.2.2.2.2.1⟩ hth.1 hth.2 (by decide) rfl rfl (rest := []) rfl (Nat.le_of_ble_eq_true rfl) dX6_operatorText_19 (fun σ46 w hq => ?_) (fun σ9 E9 hx9 => hX σ9 E9 _ _ _ (tb_out K.2.2.2.2.2.1 rfl) hx9.1 hx9.2.1 hx9.2.2.1 (hE.trans hx9.2.2.2))
  obtain ⟨rfl, h, hGσ46, hYσ46, xσ46⟩ := hq
  have h := h xσ46
  intro H locs ls hH hl hc
  refine W.eq (g2 := F0 m 22 ls []) (rfl) ?_
  try dsimp only at h
  exact a_X6_operatorText_22 K hQ hX hTh _ h hGσ46 hYσ46 (hE.trans xσ46) (hth.up xσ46) _ _ _ hH (lv_sub (l' := [(0, .ref th)]) hl [0] rfl) hc
set_option maxRecDepth 20000 in
theorem a_X6_operatorText_8 {Q : Sg → Unit → Prop} {X : Sg → String → Prop} {th : Nat} (K : MD l R p s m args c cX6_operatorText 2 RX6 D cA tys A n0 s0 162 11245 []) (hQ : CQV p l e R s m args below meth c cX6_operatorText D cA A n0 s0 QM σi Q) (hX : CX p l e R s m args below meth c 2 D cA A n0 s0 QM σi X) (hTh : CT p l e R s m args below meth c cX6_operatorText 2 D cA A n0 s0 QM σi RX6 X) : ∀ (σ : Sg) (v1 : Int) (g1 : rng v1), w_X6_operatorText_8 th Q X σ v1 → RG σ → TY σ → Ext σi σ → kO σ th 6 → JJ p l e R s m args below meth c 2 D cA A n0 s0 QM σ 8 [(0, .ref th), (1, .int (i32 v1))] [] := by
  intro σ v1 g1 h hGσ hYσ hE hth H locs ls hH hl hc
  have B := K.1
  have hl9 := K.2.2.2.2.2.2
  unfold w_X6_operatorText_8 at h
  refine lv_aload_n B.1 B.2.1 dX6_operatorText_8 rfl (lv_at hl 0 rfl) ?_
  refine lv_bipush (v := i32 17) B.1 B.2.1 dX6_operatorText_9 (by decide) ?_
  refine W.eq (g2 := F0 m 11 ls [.int (i32 17), .ref th]) (rfl) ?_
  refine c_V B hH hl hc K.2.2.1 (C := RX6) (T := TX6) (N := 9) (ci := 6) (As := [.int (i32 17)]) (ok_X6_isWord hl9 K.2.1 σ th 17 (by unfold rng; omega) hth hGσ hYσ h) wc_X6_66 1 hd_X6_isWord ⟨Nat.le_trans (Nat.le_of_ble_eq_true rfl) K.2.2.2.1, Nat.le_trans (Nat.le_of_ble_eq_true rfl) K.2.2.2.2.1⟩ hth.1 hth.2 (by decide) rfl rfl (rest := []) rfl (Nat.le_of_ble_eq_true rfl) dX6_operatorText_11 (fun σ47 w hq => ?_) (fun σ9 E9 hx9 => hX σ9 E9 _ _ _ (tb_out K.2.2.2.2.2.1 rfl) hx9.1 hx9.2.1 hx9.2.2.1 (hE.trans hx9.2.2.2))
  obtain ⟨r48, rfl, ⟨gr48, gzr48⟩, h, hGσ47, hYσ47, xσ47⟩ := hq
  have h := h xσ47
  intro H locs ls hH hl hc
  refine W.eq (g2 := F0 m 14 ls [.int (i32 r48)]) (rfl) ?_
  try dsimp only at h
  refine lv_iload_n B.1 B.2.1 dX6_operatorText_14 rfl (lv_at hl 1 rfl) ?_
  refine lv_icmp_eq (tgt := 22) B.1 B.2.1 dX6_operatorText_15 (by decide) (fun h9 => ?_) (fun h9 => ?_)
  · rw [if_pos ((i32_eq gr48 g1).mp h9)] at h
    exact a_X6_operatorText_22 K hQ hX hTh _ h hGσ47 hYσ47 (hE.trans xσ47) (hth.up xσ47) _ _ _ hH (lv_sub (l' := [(0, .ref th)]) hl [0] rfl) hc
  · rw [if_neg (fun q => h9 ((i32_eq gr48 g1).mpr q))] at h
    exact a_X6_operatorText_18 K hQ hX hTh _ h hGσ47 hYσ47 (hE.trans xσ47) (hth.up xσ47) _ _ _ hH (lv_sub (l' := [(0, .ref th)]) hl [0] rfl) hc
set_option maxRecDepth 20000 in
theorem a_X6_operatorText_0 {Q : Sg → Unit → Prop} {X : Sg → String → Prop} {th : Nat} (K : MD l R p s m args c cX6_operatorText 2 RX6 D cA tys A n0 s0 162 11245 []) (hQ : CQV p l e R s m args below meth c cX6_operatorText D cA A n0 s0 QM σi Q) (hX : CX p l e R s m args below meth c 2 D cA A n0 s0 QM σi X) (hTh : CT p l e R s m args below meth c cX6_operatorText 2 D cA A n0 s0 QM σi RX6 X) : ∀ (σ : Sg) (v1 : Int) (g1 : rng v1), w_X6_operatorText_0 th Q X σ v1 → RG σ → TY σ → Ext σi σ → kO σ th 6 → JJ p l e R s m args below meth c 2 D cA A n0 s0 QM σ 0 [(0, .ref th), (1, .int (i32 v1))] [] := by
  intro σ v1 g1 h hGσ hYσ hE hth H locs ls hH hl hc
  have B := K.1
  have hl9 := K.2.2.2.2.2.2
  unfold w_X6_operatorText_0 at h
  refine lv_aload_n B.1 B.2.1 dX6_operatorText_0 rfl (lv_at hl 0 rfl) ?_
  refine f_geti B hH hth (by decide) rfl wu_X6 3 (by decide) wf_X6_43 rfl rfl dX6_operatorText_1 ?_
  refine lv_iconst (v := i32 2) B.1 B.2.1 dX6_operatorText_4 (by decide) ?_
  refine lv_icmp_ne (tgt := 18) B.1 B.2.1 dX6_operatorText_5 (by decide) (fun h9 => ?_) (fun h9 => ?_)
  · rw [if_pos (fun q => h9 ((i32_eq (hGσ _ _) (by unfold rng; omega)).mpr q))] at h
    exact a_X6_operatorText_18 K hQ hX hTh _ h hGσ hYσ hE hth _ _ _ hH (lv_sub (l' := [(0, .ref th)]) hl [0] rfl) hc
  · rw [if_neg (fun q => q ((i32_eq (hGσ _ _) (by unfold rng; omega)).mp h9))] at h
    exact a_X6_operatorText_8 K hQ hX hTh _ _ g1 h hGσ hYσ hE hth _ _ _ hH (lv_sub (l' := [(0, .ref th), (1, .int (i32 v1))]) hl [0, 1] rfl) hc
theorem ok_X6_operatorText (hl0 : l.stackTraces = false) (hT : TyC cA tys) {Q : Sg → Unit → Prop} {X : Sg → String → Prop} (σ : Sg) (th : Nat) (v1 : Int) (g1 : rng v1) (hth : kO σ th 6) (hG : RG σ) (hY : TY σ) (h : wp_X6_operatorText th v1 σ Q X) : Ok l D cA tys A yX6_operatorText (.code yX6_operatorText cX6_operatorText 2 none) 162 11245 [.ref th, .int (i32 v1)] σ (QcV σ Q) (QxC σ X) := by
  unfold wp_X6_operatorText at h
  exact oc_V hl0 (by decide) (by exact Nat.le_of_ble_eq_true rfl) hT (fun p e R s m args below meth c K hQ hX hTh hin9 H locs ls hH hl hc => a_X6_operatorText_0 K hQ hX hTh σ v1 g1 h hG hY (Ext.rfl' σ) hth H locs ls hH (lv_sub (l' := [(0, .ref th), (1, .int (i32 v1))]) hl [0, 1] rfl) hc)
theorem dX5_forget_0 : decode cX5_forget 0 = .ok (.aload_n 0, 1) := by decide +kernel
theorem dX5_forget_1 : decode cX5_forget 1 = .ok (.iconst 0, 1) := by decide +kernel
theorem dX5_forget_2 : decode cX5_forget 2 = .ok (.putfield 22, 3) := by decide +kernel
theorem dX5_forget_5 : decode cX5_forget 5 = .ok (.aload_n 0, 1) := by decide +kernel
theorem dX5_forget_6 : decode cX5_forget 6 = .ok (.iconst 0, 1) := by decide +kernel
theorem dX5_forget_7 : decode cX5_forget 7 = .ok (.putfield 26, 3) := by decide +kernel
theorem dX5_forget_10 : decode cX5_forget 10 = .ok (.aload_n 0, 1) := by decide +kernel
theorem dX5_forget_11 : decode cX5_forget 11 = .ok (.lconst 0, 1) := by decide +kernel
theorem dX5_forget_12 : decode cX5_forget 12 = .ok (.putfield 29, 3) := by decide +kernel
theorem dX5_forget_15 : decode cX5_forget 15 = .ok (.aload_n 0, 1) := by decide +kernel
theorem dX5_forget_16 : decode cX5_forget 16 = .ok (.iconst 0, 1) := by decide +kernel
theorem dX5_forget_17 : decode cX5_forget 17 = .ok (.putfield 33, 3) := by decide +kernel
theorem dX5_forget_20 : decode cX5_forget 20 = .ok (.aload_n 0, 1) := by decide +kernel
theorem dX5_forget_21 : decode cX5_forget 21 = .ok (.iconst (-1), 1) := by decide +kernel
theorem dX5_forget_22 : decode cX5_forget 22 = .ok (.putfield 36, 3) := by decide +kernel
theorem dX5_forget_25 : decode cX5_forget 25 = .ok (.aload_n 0, 1) := by decide +kernel
theorem dX5_forget_26 : decode cX5_forget 26 = .ok (.iconst (-1), 1) := by decide +kernel
theorem dX5_forget_27 : decode cX5_forget 27 = .ok (.putfield 39, 3) := by decide +kernel
theorem dX5_forget_30 : decode cX5_forget 30 = .ok (.aload_n 0, 1) := by decide +kernel
theorem dX5_forget_31 : decode cX5_forget 31 = .ok (.iconst 0, 1) := by decide +kernel
theorem dX5_forget_32 : decode cX5_forget 32 = .ok (.putfield 42, 3) := by decide +kernel
theorem dX5_forget_35 : decode cX5_forget 35 = .ok (.aload_n 0, 1) := by decide +kernel
theorem dX5_forget_36 : decode cX5_forget 36 = .ok (.iconst 0, 1) := by decide +kernel
theorem dX5_forget_37 : decode cX5_forget 37 = .ok (.putfield 45, 3) := by decide +kernel
theorem dX5_forget_40 : decode cX5_forget 40 = .ok (.aload_n 0, 1) := by decide +kernel
theorem dX5_forget_41 : decode cX5_forget 41 = .ok (.iconst 1, 1) := by decide +kernel
theorem dX5_forget_42 : decode cX5_forget 42 = .ok (.putfield 48, 3) := by decide +kernel
theorem dX5_forget_45 : decode cX5_forget 45 = .ok (.aload_n 0, 1) := by decide +kernel
theorem dX5_forget_46 : decode cX5_forget 46 = .ok (.iconst 1, 1) := by decide +kernel
theorem dX5_forget_47 : decode cX5_forget 47 = .ok (.putfield 51, 3) := by decide +kernel
theorem dX5_forget_50 : decode cX5_forget 50 = .ok (.aload_n 0, 1) := by decide +kernel
theorem dX5_forget_51 : decode cX5_forget 51 = .ok (.iconst 0, 1) := by decide +kernel
theorem dX5_forget_52 : decode cX5_forget 52 = .ok (.putfield 54, 3) := by decide +kernel
theorem dX5_forget_55 : decode cX5_forget 55 = .ok (.aload_n 0, 1) := by decide +kernel
theorem dX5_forget_56 : decode cX5_forget 56 = .ok (.iconst 0, 1) := by decide +kernel
theorem dX5_forget_57 : decode cX5_forget 57 = .ok (.putfield 57, 3) := by decide +kernel
theorem dX5_forget_60 : decode cX5_forget 60 = .ok (.aload_n 0, 1) := by decide +kernel
theorem dX5_forget_61 : decode cX5_forget 61 = .ok (.iconst 0, 1) := by decide +kernel
theorem dX5_forget_62 : decode cX5_forget 62 = .ok (.putfield 60, 3) := by decide +kernel
theorem dX5_forget_65 : decode cX5_forget 65 = .ok (.aload_n 0, 1) := by decide +kernel
theorem dX5_forget_66 : decode cX5_forget 66 = .ok (.iconst 0, 1) := by decide +kernel
theorem dX5_forget_67 : decode cX5_forget 67 = .ok (.putfield 63, 3) := by decide +kernel
theorem dX5_forget_70 : decode cX5_forget 70 = .ok (.return_, 1) := by decide +kernel
set_option maxRecDepth 20000 in
theorem a_X5_forget_0 {Q : Sg → Unit → Prop} {X : Sg → String → Prop} {th : Nat} (K : MD l R p s m args c cX5_forget 1 RX5 D cA tys A n0 s0 0 0 []) (hQ : CQV p l e R s m args below meth c cX5_forget D cA A n0 s0 QM σi Q) (hX : CX p l e R s m args below meth c 1 D cA A n0 s0 QM σi X) (hTh : CT p l e R s m args below meth c cX5_forget 1 D cA A n0 s0 QM σi RX5 X) : ∀ (σ : Sg), w_X5_forget_0 th Q X σ → RG σ → TY σ → Ext σi σ → kO σ th 5 → JJ p l e R s m args below meth c 1 D cA A n0 s0 QM σ 0 [(0, .ref th)] [] := by
  intro σ h hGσ hYσ hE hth H locs ls hH hl hc
  have B := K.1
  have hl9 := K.2.2.2.2.2.2
  unfold w_X5_forget_0 at h
  refine lv_aload_n B.1 B.2.1 dX5_forget_0 rfl (lv_at hl 0 rfl) ?_
  refine lv_iconst (v := i32 0) B.1 B.2.1 dX5_forget_1 (by decide) ?_
  obtain ⟨σ29, eσ29⟩ : ∃ z, z = pI σ th 3 0 := ⟨_, rfl⟩
  have h := h σ29 eσ29
  refine f_puti B hH hth (by decide) rfl wu_X5 tyX5 tyX5_ok nmX5 3 (by decide) wf_X5_22 rfl (ty := .int) rfl rfl rfl rfl rfl dX5_forget_2 (fun H locs hH => ?_)
  have hH : Hd D cA A s (pI σ th 3 0) H locs := hH
  rw [← eσ29] at hH
  have hGσ29 : RG σ29 := by rw [eσ29]; exact hGσ.pI (by unfold rng; omega)
  have hYσ29 : TY σ29 := by rw [eσ29]; exact hYσ.pI
  have xσ29 : Ext σ σ29 := by rw [eσ29]; exact Ext.pI
  have hc : CB n0 s0 σ29 := by rw [eσ29]; exact hc
  rw [show gc σ = gc σ29 by rw [eσ29]; try rfl, show gs σ = gs σ29 by rw [eσ29]; try rfl]
  refine lv_aload_n B.1 B.2.1 dX5_forget_5 rfl (lv_at hl 0 rfl) ?_
  refine lv_iconst (v := i32 0) B.1 B.2.1 dX5_forget_6 (by decide) ?_
  obtain ⟨σ30, eσ30⟩ : ∃ z, z = pI σ29 th 4 0 := ⟨_, rfl⟩
  have h := h σ30 eσ30
  refine f_puti B hH (hth.up xσ29) (by decide) rfl wu_X5 tyX5 tyX5_ok nmX5 4 (by decide) wf_X5_26 rfl (ty := .int) rfl rfl rfl rfl rfl dX5_forget_7 (fun H locs hH => ?_)
  have hH : Hd D cA A s (pI σ29 th 4 0) H locs := hH
  rw [← eσ30] at hH
  have hGσ30 : RG σ30 := by rw [eσ30]; exact hGσ29.pI (by unfold rng; omega)
  have hYσ30 : TY σ30 := by rw [eσ30]; exact hYσ29.pI
  have xσ30 : Ext σ29 σ30 := by rw [eσ30]; exact Ext.pI
  have hc : CB n0 s0 σ30 := by rw [eσ30]; exact hc
  rw [show gc σ29 = gc σ30 by rw [eσ30]; try rfl, show gs σ29 = gs σ30 by rw [eσ30]; try rfl]
  refine lv_aload_n B.1 B.2.1 dX5_forget_10 rfl (lv_at hl 0 rfl) ?_
  refine lv_lconst (v := 0) B.1 B.2.1 dX5_forget_11 (by decide) ?_
  obtain ⟨σ31, eσ31⟩ : ∃ z, z = pJ σ30 th 5 0 := ⟨_, rfl⟩
  have h := h σ31 eσ31
  refine f_putl B hH (hth.up (xσ29.trans xσ30)) (by decide) rfl wu_X5 tyX5 tyX5_ok nmX5 5 (by decide) wf_X5_29 rfl (ty := .long) rfl rfl rfl rfl rfl dX5_forget_12 (fun H locs hH => ?_)
  have hH : Hd D cA A s (pJ σ30 th 5 0) H locs := hH
  rw [← eσ31] at hH
  have hGσ31 : RG σ31 := by rw [eσ31]; exact hGσ30.pJ
  have hYσ31 : TY σ31 := by rw [eσ31]; exact hYσ30.pJ
  have xσ31 : Ext σ30 σ31 := by rw [eσ31]; exact Ext.pJ
  have hc : CB n0 s0 σ31 := by rw [eσ31]; exact hc
  rw [show gc σ30 = gc σ31 by rw [eσ31]; try rfl, show gs σ30 = gs σ31 by rw [eσ31]; try rfl]
  refine lv_aload_n B.1 B.2.1 dX5_forget_15 rfl (lv_at hl 0 rfl) ?_
  refine lv_iconst (v := i32 0) B.1 B.2.1 dX5_forget_16 (by decide) ?_
  obtain ⟨σ32, eσ32⟩ : ∃ z, z = pI σ31 th 6 0 := ⟨_, rfl⟩
  have h := h σ32 eσ32
  refine f_puti B hH (hth.up (xσ29.trans (xσ30.trans xσ31))) (by decide) rfl wu_X5 tyX5 tyX5_ok nmX5 6 (by decide) wf_X5_33 rfl (ty := .int) rfl rfl rfl rfl rfl dX5_forget_17 (fun H locs hH => ?_)
  have hH : Hd D cA A s (pI σ31 th 6 0) H locs := hH
  rw [← eσ32] at hH
  have hGσ32 : RG σ32 := by rw [eσ32]; exact hGσ31.pI (by unfold rng; omega)
  have hYσ32 : TY σ32 := by rw [eσ32]; exact hYσ31.pI
  have xσ32 : Ext σ31 σ32 := by rw [eσ32]; exact Ext.pI
  have hc : CB n0 s0 σ32 := by rw [eσ32]; exact hc
  rw [show gc σ31 = gc σ32 by rw [eσ32]; try rfl, show gs σ31 = gs σ32 by rw [eσ32]; try rfl]
  refine lv_aload_n B.1 B.2.1 dX5_forget_20 rfl (lv_at hl 0 rfl) ?_
  refine lv_iconst (v := i32 (-1)) B.1 B.2.1 dX5_forget_21 (by decide) ?_
  obtain ⟨σ33, eσ33⟩ : ∃ z, z = pI σ32 th 7 (-1) := ⟨_, rfl⟩
  have h := h σ33 eσ33
  refine f_puti B hH (hth.up (xσ29.trans (xσ30.trans (xσ31.trans xσ32)))) (by decide) rfl wu_X5 tyX5 tyX5_ok nmX5 7 (by decide) wf_X5_36 rfl (ty := .int) rfl rfl rfl rfl rfl dX5_forget_22 (fun H locs hH => ?_)
  have hH : Hd D cA A s (pI σ32 th 7 (-1)) H locs := hH
  rw [← eσ33] at hH
  have hGσ33 : RG σ33 := by rw [eσ33]; exact hGσ32.pI (by unfold rng; omega)
  have hYσ33 : TY σ33 := by rw [eσ33]; exact hYσ32.pI
  have xσ33 : Ext σ32 σ33 := by rw [eσ33]; exact Ext.pI
  have hc : CB n0 s0 σ33 := by rw [eσ33]; exact hc
  rw [show gc σ32 = gc σ33 by rw [eσ33]; try rfl, show gs σ32 = gs σ33 by rw [eσ33]; try rfl]
  refine lv_aload_n B.1 B.2.1 dX5_forget_25 rfl (lv_at hl 0 rfl) ?_
  refine lv_iconst (v := i32 (-1)) B.1 B.2.1 dX5_forget_26 (by decide) ?_
  obtain ⟨σ34, eσ34⟩ : ∃ z, z = pI σ33 th 8 (-1) := ⟨_, rfl⟩
  have h := h σ34 eσ34
  refine f_puti B hH (hth.up (xσ29.trans (xσ30.trans (xσ31.trans (xσ32.trans xσ33))))) (by decide) rfl wu_X5 tyX5 tyX5_ok nmX5 8 (by decide) wf_X5_39 rfl (ty := .int) rfl rfl rfl rfl rfl dX5_forget_27 (fun H locs hH => ?_)
  have hH : Hd D cA A s (pI σ33 th 8 (-1)) H locs := hH
  rw [← eσ34] at hH
  have hGσ34 : RG σ34 := by rw [eσ34]; exact hGσ33.pI (by unfold rng; omega)
  have hYσ34 : TY σ34 := by rw [eσ34]; exact hYσ33.pI
  have xσ34 : Ext σ33 σ34 := by rw [eσ34]; exact Ext.pI
  have hc : CB n0 s0 σ34 := by rw [eσ34]; exact hc
  rw [show gc σ33 = gc σ34 by rw [eσ34]; try rfl, show gs σ33 = gs σ34 by rw [eσ34]; try rfl]
  refine lv_aload_n B.1 B.2.1 dX5_forget_30 rfl (lv_at hl 0 rfl) ?_
  refine lv_iconst (v := i32 0) B.1 B.2.1 dX5_forget_31 (by decide) ?_
  obtain ⟨σ35, eσ35⟩ : ∃ z, z = pI σ34 th 9 0 := ⟨_, rfl⟩
  have h := h σ35 eσ35
  refine f_puti B hH (hth.up (xσ29.trans (xσ30.trans (xσ31.trans (xσ32.trans (xσ33.trans xσ34)))))) (by decide) rfl wu_X5 tyX5 tyX5_ok nmX5 9 (by decide) wf_X5_42 rfl (ty := .int) rfl rfl rfl rfl rfl dX5_forget_32 (fun H locs hH => ?_)
  have hH : Hd D cA A s (pI σ34 th 9 0) H locs := hH
  rw [← eσ35] at hH
  have hGσ35 : RG σ35 := by rw [eσ35]; exact hGσ34.pI (by unfold rng; omega)
  have hYσ35 : TY σ35 := by rw [eσ35]; exact hYσ34.pI
  have xσ35 : Ext σ34 σ35 := by rw [eσ35]; exact Ext.pI
  have hc : CB n0 s0 σ35 := by rw [eσ35]; exact hc
  rw [show gc σ34 = gc σ35 by rw [eσ35]; try rfl, show gs σ34 = gs σ35 by rw [eσ35]; try rfl]
  refine lv_aload_n B.1 B.2.1 dX5_forget_35 rfl (lv_at hl 0 rfl) ?_
  refine lv_iconst (v := i32 0) B.1 B.2.1 dX5_forget_36 (by decide) ?_
  obtain ⟨σ36, eσ36⟩ : ∃ z, z = pI σ35 th 10 0 := ⟨_, rfl⟩
  have h := h σ36 eσ36
  refine f_puti B hH (hth.up (xσ29.trans (xσ30.trans (xσ31.trans (xσ32.trans (xσ33.trans (xσ34.trans xσ35))))))) (by decide) rfl wu_X5 tyX5 tyX5_ok nmX5 10 (by decide) wf_X5_45 rfl (ty := .int) rfl rfl rfl rfl rfl dX5_forget_37 (fun H locs hH => ?_)
  have hH : Hd D cA A s (pI σ35 th 10 0) H locs := hH
  rw [← eσ36] at hH
  have hGσ36 : RG σ36 := by rw [eσ36]; exact hGσ35.pI (by unfold rng; omega)
  have hYσ36 : TY σ36 := by rw [eσ36]; exact hYσ35.pI
  have xσ36 : Ext σ35 σ36 := by rw [eσ36]; exact Ext.pI
  have hc : CB n0 s0 σ36 := by rw [eσ36]; exact hc
  rw [show gc σ35 = gc σ36 by rw [eσ36]; try rfl, show gs σ35 = gs σ36 by rw [eσ36]; try rfl]
  refine lv_aload_n B.1 B.2.1 dX5_forget_40 rfl (lv_at hl 0 rfl) ?_
  refine lv_iconst (v := i32 1) B.1 B.2.1 dX5_forget_41 (by decide) ?_
  obtain ⟨σ37, eσ37⟩ : ∃ z, z = pI σ36 th 11 1 := ⟨_, rfl⟩
  have h := h σ37 eσ37
  refine f_puti B hH (hth.up (xσ29.trans (xσ30.trans (xσ31.trans (xσ32.trans (xσ33.trans (xσ34.trans (xσ35.trans xσ36)))))))) (by decide) rfl wu_X5 tyX5 tyX5_ok nmX5 11 (by decide) wf_X5_48 rfl (ty := .int) rfl rfl rfl rfl rfl dX5_forget_42 (fun H locs hH => ?_)
  have hH : Hd D cA A s (pI σ36 th 11 1) H locs := hH
  rw [← eσ37] at hH
  have hGσ37 : RG σ37 := by rw [eσ37]; exact hGσ36.pI (by unfold rng; omega)
  have hYσ37 : TY σ37 := by rw [eσ37]; exact hYσ36.pI
  have xσ37 : Ext σ36 σ37 := by rw [eσ37]; exact Ext.pI
  have hc : CB n0 s0 σ37 := by rw [eσ37]; exact hc
  rw [show gc σ36 = gc σ37 by rw [eσ37]; try rfl, show gs σ36 = gs σ37 by rw [eσ37]; try rfl]
  refine lv_aload_n B.1 B.2.1 dX5_forget_45 rfl (lv_at hl 0 rfl) ?_
  refine lv_iconst (v := i32 1) B.1 B.2.1 dX5_forget_46 (by decide) ?_
  obtain ⟨σ38, eσ38⟩ : ∃ z, z = pI σ37 th 12 1 := ⟨_, rfl⟩
  have h := h σ38 eσ38
  refine f_puti B hH (hth.up (xσ29.trans (xσ30.trans (xσ31.trans (xσ32.trans (xσ33.trans (xσ34.trans (xσ35.trans (xσ36.trans xσ37))))))))) (by decide) rfl wu_X5 tyX5 tyX5_ok nmX5 12 (by decide) wf_X5_51 rfl (ty := .int) rfl rfl rfl rfl rfl dX5_forget_47 (fun H locs hH => ?_)
  have hH : Hd D cA A s (pI σ37 th 12 1) H locs := hH
  rw [← eσ38] at hH
  have hGσ38 : RG σ38 := by rw [eσ38]; exact hGσ37.pI (by unfold rng; omega)
  have hYσ38 : TY σ38 := by rw [eσ38]; exact hYσ37.pI
  have xσ38 : Ext σ37 σ38 := by rw [eσ38]; exact Ext.pI
  have hc : CB n0 s0 σ38 := by rw [eσ38]; exact hc
  rw [show gc σ37 = gc σ38 by rw [eσ38]; try rfl, show gs σ37 = gs σ38 by rw [eσ38]; try rfl]
  refine lv_aload_n B.1 B.2.1 dX5_forget_50 rfl (lv_at hl 0 rfl) ?_
  refine lv_iconst (v := i32 0) B.1 B.2.1 dX5_forget_51 (by decide) ?_
  obtain ⟨σ39, eσ39⟩ : ∃ z, z = pI σ38 th 13 0 := ⟨_, rfl⟩
  have h := h σ39 eσ39
  refine f_puti B hH (hth.up (xσ29.trans (xσ30.trans (xσ31.trans (xσ32.trans (xσ33.trans (xσ34.trans (xσ35.trans (xσ36.trans (xσ37.trans xσ38)))))))))) (by decide) rfl wu_X5 tyX5 tyX5_ok nmX5 13 (by decide) wf_X5_54 rfl (ty := .int) rfl rfl rfl rfl rfl dX5_forget_52 (fun H locs hH => ?_)
  have hH : Hd D cA A s (pI σ38 th 13 0) H locs := hH
  rw [← eσ39] at hH
  have hGσ39 : RG σ39 := by rw [eσ39]; exact hGσ38.pI (by unfold rng; omega)
  have hYσ39 : TY σ39 := by rw [eσ39]; exact hYσ38.pI
  have xσ39 : Ext σ38 σ39 := by rw [eσ39]; exact Ext.pI
  have hc : CB n0 s0 σ39 := by rw [eσ39]; exact hc
  rw [show gc σ38 = gc σ39 by rw [eσ39]; try rfl, show gs σ38 = gs σ39 by rw [eσ39]; try rfl]
  refine lv_aload_n B.1 B.2.1 dX5_forget_55 rfl (lv_at hl 0 rfl) ?_
  refine lv_iconst (v := i32 0) B.1 B.2.1 dX5_forget_56 (by decide) ?_
  obtain ⟨σ40, eσ40⟩ : ∃ z, z = pI σ39 th 14 0 := ⟨_, rfl⟩
  have h := h σ40 eσ40
  refine f_puti B hH (hth.up (xσ29.trans (xσ30.trans (xσ31.trans (xσ32.trans (xσ33.trans (xσ34.trans (xσ35.trans (xσ36.trans (xσ37.trans (xσ38.trans xσ39))))))))))) (by decide) rfl wu_X5 tyX5 tyX5_ok nmX5 14 (by decide) wf_X5_57 rfl (ty := .int) rfl rfl rfl rfl rfl dX5_forget_57 (fun H locs hH => ?_)
  have hH : Hd D cA A s (pI σ39 th 14 0) H locs := hH
  rw [← eσ40] at hH
  have hGσ40 : RG σ40 := by rw [eσ40]; exact hGσ39.pI (by unfold rng; omega)
  have hYσ40 : TY σ40 := by rw [eσ40]; exact hYσ39.pI
  have xσ40 : Ext σ39 σ40 := by rw [eσ40]; exact Ext.pI
  have hc : CB n0 s0 σ40 := by rw [eσ40]; exact hc
  rw [show gc σ39 = gc σ40 by rw [eσ40]; try rfl, show gs σ39 = gs σ40 by rw [eσ40]; try rfl]
  refine lv_aload_n B.1 B.2.1 dX5_forget_60 rfl (lv_at hl 0 rfl) ?_
  refine lv_iconst (v := i32 0) B.1 B.2.1 dX5_forget_61 (by decide) ?_
  obtain ⟨σ41, eσ41⟩ : ∃ z, z = pI σ40 th 15 0 := ⟨_, rfl⟩
  have h := h σ41 eσ41
  refine f_puti B hH (hth.up (xσ29.trans (xσ30.trans (xσ31.trans (xσ32.trans (xσ33.trans (xσ34.trans (xσ35.trans (xσ36.trans (xσ37.trans (xσ38.trans (xσ39.trans xσ40)))))))))))) (by decide) rfl wu_X5 tyX5 tyX5_ok nmX5 15 (by decide) wf_X5_60 rfl (ty := .int) rfl rfl rfl rfl rfl dX5_forget_62 (fun H locs hH => ?_)
  have hH : Hd D cA A s (pI σ40 th 15 0) H locs := hH
  rw [← eσ41] at hH
  have hGσ41 : RG σ41 := by rw [eσ41]; exact hGσ40.pI (by unfold rng; omega)
  have hYσ41 : TY σ41 := by rw [eσ41]; exact hYσ40.pI
  have xσ41 : Ext σ40 σ41 := by rw [eσ41]; exact Ext.pI
  have hc : CB n0 s0 σ41 := by rw [eσ41]; exact hc
  rw [show gc σ40 = gc σ41 by rw [eσ41]; try rfl, show gs σ40 = gs σ41 by rw [eσ41]; try rfl]
  refine lv_aload_n B.1 B.2.1 dX5_forget_65 rfl (lv_at hl 0 rfl) ?_
  refine lv_iconst (v := i32 0) B.1 B.2.1 dX5_forget_66 (by decide) ?_
  obtain ⟨σ42, eσ42⟩ : ∃ z, z = pI σ41 th 16 0 := ⟨_, rfl⟩
  have h := h σ42 eσ42
  refine f_puti B hH (hth.up (xσ29.trans (xσ30.trans (xσ31.trans (xσ32.trans (xσ33.trans (xσ34.trans (xσ35.trans (xσ36.trans (xσ37.trans (xσ38.trans (xσ39.trans (xσ40.trans xσ41))))))))))))) (by decide) rfl wu_X5 tyX5 tyX5_ok nmX5 16 (by decide) wf_X5_63 rfl (ty := .int) rfl rfl rfl rfl rfl dX5_forget_67 (fun H locs hH => ?_)
  have hH : Hd D cA A s (pI σ41 th 16 0) H locs := hH
  rw [← eσ42] at hH
  have hGσ42 : RG σ42 := by rw [eσ42]; exact hGσ41.pI (by unfold rng; omega)
  have hYσ42 : TY σ42 := by rw [eσ42]; exact hYσ41.pI
  have xσ42 : Ext σ41 σ42 := by rw [eσ42]; exact Ext.pI
  have hc : CB n0 s0 σ42 := by rw [eσ42]; exact hc
  rw [show gc σ41 = gc σ42 by rw [eσ42]; try rfl, show gs σ41 = gs σ42 by rw [eσ42]; try rfl]
  exact hQ _ _ _ _ _ dX5_forget_70 hH hc h hGσ42 hYσ42 ((((((((((((((hE.trans xσ29).trans xσ30).trans xσ31).trans xσ32).trans xσ33).trans xσ34).trans xσ35).trans xσ36).trans xσ37).trans xσ38).trans xσ39).trans xσ40).trans xσ41).trans xσ42)
theorem ok_X5_forget (hl0 : l.stackTraces = false) (hT : TyC cA tys) {Q : Sg → Unit → Prop} {X : Sg → String → Prop} (σ : Sg) (th : Nat) (hth : kO σ th 5) (hG : RG σ) (hY : TY σ) (h : wp_X5_forget th σ Q X) : Ok l D cA tys A yX5_forget (.code yX5_forget cX5_forget 1 none) 0 0 [.ref th] σ (QcV σ Q) (QxC σ X) := by
  unfold wp_X5_forget at h
  exact oc_V hl0 (by decide) (by exact Nat.le_of_ble_eq_true rfl) hT (fun p e R s m args below meth c K hQ hX hTh hin9 H locs ls hH hl hc => a_X5_forget_0 K hQ hX hTh σ h hG hY (Ext.rfl' σ) hth H locs ls hH (lv_sub (l' := [(0, .ref th)]) hl [0] rfl) hc)
theorem dX6_statementHead_0 : decode cX6_statementHead 0 = .ok (.aload_n 0, 1) := by decide +kernel
theorem dX6_statementHead_1 : decode cX6_statementHead 1 = .ok (.bipush 17, 2) := by decide +kernel
theorem dX6_statementHead_3 : decode cX6_statementHead 3 = .ok (.invokevirtual 66, 3) := by decide +kernel
theorem dX6_statementHead_6 : decode cX6_statementHead 6 = .ok (.istore_n 1, 1) := by decide +kernel
theorem dX6_statementHead_7 : decode cX6_statementHead 7 = .ok (.iload_n 1, 1) := by decide +kernel
theorem dX6_statementHead_8 : decode cX6_statementHead 8 = .ok (.ifCond .ne 15, 3) := by decide +kernel
theorem dX6_statementHead_11 : decode cX6_statementHead 11 = .ok (.aload_n 0, 1) := by decide +kernel
theorem dX6_statementHead_12 : decode cX6_statementHead 12 = .ok (.getfield 43, 3) := by decide +kernel
theorem dX6_statementHead_15 : decode cX6_statementHead 15 = .ok (.iconst 1, 1) := by decide +kernel
theorem dX6_statementHead_16 : decode cX6_statementHead 16 = .ok (.if_icmp .eq 7, 3) := by decide +kernel
theorem dX6_statementHead_19 : decode cX6_statementHead 19 = .ok (.aload_n 0, 1) := by decide +kernel
theorem dX6_statementHead_20 : decode cX6_statementHead 20 = .ok (.invokevirtual 70, 3) := by decide +kernel
theorem dX6_statementHead_23 : decode cX6_statementHead 23 = .ok (.iload_n 1, 1) := by decide +kernel
theorem dX6_statementHead_24 : decode cX6_statementHead 24 = .ok (.ifCond .ne 24, 3) := by decide +kernel
theorem dX6_statementHead_27 : decode cX6_statementHead 27 = .ok (.aload_n 0, 1) := by decide +kernel
theorem dX6_statementHead_28 : decode cX6_statementHead 28 = .ok (.getfield 31, 3) := by decide +kernel
theorem dX6_statementHead_31 : decode cX6_statementHead 31 = .ok (.aload_n 0, 1) := by decide +kernel
theorem dX6_statementHead_32 : decode cX6_statementHead 32 = .ok (.getfield 73, 3) := by decide +kernel
theorem dX6_statementHead_35 : decode cX6_statementHead 35 = .ok (.invokevirtual 77, 3) := by decide +kernel
theorem dX6_statementHead_38 : decode cX6_statementHead 38 = .ok (.iconst (-1), 1) := by decide +kernel
theorem dX6_statementHead_39 : decode cX6_statementHead 39 = .ok (.if_icmp .eq 9, 3) := by decide +kernel
theorem dX6_statementHead_42 : decode cX6_statementHead 42 = .ok (.aload_n 0, 1) := by decide +kernel
theorem dX6_statementHead_43 : decode cX6_statementHead 43 = .ok (.bipush 6, 2) := by decide +kernel
theorem dX6_statementHead_45 : decode cX6_statementHead 45 = .ok (.invokevirtual 81, 3) := by decide +kernel
theorem dX6_statementHead_48 : decode cX6_statementHead 48 = .ok (.iload_n 1, 1) := by decide +kernel
theorem dX6_statementHead_49 : decode cX6_statementHead 49 = .ok (.ifCond .eq 20, 3) := by decide +kernel
theorem dX6_statementHead_52 : decode cX6_statementHead 52 = .ok (.aload_n 0, 1) := by decide +kernel
theorem dX6_statementHead_53 : decode cX6_statementHead 53 = .ok (.getfield 31, 3) := by decide +kernel
theorem dX6_statementHead_56 : decode cX6_statementHead 56 = .ok (.getfield 46, 3) := by decide +kernel
theorem dX6_statementHead_59 : decode cX6_statementHead 59 = .ok (.iconst 4, 1) := by decide +kernel
theorem dX6_statementHead_60 : decode cX6_statementHead 60 = .ok (.if_icmp .ne 9, 3) := by decide +kernel
theorem dX6_statementHead_63 : decode cX6_statementHead 63 = .ok (.aload_n 0, 1) := by decide +kernel
theorem dX6_statementHead_64 : decode cX6_statementHead 64 = .ok (.bipush 8, 2) := by decide +kernel
theorem dX6_statementHead_66 : decode cX6_statementHead 66 = .ok (.invokevirtual 81, 3) := by decide +kernel
theorem dX6_statementHead_69 : decode cX6_statementHead 69 = .ok (.aload_n 0, 1) := by decide +kernel
theorem dX6_statementHead_70 : decode cX6_statementHead 70 = .ok (.getfield 31, 3) := by decide +kernel
theorem dX6_statementHead_73 : decode cX6_statementHead 73 = .ok (.getfield 61, 3) := by decide +kernel
theorem dX6_statementHead_76 : decode cX6_statementHead 76 = .ok (.bipush 16, 2) := by decide +kernel
theorem dX6_statementHead_78 : decode cX6_statementHead 78 = .ok (.if_icmp .ne 9, 3) := by decide +kernel
theorem dX6_statementHead_81 : decode cX6_statementHead 81 = .ok (.aload_n 0, 1) := by decide +kernel
theorem dX6_statementHead_82 : decode cX6_statementHead 82 = .ok (.bipush 9, 2) := by decide +kernel
theorem dX6_statementHead_84 : decode cX6_statementHead 84 = .ok (.invokevirtual 81, 3) := by decide +kernel
theorem dX6_statementHead_87 : decode cX6_statementHead 87 = .ok (.aload_n 0, 1) := by decide +kernel
theorem dX6_statementHead_88 : decode cX6_statementHead 88 = .ok (.aload_n 0, 1) := by decide +kernel
theorem dX6_statementHead_89 : decode cX6_statementHead 89 = .ok (.getfield 31, 3) := by decide +kernel
theorem dX6_statementHead_92 : decode cX6_statementHead 92 = .ok (.getfield 84, 3) := by decide +kernel
theorem dX6_statementHead_95 : decode cX6_statementHead 95 = .ok (.aload_n 0, 1) := by decide +kernel
theorem dX6_statementHead_96 : decode cX6_statementHead 96 = .ok (.getfield 31, 3) := by decide +kernel
theorem dX6_statementHead_99 : decode cX6_statementHead 99 = .ok (.getfield 61, 3) := by decide +kernel
theorem dX6_statementHead_102 : decode cX6_statementHead 102 = .ok (.aaload, 1) := by decide +kernel
theorem dX6_statementHead_103 : decode cX6_statementHead 103 = .ok (.putfield 88, 3) := by decide +kernel
theorem dX6_statementHead_106 : decode cX6_statementHead 106 = .ok (.aload_n 0, 1) := by decide +kernel
theorem dX6_statementHead_107 : decode cX6_statementHead 107 = .ok (.getfield 88, 3) := by decide +kernel
theorem dX6_statementHead_110 : decode cX6_statementHead 110 = .ok (.invokevirtual 92, 3) := by decide +kernel
theorem dX6_statementHead_113 : decode cX6_statementHead 113 = .ok (.iload_n 1, 1) := by decide +kernel
theorem dX6_statementHead_114 : decode cX6_statementHead 114 = .ok (.ifCond .ne 24, 3) := by decide +kernel
theorem dX6_statementHead_117 : decode cX6_statementHead 117 = .ok (.aload_n 0, 1) := by decide +kernel
theorem dX6_statementHead_118 : decode cX6_statementHead 118 = .ok (.getfield 88, 3) := by decide +kernel
theorem dX6_statementHead_121 : decode cX6_statementHead 121 = .ok (.aload_n 0, 1) := by decide +kernel
theorem dX6_statementHead_122 : decode cX6_statementHead 122 = .ok (.getfield 73, 3) := by decide +kernel
theorem dX6_statementHead_125 : decode cX6_statementHead 125 = .ok (.putfield 95, 3) := by decide +kernel
theorem dX6_statementHead_128 : decode cX6_statementHead 128 = .ok (.aload_n 0, 1) := by decide +kernel
theorem dX6_statementHead_129 : decode cX6_statementHead 129 = .ok (.invokevirtual 40, 3) := by decide +kernel
theorem dX6_statementHead_132 : decode cX6_statementHead 132 = .ok (.aload_n 0, 1) := by decide +kernel
theorem dX6_statementHead_133 : decode cX6_statementHead 133 = .ok (.bipush 61, 2) := by decide +kernel
theorem dX6_statementHead_135 : decode cX6_statementHead 135 = .ok (.invokevirtual 57, 3) := by decide +kernel
theorem dX6_statementHead_138 : decode cX6_statementHead 138 = .ok (.iload_n 1, 1) := by decide +kernel
theorem dX6_statementHead_139 : decode cX6_statementHead 139 = .ok (.ireturn, 1) := by decide +kernel
set_option maxRecDepth 20000 in
theorem a_X6_statementHead_138 {Q : Sg → Int → Prop} {X : Sg → String → Prop} {th : Nat} (K : MD l R p s m args c cX6_statementHead 2 RX6 D cA tys A n0 s0 9 153 []) (hQ : CQZ p l e R s m args below meth c cX6_statementHead D cA A n0 s0 QM σi Q) (hX : CX p l e R s m args below meth c 2 D cA A n0 s0 QM σi X) (hTh : CT p l e R s m args below meth c cX6_statementHead 2 D cA A n0 s0 QM σi RX6 X) : ∀ (σ : Sg) (v1 : Int) (g1 : rng v1), w_X6_statementHead_138 th Q X σ v1 → RG σ → TY σ → Ext σi σ → kO σ th 6 → JJ p l e R s m args below meth c 2 D cA A n0 s0 QM σ 138 [(0, .ref th), (1, .int (i32 v1))] [] := by
  intro σ v1 g1 h hGσ hYσ hE hth H locs ls hH hl hc
  have B := K.1
  have hl9 := K.2.2.2.2.2.2
  unfold w_X6_statementHead_138 at h
  refine lv_iload_n B.1 B.2.1 dX6_statementHead_138 rfl (lv_at hl 1 rfl) ?_
  obtain ⟨qz, h⟩ := h
  exact hQ _ _ _ _ _ _ g1 qz dX6_statementHead_139 hH hc h hGσ hYσ hE
set_option maxRecDepth 20000 in
theorem a_X6_statementHead_117 {Q : Sg → Int → Prop} {X : Sg → String → Prop} {th : Nat} (K : MD l R p s m args c cX6_statementHead 2 RX6 D cA tys A n0 s0 9 153 []) (hQ : CQZ p l e R s m args below meth c cX6_statementHead D cA A n0 s0 QM σi Q) (hX : CX p l e R s m args below meth c 2 D cA A n0 s0 QM σi X) (hTh : CT p l e R s m args below meth c cX6_statementHead 2 D cA A n0 s0 QM σi RX6 X) : ∀ (σ : Sg) (v1 : Int) (g1 : rng v1), w_X6_statementHead_117 th Q X σ v1 → RG σ → TY σ → Ext σi σ → kO σ th 6 → JJ p l e R s m args below meth c 2 D cA A n0 s0 QM σ 117 [(0, .ref th), (1, .int (i32 v1))] [] := by
  intro σ v1 g1 h hGσ hYσ hE hth H locs ls hH hl hc
  have B := K.1
  have hl9 := K.2.2.2.2.2.2
  unfold w_X6_statementHead_117 at h
  refine lv_aload_n B.1 B.2.1 dX6_statementHead_117 rfl (lv_at hl 0 rfl) ?_
  refine f_getp B hH hth (by decide) rfl wu_X6 8 (by decide) wf_X6_88 rfl rfl dX6_statementHead_118 ?_
  refine lv_aload_n B.1 B.2.1 dX6_statementHead_121 rfl (lv_at hl 0 rfl) ?_
  refine f_getl B hH hth (by decide) rfl wu_X6 4 (by decide) wf_X6_73 rfl rfl dX6_statementHead_122 ?_
  obtain ⟨a41, ea41, h⟩ := h
  have ka41 : kO σ a41 5 := (hYσ.get hth (by decide)) a41 ea41
  have h := h ka41
  obtain ⟨σ42, eσ42⟩ : ∃ z, z = pJ σ a41 5 (gJ σ th 4) := ⟨_, rfl⟩
  have h := h σ42 eσ42
  refine W.eq (g2 := F0 m 125 ls [.long (gJ σ th 4), .ref a41]) (by rw [ea41]; rfl) ?_
  refine f_putl B hH ka41 (by decide) rfl wu_X5 tyX5 tyX5_ok nmX5 5 (by decide) wf_X6_95 rfl (ty := .long) rfl rfl rfl rfl rfl dX6_statementHead_125 (fun H locs hH => ?_)
  have hH : Hd D cA A s (pJ σ a41 5 (gJ σ th 4)) H locs := hH
  rw [← eσ42] at hH
  have hGσ42 : RG σ42 := by rw [eσ42]; exact hGσ.pJ
  have hYσ42 : TY σ42 := by rw [eσ42]; exact hYσ.pJ
  have xσ42 : Ext σ σ42 := by rw [eσ42]; exact Ext.pJ
  have hc : CB n0 s0 σ42 := by rw [eσ42]; exact hc
  rw [show gc σ = gc σ42 by rw [eσ42]; try rfl, show gs σ = gs σ42 by rw [eσ42]; try rfl]
  refine lv_aload_n B.1 B.2.1 dX6_statementHead_128 rfl (lv_at hl 0 rfl) ?_
  refine W.eq (g2 := F0 m 129 ls [.ref th]) (rfl) ?_
  refine c_V B hH hl hc K.2.2.1 (C := RX6) (T := TX6) (N := 9) (ci := 6) (As := []) (ok_X6_next hl9 K.2.1 σ42 th (hth.up xσ42) hGσ42 hYσ42 h) wc_X6_40 0 hd_X6_next ⟨Nat.le_trans (Nat.le_of_ble_eq_true rfl) K.2.2.2.1, Nat.le_trans (Nat.le_of_ble_eq_true rfl) K.2.2.2.2.1⟩ (hth.up xσ42).1 (hth.up xσ42).2 (by decide) rfl rfl (rest := []) rfl (Nat.le_of_ble_eq_true rfl) dX6_statementHead_129 (fun σ43 w hq => ?_) (fun σ9 E9 hx9 => hX σ9 E9 _ _ _ (tb_out K.2.2.2.2.2.1 rfl) hx9.1 hx9.2.1 hx9.2.2.1 ((hE.trans xσ42).trans hx9.2.2.2))
  obtain ⟨rfl, h, hGσ43, hYσ43, xσ43⟩ := hq
  have h := h xσ43
  intro H locs ls hH hl hc
  refine W.eq (g2 := F0 m 132 ls []) (rfl) ?_
  try dsimp only at h
  refine lv_aload_n B.1 B.2.1 dX6_statementHead_132 rfl (lv_at hl 0 rfl) ?_
  refine lv_bipush (v := i32 61) B.1 B.2.1 dX6_statementHead_133 (by decide) ?_
  refine W.eq (g2 := F0 m 135 ls [.int (i32 61), .ref th]) (rfl) ?_
  refine c_V B hH hl hc K.2.2.1 (C := RX6) (T := TX6) (N := 9) (ci := 6) (As := [.int (i32 61)]) (ok_X6_wantSign hl9 K.2.1 σ43 th 61 (by unfold rng; omega) (hth.up (xσ42.trans xσ43)) hGσ43 hYσ43 h) wc_X6_57 1 hd_X6_wantSign ⟨Nat.le_trans (Nat.le_of_ble_eq_true rfl) K.2.2.2.1, Nat.le_trans (Nat.le_of_ble_eq_true rfl) K.2.2.2.2.1⟩ (hth.up (xσ42.trans xσ43)).1 (hth.up (xσ42.trans xσ43)).2 (by decide) rfl rfl (rest := []) rfl (Nat.le_of_ble_eq_true rfl) dX6_statementHead_135 (fun σ44 w hq => ?_) (fun σ9 E9 hx9 => hX σ9 E9 _ _ _ (tb_out K.2.2.2.2.2.1 rfl) hx9.1 hx9.2.1 hx9.2.2.1 (((hE.trans xσ42).trans xσ43).trans hx9.2.2.2))
  obtain ⟨rfl, h, hGσ44, hYσ44, xσ44⟩ := hq
  have h := h xσ44
  intro H locs ls hH hl hc
  refine W.eq (g2 := F0 m 138 ls []) (rfl) ?_
  try dsimp only at h
  exact a_X6_statementHead_138 K hQ hX hTh _ _ g1 h hGσ44 hYσ44 (((hE.trans xσ42).trans xσ43).trans xσ44) (hth.up (xσ42.trans (xσ43.trans xσ44))) _ _ _ hH (lv_sub (l' := [(0, .ref th), (1, .int (i32 v1))]) hl [0, 1] rfl) hc
set_option maxRecDepth 20000 in
theorem a_X6_statementHead_87 {Q : Sg → Int → Prop} {X : Sg → String → Prop} {th : Nat} (K : MD l R p s m args c cX6_statementHead 2 RX6 D cA tys A n0 s0 9 153 []) (hQ : CQZ p l e R s m args below meth c cX6_statementHead D cA A n0 s0 QM σi Q) (hX : CX p l e R s m args below meth c 2 D cA A n0 s0 QM σi X) (hTh : CT p l e R s m args below meth c cX6_statementHead 2 D cA A n0 s0 QM σi RX6 X) : ∀ (σ : Sg) (v1 : Int) (g1 : rng v1), w_X6_statementHead_87 th Q X σ v1 → RG σ → TY σ → Ext σi σ → kO σ th 6 → JJ p l e R s m args below meth c 2 D cA A n0 s0 QM σ 87 [(0, .ref th), (1, .int (i32 v1))] [] := by
  intro σ v1 g1 h hGσ hYσ hE hth H locs ls hH hl hc
  have B := K.1
  have hl9 := K.2.2.2.2.2.2
  unfold w_X6_statementHead_87 at h
  refine lv_aload_n B.1 B.2.1 dX6_statementHead_87 rfl (lv_at hl 0 rfl) ?_
  refine lv_aload_n B.1 B.2.1 dX6_statementHead_88 rfl (lv_at hl 0 rfl) ?_
  refine f_getp B hH hth (by decide) rfl wu_X6 7 (by decide) wf_X6_31 rfl rfl dX6_statementHead_89 ?_
  obtain ⟨a45, ea45, h⟩ := h
  have ka45 : kO σ a45 4 := (hYσ.get hth (by decide)) a45 ea45
  have h := h ka45
  refine W.eq (g2 := F0 m 92 ls [.ref a45, .ref th]) (by rw [ea45]; rfl) ?_
  refine f_getp B hH ka45 (by decide) rfl wu_X4 0 (by decide) wf_X6_84 rfl rfl dX6_statementHead_92 ?_
  refine lv_aload_n B.1 B.2.1 dX6_statementHead_95 rfl (lv_at hl 0 rfl) ?_
  refine f_getp B hH hth (by decide) rfl wu_X6 7 (by decide) wf_X6_31 rfl rfl dX6_statementHead_96 ?_
  refine W.eq (g2 := F0 m 99 ls [.ref a45, va_rf (gP σ a45 0), .ref th]) (by rw [ea45]; rfl) ?_
  refine f_geti B hH ka45 (by decide) rfl wu_X4 1 (by decide) wf_X6_61 rfl rfl dX6_statementHead_99 ?_
  obtain ⟨a46, ea46, h⟩ := h
  have ka46 : kO σ a46 115 := (hYσ.get ka45 (by decide)) a46 ea46
  have h := h ka46
  obtain ⟨q1, h⟩ := h
  refine W.eq (g2 := F0 m 102 ls [.int (i32 (gI σ a45 1)), .ref a46, .ref th]) (by rw [ea46]; rfl) ?_
  refine y_aald B hH (t0 := 6) ka46 (by decide) K.2.1.2.2.2.1 q1 (hYσ.2 _) dX6_statementHead_102 ?_
  obtain ⟨σ47, eσ47⟩ : ∃ z, z = pP σ th 8 (gP σ a46 (gI σ a45 1).toNat) := ⟨_, rfl⟩
  have h := h σ47 eσ47
  refine W.eq (g2 := F0 m 103 ls [va_rf (gP σ a46 (gI σ a45 1).toNat), .ref th]) (rfl) ?_
  refine f_putp B hH hth (by decide) rfl wu_X6 tyX6 tyX6_ok nmX6 8 (by decide) wf_X6_88 rfl (r := (gP σ a46 (gI σ a45 1).toNat)) (ty := .object "StreamHouse$Op") rfl rfl rfl (nrO _ _) (ftO _ _) dX6_statementHead_103 (fun H locs hH => ?_)
  have hH : Hd D cA A s (pP σ th 8 (gP σ a46 (gI σ a45 1).toNat)) H locs := hH
  rw [← eσ47] at hH
  have hGσ47 : RG σ47 := by rw [eσ47]; exact hGσ.pP
  have hYσ47 : TY σ47 := by rw [eσ47]; exact hYσ.pP hth (d := 5) (by decide) (hYσ.get ka46 rfl)
  have xσ47 : Ext σ σ47 := by rw [eσ47]; exact Ext.pP
  have hc : CB n0 s0 σ47 := by rw [eσ47]; exact hc
  rw [show gc σ = gc σ47 by rw [eσ47]; try rfl, show gs σ = gs σ47 by rw [eσ47]; try rfl]
  refine lv_aload_n B.1 B.2.1 dX6_statementHead_106 rfl (lv_at hl 0 rfl) ?_
  refine f_getp B hH (hth.up xσ47) (by decide) rfl wu_X6 8 (by decide) wf_X6_88 rfl rfl dX6_statementHead_107 ?_
  obtain ⟨a49, ea49, h⟩ := h
  have ka49 : kO σ47 a49 5 := (hYσ47.get (hth.up xσ47) (by decide)) a49 ea49
  have h := h ka49
  refine W.eq (g2 := F0 m 110 ls [.ref a49]) (by rw [ea49]; rfl) ?_
  refine c_V B hH hl hc K.2.2.1 (C := RX5) (T := TX5) (N := 17) (ci := 5) (As := []) (ok_X5_forget hl9 K.2.1 σ47 a49 ka49 hGσ47 hYσ47 h) wc_X6_92 0 hd_X5_forget ⟨Nat.le_trans (Nat.le_of_ble_eq_true rfl) K.2.2.2.1, Nat.le_trans (Nat.le_of_ble_eq_true rfl) K.2.2.2.2.1⟩ ka49.1 ka49.2 (by decide) rfl rfl (rest := []) rfl (Nat.le_of_ble_eq_true rfl) dX6_statementHead_110 (fun σ48 w hq => ?_) (fun σ9 E9 hx9 => hX σ9 E9 _ _ _ (tb_out K.2.2.2.2.2.1 rfl) hx9.1 hx9.2.1 hx9.2.2.1 ((hE.trans xσ47).trans hx9.2.2.2))
  obtain ⟨rfl, h, hGσ48, hYσ48, xσ48⟩ := hq
  have h := h xσ48
  intro H locs ls hH hl hc
  refine W.eq (g2 := F0 m 113 ls []) (rfl) ?_
  try dsimp only at h
  refine lv_iload_n B.1 B.2.1 dX6_statementHead_113 rfl (lv_at hl 1 rfl) ?_
  refine lv_if_ne (tgt := 138) B.1 B.2.1 dX6_statementHead_114 (by decide) (fun h9 => ?_) (fun h9 => ?_)
  · rw [if_pos (fun q => h9 ((z_eq g1).mpr q))] at h
    exact a_X6_statementHead_138 K hQ hX hTh _ _ g1 h hGσ48 hYσ48 ((hE.trans xσ47).trans xσ48) (hth.up (xσ47.trans xσ48)) _ _ _ hH (lv_sub (l' := [(0, .ref th), (1, .int (i32 v1))]) hl [0, 1] rfl) hc
  · rw [if_neg (fun q => q ((z_eq g1).mp h9))] at h
    exact a_X6_statementHead_117 K hQ hX hTh _ _ g1 h hGσ48 hYσ48 ((hE.trans xσ47).trans xσ48) (hth.up (xσ47.trans xσ48)) _ _ _ hH (lv_sub (l' := [(0, .ref th), (1, .int (i32 v1))]) hl [0, 1] rfl) hc
set_option maxRecDepth 20000 in
theorem a_X6_statementHead_81 {Q : Sg → Int → Prop} {X : Sg → String → Prop} {th : Nat} (K : MD l R p s m args c cX6_statementHead 2 RX6 D cA tys A n0 s0 9 153 []) (hQ : CQZ p l e R s m args below meth c cX6_statementHead D cA A n0 s0 QM σi Q) (hX : CX p l e R s m args below meth c 2 D cA A n0 s0 QM σi X) (hTh : CT p l e R s m args below meth c cX6_statementHead 2 D cA A n0 s0 QM σi RX6 X) : ∀ (σ : Sg) (v1 : Int) (g1 : rng v1), w_X6_statementHead_81 th Q X σ v1 → RG σ → TY σ → Ext σi σ → kO σ th 6 → JJ p l e R s m args below meth c 2 D cA A n0 s0 QM σ 81 [(0, .ref th), (1, .int (i32 v1))] [] := by
  intro σ v1 g1 h hGσ hYσ hE hth H locs ls hH hl hc
  have B := K.1
  have hl9 := K.2.2.2.2.2.2
  unfold w_X6_statementHead_81 at h
  refine lv_aload_n B.1 B.2.1 dX6_statementHead_81 rfl (lv_at hl 0 rfl) ?_
  refine lv_bipush (v := i32 9) B.1 B.2.1 dX6_statementHead_82 (by decide) ?_
  refine W.eq (g2 := F0 m 84 ls [.int (i32 9), .ref th]) (rfl) ?_
  refine c_V B hH hl hc K.2.2.1 (C := RX6) (T := TX6) (N := 9) (ci := 6) (As := [.int (i32 9)]) (ok_X6_refuse hl9 K.2.1 σ th 9 (by unfold rng; omega) hth hGσ hYσ h) wc_X6_81 1 hd_X6_refuse ⟨Nat.le_trans (Nat.le_of_ble_eq_true rfl) K.2.2.2.1, Nat.le_trans (Nat.le_of_ble_eq_true rfl) K.2.2.2.2.1⟩ hth.1 hth.2 (by decide) rfl rfl (rest := []) rfl (Nat.le_of_ble_eq_true rfl) dX6_statementHead_84 (fun σ50 w hq => ?_) (fun σ9 E9 hx9 => hX σ9 E9 _ _ _ (tb_out K.2.2.2.2.2.1 rfl) hx9.1 hx9.2.1 hx9.2.2.1 (hE.trans hx9.2.2.2))
  obtain ⟨rfl, h, hGσ50, hYσ50, xσ50⟩ := hq
  have h := h xσ50
  intro H locs ls hH hl hc
  refine W.eq (g2 := F0 m 87 ls []) (rfl) ?_
  try dsimp only at h
  exact a_X6_statementHead_87 K hQ hX hTh _ _ g1 h hGσ50 hYσ50 (hE.trans xσ50) (hth.up xσ50) _ _ _ hH (lv_sub (l' := [(0, .ref th), (1, .int (i32 v1))]) hl [0, 1] rfl) hc
set_option maxRecDepth 20000 in
theorem a_X6_statementHead_69 {Q : Sg → Int → Prop} {X : Sg → String → Prop} {th : Nat} (K : MD l R p s m args c cX6_statementHead 2 RX6 D cA tys A n0 s0 9 153 []) (hQ : CQZ p l e R s m args below meth c cX6_statementHead D cA A n0 s0 QM σi Q) (hX : CX p l e R s m args below meth c 2 D cA A n0 s0 QM σi X) (hTh : CT p l e R s m args below meth c cX6_statementHead 2 D cA A n0 s0 QM σi RX6 X) : ∀ (σ : Sg) (v1 : Int) (g1 : rng v1), w_X6_statementHead_69 th Q X σ v1 → RG σ → TY σ → Ext σi σ → kO σ th 6 → JJ p l e R s m args below meth c 2 D cA A n0 s0 QM σ 69 [(0, .ref th), (1, .int (i32 v1))] [] := by
  intro σ v1 g1 h hGσ hYσ hE hth H locs ls hH hl hc
  have B := K.1
  have hl9 := K.2.2.2.2.2.2
  unfold w_X6_statementHead_69 at h
  refine lv_aload_n B.1 B.2.1 dX6_statementHead_69 rfl (lv_at hl 0 rfl) ?_
  refine f_getp B hH hth (by decide) rfl wu_X6 7 (by decide) wf_X6_31 rfl rfl dX6_statementHead_70 ?_
  obtain ⟨a51, ea51, h⟩ := h
  have ka51 : kO σ a51 4 := (hYσ.get hth (by decide)) a51 ea51
  have h := h ka51
  refine W.eq (g2 := F0 m 73 ls [.ref a51]) (by rw [ea51]; rfl) ?_
  refine f_geti B hH ka51 (by decide) rfl wu_X4 1 (by decide) wf_X6_61 rfl rfl dX6_statementHead_73 ?_
  refine lv_bipush (v := i32 16) B.1 B.2.1 dX6_statementHead_76 (by decide) ?_
  refine lv_icmp_ne (tgt := 87) B.1 B.2.1 dX6_statementHead_78 (by decide) (fun h9 => ?_) (fun h9 => ?_)
  · rw [if_pos (fun q => h9 ((i32_eq (hGσ _ _) (by unfold rng; omega)).mpr q))] at h
    exact a_X6_statementHead_87 K hQ hX hTh _ _ g1 h hGσ hYσ hE hth _ _ _ hH (lv_sub (l' := [(0, .ref th), (1, .int (i32 v1))]) hl [0, 1] rfl) hc
  · rw [if_neg (fun q => q ((i32_eq (hGσ _ _) (by unfold rng; omega)).mp h9))] at h
    exact a_X6_statementHead_81 K hQ hX hTh _ _ g1 h hGσ hYσ hE hth _ _ _ hH (lv_sub (l' := [(0, .ref th), (1, .int (i32 v1))]) hl [0, 1] rfl) hc
set_option maxRecDepth 20000 in
theorem a_X6_statementHead_63 {Q : Sg → Int → Prop} {X : Sg → String → Prop} {th : Nat} (K : MD l R p s m args c cX6_statementHead 2 RX6 D cA tys A n0 s0 9 153 []) (hQ : CQZ p l e R s m args below meth c cX6_statementHead D cA A n0 s0 QM σi Q) (hX : CX p l e R s m args below meth c 2 D cA A n0 s0 QM σi X) (hTh : CT p l e R s m args below meth c cX6_statementHead 2 D cA A n0 s0 QM σi RX6 X) : ∀ (σ : Sg) (v1 : Int) (g1 : rng v1), w_X6_statementHead_63 th Q X σ v1 → RG σ → TY σ → Ext σi σ → kO σ th 6 → JJ p l e R s m args below meth c 2 D cA A n0 s0 QM σ 63 [(0, .ref th), (1, .int (i32 v1))] [] := by
  intro σ v1 g1 h hGσ hYσ hE hth H locs ls hH hl hc
  have B := K.1
  have hl9 := K.2.2.2.2.2.2
  unfold w_X6_statementHead_63 at h
  refine lv_aload_n B.1 B.2.1 dX6_statementHead_63 rfl (lv_at hl 0 rfl) ?_
  refine lv_bipush (v := i32 8) B.1 B.2.1 dX6_statementHead_64 (by decide) ?_
  refine W.eq (g2 := F0 m 66 ls [.int (i32 8), .ref th]) (rfl) ?_
  refine c_V B hH hl hc K.2.2.1 (C := RX6) (T := TX6) (N := 9) (ci := 6) (As := [.int (i32 8)]) (ok_X6_refuse hl9 K.2.1 σ th 8 (by unfold rng; omega) hth hGσ hYσ h) wc_X6_81 1 hd_X6_refuse ⟨Nat.le_trans (Nat.le_of_ble_eq_true rfl) K.2.2.2.1, Nat.le_trans (Nat.le_of_ble_eq_true rfl) K.2.2.2.2.1⟩ hth.1 hth.2 (by decide) rfl rfl (rest := []) rfl (Nat.le_of_ble_eq_true rfl) dX6_statementHead_66 (fun σ52 w hq => ?_) (fun σ9 E9 hx9 => hX σ9 E9 _ _ _ (tb_out K.2.2.2.2.2.1 rfl) hx9.1 hx9.2.1 hx9.2.2.1 (hE.trans hx9.2.2.2))
  obtain ⟨rfl, h, hGσ52, hYσ52, xσ52⟩ := hq
  have h := h xσ52
  intro H locs ls hH hl hc
  refine W.eq (g2 := F0 m 69 ls []) (rfl) ?_
  try dsimp only at h
  exact a_X6_statementHead_69 K hQ hX hTh _ _ g1 h hGσ52 hYσ52 (hE.trans xσ52) (hth.up xσ52) _ _ _ hH (lv_sub (l' := [(0, .ref th), (1, .int (i32 v1))]) hl [0, 1] rfl) hc
set_option maxRecDepth 20000 in
theorem a_X6_statementHead_52 {Q : Sg → Int → Prop} {X : Sg → String → Prop} {th : Nat} (K : MD l R p s m args c cX6_statementHead 2 RX6 D cA tys A n0 s0 9 153 []) (hQ : CQZ p l e R s m args below meth c cX6_statementHead D cA A n0 s0 QM σi Q) (hX : CX p l e R s m args below meth c 2 D cA A n0 s0 QM σi X) (hTh : CT p l e R s m args below meth c cX6_statementHead 2 D cA A n0 s0 QM σi RX6 X) : ∀ (σ : Sg) (v1 : Int) (g1 : rng v1), w_X6_statementHead_52 th Q X σ v1 → RG σ → TY σ → Ext σi σ → kO σ th 6 → JJ p l e R s m args below meth c 2 D cA A n0 s0 QM σ 52 [(0, .ref th), (1, .int (i32 v1))] [] := by
  intro σ v1 g1 h hGσ hYσ hE hth H locs ls hH hl hc
  have B := K.1
  have hl9 := K.2.2.2.2.2.2
  unfold w_X6_statementHead_52 at h
  refine lv_aload_n B.1 B.2.1 dX6_statementHead_52 rfl (lv_at hl 0 rfl) ?_
  refine f_getp B hH hth (by decide) rfl wu_X6 7 (by decide) wf_X6_31 rfl rfl dX6_statementHead_53 ?_
  obtain ⟨a53, ea53, h⟩ := h
  have ka53 : kO σ a53 4 := (hYσ.get hth (by decide)) a53 ea53
  have h := h ka53
  refine W.eq (g2 := F0 m 56 ls [.ref a53]) (by rw [ea53]; rfl) ?_
  refine f_geti B hH ka53 (by decide) rfl wu_X4 2 (by decide) wf_X6_46 rfl rfl dX6_statementHead_56 ?_
  refine lv_iconst (v := i32 4) B.1 B.2.1 dX6_statementHead_59 (by decide) ?_
  refine lv_icmp_ne (tgt := 69) B.1 B.2.1 dX6_statementHead_60 (by decide) (fun h9 => ?_) (fun h9 => ?_)
  · rw [if_pos (fun q => h9 ((i32_eq (hGσ _ _) (by unfold rng; omega)).mpr q))] at h
    exact a_X6_statementHead_69 K hQ hX hTh _ _ g1 h hGσ hYσ hE hth _ _ _ hH (lv_sub (l' := [(0, .ref th), (1, .int (i32 v1))]) hl [0, 1] rfl) hc
  · rw [if_neg (fun q => q ((i32_eq (hGσ _ _) (by unfold rng; omega)).mp h9))] at h
    exact a_X6_statementHead_63 K hQ hX hTh _ _ g1 h hGσ hYσ hE hth _ _ _ hH (lv_sub (l' := [(0, .ref th), (1, .int (i32 v1))]) hl [0, 1] rfl) hc
set_option maxRecDepth 20000 in
theorem a_X6_statementHead_48 {Q : Sg → Int → Prop} {X : Sg → String → Prop} {th : Nat} (K : MD l R p s m args c cX6_statementHead 2 RX6 D cA tys A n0 s0 9 153 []) (hQ : CQZ p l e R s m args below meth c cX6_statementHead D cA A n0 s0 QM σi Q) (hX : CX p l e R s m args below meth c 2 D cA A n0 s0 QM σi X) (hTh : CT p l e R s m args below meth c cX6_statementHead 2 D cA A n0 s0 QM σi RX6 X) : ∀ (σ : Sg) (v1 : Int) (g1 : rng v1), w_X6_statementHead_48 th Q X σ v1 → RG σ → TY σ → Ext σi σ → kO σ th 6 → JJ p l e R s m args below meth c 2 D cA A n0 s0 QM σ 48 [(0, .ref th), (1, .int (i32 v1))] [] := by
  intro σ v1 g1 h hGσ hYσ hE hth H locs ls hH hl hc
  have B := K.1
  have hl9 := K.2.2.2.2.2.2
  unfold w_X6_statementHead_48 at h
  refine lv_iload_n B.1 B.2.1 dX6_statementHead_48 rfl (lv_at hl 1 rfl) ?_
  refine lv_if_eq (tgt := 69) B.1 B.2.1 dX6_statementHead_49 (by decide) (fun h9 => ?_) (fun h9 => ?_)
  · rw [if_pos ((z_eq g1).mp h9)] at h
    exact a_X6_statementHead_69 K hQ hX hTh _ _ g1 h hGσ hYσ hE hth _ _ _ hH (lv_sub (l' := [(0, .ref th), (1, .int (i32 v1))]) hl [0, 1] rfl) hc
  · rw [if_neg (fun q => h9 ((z_eq g1).mpr q))] at h
    exact a_X6_statementHead_52 K hQ hX hTh _ _ g1 h hGσ hYσ hE hth _ _ _ hH (lv_sub (l' := [(0, .ref th), (1, .int (i32 v1))]) hl [0, 1] rfl) hc
set_option maxRecDepth 20000 in
theorem a_X6_statementHead_42 {Q : Sg → Int → Prop} {X : Sg → String → Prop} {th : Nat} (K : MD l R p s m args c cX6_statementHead 2 RX6 D cA tys A n0 s0 9 153 []) (hQ : CQZ p l e R s m args below meth c cX6_statementHead D cA A n0 s0 QM σi Q) (hX : CX p l e R s m args below meth c 2 D cA A n0 s0 QM σi X) (hTh : CT p l e R s m args below meth c cX6_statementHead 2 D cA A n0 s0 QM σi RX6 X) : ∀ (σ : Sg) (v1 : Int) (g1 : rng v1), w_X6_statementHead_42 th Q X σ v1 → RG σ → TY σ → Ext σi σ → kO σ th 6 → JJ p l e R s m args below meth c 2 D cA A n0 s0 QM σ 42 [(0, .ref th), (1, .int (i32 v1))] [] := by
  intro σ v1 g1 h hGσ hYσ hE hth H locs ls hH hl hc
  have B := K.1
  have hl9 := K.2.2.2.2.2.2
  unfold w_X6_statementHead_42 at h
  refine lv_aload_n B.1 B.2.1 dX6_statementHead_42 rfl (lv_at hl 0 rfl) ?_
  refine lv_bipush (v := i32 6) B.1 B.2.1 dX6_statementHead_43 (by decide) ?_
  refine W.eq (g2 := F0 m 45 ls [.int (i32 6), .ref th]) (rfl) ?_
  refine c_V B hH hl hc K.2.2.1 (C := RX6) (T := TX6) (N := 9) (ci := 6) (As := [.int (i32 6)]) (ok_X6_refuse hl9 K.2.1 σ th 6 (by unfold rng; omega) hth hGσ hYσ h) wc_X6_81 1 hd_X6_refuse ⟨Nat.le_trans (Nat.le_of_ble_eq_true rfl) K.2.2.2.1, Nat.le_trans (Nat.le_of_ble_eq_true rfl) K.2.2.2.2.1⟩ hth.1 hth.2 (by decide) rfl rfl (rest := []) rfl (Nat.le_of_ble_eq_true rfl) dX6_statementHead_45 (fun σ54 w hq => ?_) (fun σ9 E9 hx9 => hX σ9 E9 _ _ _ (tb_out K.2.2.2.2.2.1 rfl) hx9.1 hx9.2.1 hx9.2.2.1 (hE.trans hx9.2.2.2))
  obtain ⟨rfl, h, hGσ54, hYσ54, xσ54⟩ := hq
  have h := h xσ54
  intro H locs ls hH hl hc
  refine W.eq (g2 := F0 m 48 ls []) (rfl) ?_
  try dsimp only at h
  exact a_X6_statementHead_48 K hQ hX hTh _ _ g1 h hGσ54 hYσ54 (hE.trans xσ54) (hth.up xσ54) _ _ _ hH (lv_sub (l' := [(0, .ref th), (1, .int (i32 v1))]) hl [0, 1] rfl) hc
set_option maxRecDepth 20000 in
theorem a_X6_statementHead_27 {Q : Sg → Int → Prop} {X : Sg → String → Prop} {th : Nat} (K : MD l R p s m args c cX6_statementHead 2 RX6 D cA tys A n0 s0 9 153 []) (hQ : CQZ p l e R s m args below meth c cX6_statementHead D cA A n0 s0 QM σi Q) (hX : CX p l e R s m args below meth c 2 D cA A n0 s0 QM σi X) (hTh : CT p l e R s m args below meth c cX6_statementHead 2 D cA A n0 s0 QM σi RX6 X) : ∀ (σ : Sg) (v1 : Int) (g1 : rng v1), w_X6_statementHead_27 th Q X σ v1 → RG σ → TY σ → Ext σi σ → kO σ th 6 → JJ p l e R s m args below meth c 2 D cA A n0 s0 QM σ 27 [(0, .ref th), (1, .int (i32 v1))] [] := by
  intro σ v1 g1 h hGσ hYσ hE hth H locs ls hH hl hc
  have B := K.1
  have hl9 := K.2.2.2.2.2.2
  unfold w_X6_statementHead_27 at h
  refine lv_aload_n B.1 B.2.1 dX6_statementHead_27 rfl (lv_at hl 0 rfl) ?_
  refine f_getp B hH hth (by decide) rfl wu_X6 7 (by decide) wf_X6_31 rfl rfl dX6_statementHead_28 ?_
  refine lv_aload_n B.1 B.2.1 dX6_statementHead_31 rfl (lv_at hl 0 rfl) ?_
  refine f_getl B hH hth (by decide) rfl wu_X6 4 (by decide) wf_X6_73 rfl rfl dX6_statementHead_32 ?_
  obtain ⟨a57, ea57, h⟩ := h
  have ka57 : kO σ a57 4 := (hYσ.get hth (by decide)) a57 ea57
  have h := h ka57
  refine W.eq (g2 := F0 m 35 ls [.long (gJ σ th 4), .ref a57]) (by rw [ea57]; rfl) ?_
  refine c_V B hH hl hc K.2.2.1 (C := RX4) (T := TX4) (N := 14) (ci := 4) (As := [.long (gJ σ th 4)]) (ok_X4_find hl9 K.2.1 σ a57 (gJ σ th 4) ka57 hGσ hYσ h) wc_X6_77 1 hd_X4_find ⟨Nat.le_trans (Nat.le_of_ble_eq_true rfl) K.2.2.2.1, Nat.le_trans (Nat.le_of_ble_eq_true rfl) K.2.2.2.2.1⟩ ka57.1 ka57.2 (by decide) rfl rfl (rest := []) rfl (Nat.le_of_ble_eq_true rfl) dX6_statementHead_35 (fun σ55 w hq => ?_) (fun σ9 E9 hx9 => hX σ9 E9 _ _ _ (tb_out K.2.2.2.2.2.1 rfl) hx9.1 hx9.2.1 hx9.2.2.1 (hE.trans hx9.2.2.2))
  obtain ⟨r56, rfl, gr56, h, hGσ55, hYσ55, xσ55⟩ := hq
  have h := h xσ55
  intro H locs ls hH hl hc
  refine W.eq (g2 := F0 m 38 ls [.int (i32 r56)]) (rfl) ?_
  try dsimp only at h
  refine lv_iconst (v := i32 (-1)) B.1 B.2.1 dX6_statementHead_38 (by decide) ?_
  refine lv_icmp_eq (tgt := 48) B.1 B.2.1 dX6_statementHead_39 (by decide) (fun h9 => ?_) (fun h9 => ?_)
  · rw [if_pos ((i32_eq gr56 (by unfold rng; omega)).mp h9)] at h
    exact a_X6_statementHead_48 K hQ hX hTh _ _ g1 h hGσ55 hYσ55 (hE.trans xσ55) (hth.up xσ55) _ _ _ hH (lv_sub (l' := [(0, .ref th), (1, .int (i32 v1))]) hl [0, 1] rfl) hc
  · rw [if_neg (fun q => h9 ((i32_eq gr56 (by unfold rng; omega)).mpr q))] at h
    exact a_X6_statementHead_42 K hQ hX hTh _ _ g1 h hGσ55 hYσ55 (hE.trans xσ55) (hth.up xσ55) _ _ _ hH (lv_sub (l' := [(0, .ref th), (1, .int (i32 v1))]) hl [0, 1] rfl) hc
set_option maxRecDepth 20000 in
theorem a_X6_statementHead_23 {Q : Sg → Int → Prop} {X : Sg → String → Prop} {th : Nat} (K : MD l R p s m args c cX6_statementHead 2 RX6 D cA tys A n0 s0 9 153 []) (hQ : CQZ p l e R s m args below meth c cX6_statementHead D cA A n0 s0 QM σi Q) (hX : CX p l e R s m args below meth c 2 D cA A n0 s0 QM σi X) (hTh : CT p l e R s m args below meth c cX6_statementHead 2 D cA A n0 s0 QM σi RX6 X) : ∀ (σ : Sg) (v1 : Int) (g1 : rng v1), w_X6_statementHead_23 th Q X σ v1 → RG σ → TY σ → Ext σi σ → kO σ th 6 → JJ p l e R s m args below meth c 2 D cA A n0 s0 QM σ 23 [(0, .ref th), (1, .int (i32 v1))] [] := by
  intro σ v1 g1 h hGσ hYσ hE hth H locs ls hH hl hc
  have B := K.1
  have hl9 := K.2.2.2.2.2.2
  unfold w_X6_statementHead_23 at h
  refine lv_iload_n B.1 B.2.1 dX6_statementHead_23 rfl (lv_at hl 1 rfl) ?_
  refine lv_if_ne (tgt := 48) B.1 B.2.1 dX6_statementHead_24 (by decide) (fun h9 => ?_) (fun h9 => ?_)
  · rw [if_pos (fun q => h9 ((z_eq g1).mpr q))] at h
    exact a_X6_statementHead_48 K hQ hX hTh _ _ g1 h hGσ hYσ hE hth _ _ _ hH (lv_sub (l' := [(0, .ref th), (1, .int (i32 v1))]) hl [0, 1] rfl) hc
  · rw [if_neg (fun q => q ((z_eq g1).mp h9))] at h
    exact a_X6_statementHead_27 K hQ hX hTh _ _ g1 h hGσ hYσ hE hth _ _ _ hH (lv_sub (l' := [(0, .ref th), (1, .int (i32 v1))]) hl [0, 1] rfl) hc
set_option maxRecDepth 20000 in
theorem a_X6_statementHead_19 {Q : Sg → Int → Prop} {X : Sg → String → Prop} {th : Nat} (K : MD l R p s m args c cX6_statementHead 2 RX6 D cA tys A n0 s0 9 153 []) (hQ : CQZ p l e R s m args below meth c cX6_statementHead D cA A n0 s0 QM σi Q) (hX : CX p l e R s m args below meth c 2 D cA A n0 s0 QM σi X) (hTh : CT p l e R s m args below meth c cX6_statementHead 2 D cA A n0 s0 QM σi RX6 X) : ∀ (σ : Sg) (v1 : Int) (g1 : rng v1), w_X6_statementHead_19 th Q X σ v1 → RG σ → TY σ → Ext σi σ → kO σ th 6 → JJ p l e R s m args below meth c 2 D cA A n0 s0 QM σ 19 [(0, .ref th), (1, .int (i32 v1))] [] := by
  intro σ v1 g1 h hGσ hYσ hE hth H locs ls hH hl hc
  have B := K.1
  have hl9 := K.2.2.2.2.2.2
  unfold w_X6_statementHead_19 at h
  refine lv_aload_n B.1 B.2.1 dX6_statementHead_19 rfl (lv_at hl 0 rfl) ?_
  refine W.eq (g2 := F0 m 20 ls [.ref th]) (rfl) ?_
  refine c_V B hH hl hc K.2.2.1 (C := RX6) (T := TX6) (N := 9) (ci := 6) (As := []) (ok_X6_cannotStand hl9 K.2.1 σ th hth hGσ hYσ h) wc_X6_70 0 hd_X6_cannotStand ⟨Nat.le_trans (Nat.le_of_ble_eq_true rfl) K.2.2.2.1, Nat.le_trans (Nat.le_of_ble_eq_true rfl) K.2.2.2.2.1⟩ hth.1 hth.2 (by decide) rfl rfl (rest := []) rfl (Nat.le_of_ble_eq_true rfl) dX6_statementHead_20 (fun σ58 w hq => ?_) (fun σ9 E9 hx9 => hX σ9 E9 _ _ _ (tb_out K.2.2.2.2.2.1 rfl) hx9.1 hx9.2.1 hx9.2.2.1 (hE.trans hx9.2.2.2))
  obtain ⟨rfl, h, hGσ58, hYσ58, xσ58⟩ := hq
  have h := h xσ58
  intro H locs ls hH hl hc
  refine W.eq (g2 := F0 m 23 ls []) (rfl) ?_
  try dsimp only at h
  exact a_X6_statementHead_23 K hQ hX hTh _ _ g1 h hGσ58 hYσ58 (hE.trans xσ58) (hth.up xσ58) _ _ _ hH (lv_sub (l' := [(0, .ref th), (1, .int (i32 v1))]) hl [0, 1] rfl) hc
set_option maxRecDepth 20000 in
theorem a_X6_statementHead_11 {Q : Sg → Int → Prop} {X : Sg → String → Prop} {th : Nat} (K : MD l R p s m args c cX6_statementHead 2 RX6 D cA tys A n0 s0 9 153 []) (hQ : CQZ p l e R s m args below meth c cX6_statementHead D cA A n0 s0 QM σi Q) (hX : CX p l e R s m args below meth c 2 D cA A n0 s0 QM σi X) (hTh : CT p l e R s m args below meth c cX6_statementHead 2 D cA A n0 s0 QM σi RX6 X) : ∀ (σ : Sg) (v1 : Int) (g1 : rng v1), w_X6_statementHead_11 th Q X σ v1 → RG σ → TY σ → Ext σi σ → kO σ th 6 → JJ p l e R s m args below meth c 2 D cA A n0 s0 QM σ 11 [(0, .ref th), (1, .int (i32 v1))] [] := by
  intro σ v1 g1 h hGσ hYσ hE hth H locs ls hH hl hc
  have B := K.1
  have hl9 := K.2.2.2.2.2.2
  unfold w_X6_statementHead_11 at h
  refine lv_aload_n B.1 B.2.1 dX6_statementHead_11 rfl (lv_at hl 0 rfl) ?_
  refine f_geti B hH hth (by decide) rfl wu_X6 3 (by decide) wf_X6_43 rfl rfl dX6_statementHead_12 ?_
  refine lv_iconst (v := i32 1) B.1 B.2.1 dX6_statementHead_15 (by decide) ?_
  refine lv_icmp_eq (tgt := 23) B.1 B.2.1 dX6_statementHead_16 (by decide) (fun h9 => ?_) (fun h9 => ?_)
  · rw [if_pos ((i32_eq (hGσ _ _) (by unfold rng; omega)).mp h9)] at h
    exact a_X6_statementHead_23 K hQ hX hTh _ _ g1 h hGσ hYσ hE hth _ _ _ hH (lv_sub (l' := [(0, .ref th), (1, .int (i32 v1))]) hl [0, 1] rfl) hc
  · rw [if_neg (fun q => h9 ((i32_eq (hGσ _ _) (by unfold rng; omega)).mpr q))] at h
    exact a_X6_statementHead_19 K hQ hX hTh _ _ g1 h hGσ hYσ hE hth _ _ _ hH (lv_sub (l' := [(0, .ref th), (1, .int (i32 v1))]) hl [0, 1] rfl) hc
set_option maxRecDepth 20000 in
theorem a_X6_statementHead_0 {Q : Sg → Int → Prop} {X : Sg → String → Prop} {th : Nat} (K : MD l R p s m args c cX6_statementHead 2 RX6 D cA tys A n0 s0 9 153 []) (hQ : CQZ p l e R s m args below meth c cX6_statementHead D cA A n0 s0 QM σi Q) (hX : CX p l e R s m args below meth c 2 D cA A n0 s0 QM σi X) (hTh : CT p l e R s m args below meth c cX6_statementHead 2 D cA A n0 s0 QM σi RX6 X) : ∀ (σ : Sg), w_X6_statementHead_0 th Q X σ → RG σ → TY σ → Ext σi σ → kO σ th 6 → JJ p l e R s m args below meth c 2 D cA A n0 s0 QM σ 0 [(0, .ref th)] [] := by
  intro σ h hGσ hYσ hE hth H locs ls hH hl hc
  have B := K.1
  have hl9 := K.2.2.2.2.2.2
  unfold w_X6_statementHead_0 at h
  refine lv_aload_n B.1 B.2.1 dX6_statementHead_0 rfl (lv_at hl 0 rfl) ?_
  refine lv_bipush (v := i32 17) B.1 B.2.1 dX6_statementHead_1 (by decide) ?_
  refine W.eq (g2 := F0 m 3 ls [.int (i32 17), .ref th]) (rfl) ?_
  refine c_V B hH hl hc K.2.2.1 (C := RX6) (T := TX6) (N := 9) (ci := 6) (As := [.int (i32 17)]) (ok_X6_isWord hl9 K.2.1 σ th 17 (by unfold rng; omega) hth hGσ hYσ h) wc_X6_66 1 hd_X6_isWord ⟨Nat.le_trans (Nat.le_of_ble_eq_true rfl) K.2.2.2.1, Nat.le_trans (Nat.le_of_ble_eq_true rfl) K.2.2.2.2.1⟩ hth.1 hth.2 (by decide) rfl rfl (rest := []) rfl (Nat.le_of_ble_eq_true rfl) dX6_statementHead_3 (fun σ59 w hq => ?_) (fun σ9 E9 hx9 => hX σ9 E9 _ _ _ (tb_out K.2.2.2.2.2.1 rfl) hx9.1 hx9.2.1 hx9.2.2.1 (hE.trans hx9.2.2.2))
  obtain ⟨r60, rfl, ⟨gr60, gzr60⟩, h, hGσ59, hYσ59, xσ59⟩ := hq
  have h := h xσ59
  intro H locs ls hH hl hc
  refine W.eq (g2 := F0 m 6 ls [.int (i32 r60)]) (rfl) ?_
  try dsimp only at h
  refine lv_istore_n (lv' := [(1, .int (i32 r60)), (0, .ref th)]) B.1 B.2.1 dX6_statementHead_6 rfl hl (by decide) rfl (fun ls hl => ?_)
  refine lv_iload_n B.1 B.2.1 dX6_statementHead_7 rfl (lv_at hl 0 rfl) ?_
  refine lv_if_ne (tgt := 23) B.1 B.2.1 dX6_statementHead_8 (by decide) (fun h9 => ?_) (fun h9 => ?_)
  · rw [if_pos (fun q => h9 ((z_eq gr60).mpr q))] at h
    exact a_X6_statementHead_23 K hQ hX hTh _ _ gr60 h hGσ59 hYσ59 (hE.trans xσ59) (hth.up xσ59) _ _ _ hH (lv_sub (l' := [(0, .ref th), (1, .int (i32 r60))]) hl [1, 0] rfl) hc
  · rw [if_neg (fun q => q ((z_eq gr60).mp h9))] at h
    exact a_X6_statementHead_11 K hQ hX hTh _ _ gr60 h hGσ59 hYσ59 (hE.trans xσ59) (hth.up xσ59) _ _ _ hH (lv_sub (l' := [(0, .ref th), (1, .int (i32 r60))]) hl [1, 0] rfl) hc
theorem ok_X6_statementHead (hl0 : l.stackTraces = false) (hT : TyC cA tys) {Q : Sg → Int → Prop} {X : Sg → String → Prop} (σ : Sg) (th : Nat) (hth : kO σ th 6) (hG : RG σ) (hY : TY σ) (h : wp_X6_statementHead th σ Q X) : Ok l D cA tys A yX6_statementHead (.code yX6_statementHead cX6_statementHead 2 (some .boolean)) 9 153 [.ref th] σ (QcZ σ Q) (QxC σ X) := by
  unfold wp_X6_statementHead at h
  exact oc_Z hl0 (by decide) (by exact Nat.le_of_ble_eq_true rfl) hT (fun p e R s m args below meth c K hQ hX hTh H locs ls hH hl hc => a_X6_statementHead_0 K hQ hX hTh σ h hG hY (Ext.rfl' σ) hth H locs ls hH (lv_sub (l' := [(0, .ref th)]) hl [0] rfl) hc)
theorem dX6_read_0 : decode cX6_read 0 = .ok (.aload_n 0, 1) := by decide +kernel
theorem dX6_read_1 : decode cX6_read 1 = .ok (.aload_n 1, 1) := by decide +kernel
theorem dX6_read_2 : decode cX6_read 2 = .ok (.putfield 9, 3) := by decide +kernel
theorem dX6_read_5 : decode cX6_read 5 = .ok (.aload_n 0, 1) := by decide +kernel
theorem dX6_read_6 : decode cX6_read 6 = .ok (.iload_n 2, 1) := by decide +kernel
theorem dX6_read_7 : decode cX6_read 7 = .ok (.aload_n 1, 1) := by decide +kernel
theorem dX6_read_8 : decode cX6_read 8 = .ok (.arraylength, 1) := by decide +kernel
theorem dX6_read_9 : decode cX6_read 9 = .ok (.invokestatic 15, 3) := by decide +kernel
theorem dX6_read_12 : decode cX6_read 12 = .ok (.putfield 21, 3) := by decide +kernel
theorem dX6_read_15 : decode cX6_read 15 = .ok (.aload_n 0, 1) := by decide +kernel
theorem dX6_read_16 : decode cX6_read 16 = .ok (.iconst 0, 1) := by decide +kernel
theorem dX6_read_17 : decode cX6_read 17 = .ok (.putfield 25, 3) := by decide +kernel
theorem dX6_read_20 : decode cX6_read 20 = .ok (.aload_n 0, 1) := by decide +kernel
theorem dX6_read_21 : decode cX6_read 21 = .ok (.iconst 0, 1) := by decide +kernel
theorem dX6_read_22 : decode cX6_read 22 = .ok (.putfield 28, 3) := by decide +kernel
theorem dX6_read_25 : decode cX6_read 25 = .ok (.aload_n 0, 1) := by decide +kernel
theorem dX6_read_26 : decode cX6_read 26 = .ok (.aload_n 3, 1) := by decide +kernel
theorem dX6_read_27 : decode cX6_read 27 = .ok (.putfield 31, 3) := by decide +kernel
theorem dX6_read_30 : decode cX6_read 30 = .ok (.aload_n 0, 1) := by decide +kernel
theorem dX6_read_31 : decode cX6_read 31 = .ok (.getfield 31, 3) := by decide +kernel
theorem dX6_read_34 : decode cX6_read 34 = .ok (.invokevirtual 35, 3) := by decide +kernel
theorem dX6_read_37 : decode cX6_read 37 = .ok (.aload_n 0, 1) := by decide +kernel
theorem dX6_read_38 : decode cX6_read 38 = .ok (.invokevirtual 40, 3) := by decide +kernel
theorem dX6_read_41 : decode cX6_read 41 = .ok (.iconst 0, 1) := by decide +kernel
theorem dX6_read_42 : decode cX6_read 42 = .ok (.istore 4, 2) := by decide +kernel
theorem dX6_read_44 : decode cX6_read 44 = .ok (.iload 4, 2) := by decide +kernel
theorem dX6_read_46 : decode cX6_read 46 = .ok (.bipush 16, 2) := by decide +kernel
theorem dX6_read_48 : decode cX6_read 48 = .ok (.if_icmp .gt 53, 3) := by decide +kernel
theorem dX6_read_51 : decode cX6_read 51 = .ok (.aload_n 0, 1) := by decide +kernel
theorem dX6_read_52 : decode cX6_read 52 = .ok (.getfield 43, 3) := by decide +kernel
theorem dX6_read_55 : decode cX6_read 55 = .ok (.ifCond .ne 13, 3) := by decide +kernel
theorem dX6_read_58 : decode cX6_read 58 = .ok (.aload_n 0, 1) := by decide +kernel
theorem dX6_read_59 : decode cX6_read 59 = .ok (.getfield 31, 3) := by decide +kernel
theorem dX6_read_62 : decode cX6_read 62 = .ok (.getfield 46, 3) := by decide +kernel
theorem dX6_read_65 : decode cX6_read 65 = .ok (.ifCond .ne 36, 3) := by decide +kernel
theorem dX6_read_68 : decode cX6_read 68 = .ok (.aload_n 0, 1) := by decide +kernel
theorem dX6_read_69 : decode cX6_read 69 = .ok (.aload_n 0, 1) := by decide +kernel
theorem dX6_read_70 : decode cX6_read 70 = .ok (.invokevirtual 49, 3) := by decide +kernel
theorem dX6_read_73 : decode cX6_read 73 = .ok (.invokevirtual 53, 3) := by decide +kernel
theorem dX6_read_76 : decode cX6_read 76 = .ok (.aload_n 0, 1) := by decide +kernel
theorem dX6_read_77 : decode cX6_read 77 = .ok (.bipush 59, 2) := by decide +kernel
theorem dX6_read_79 : decode cX6_read 79 = .ok (.invokevirtual 57, 3) := by decide +kernel
theorem dX6_read_82 : decode cX6_read 82 = .ok (.aload_n 0, 1) := by decide +kernel
theorem dX6_read_83 : decode cX6_read 83 = .ok (.getfield 31, 3) := by decide +kernel
theorem dX6_read_86 : decode cX6_read 86 = .ok (.dup, 1) := by decide +kernel
theorem dX6_read_87 : decode cX6_read 87 = .ok (.getfield 61, 3) := by decide +kernel
theorem dX6_read_90 : decode cX6_read 90 = .ok (.iconst 1, 1) := by decide +kernel
theorem dX6_read_91 : decode cX6_read 91 = .ok (.iadd, 1) := by decide +kernel
theorem dX6_read_92 : decode cX6_read 92 = .ok (.putfield 61, 3) := by decide +kernel
theorem dX6_read_95 : decode cX6_read 95 = .ok (.iinc 4 1, 3) := by decide +kernel
theorem dX6_read_98 : decode cX6_read 98 = .ok (.goto (-54), 3) := by decide +kernel
theorem dX6_read_101 : decode cX6_read 101 = .ok (.goto 10, 3) := by decide +kernel
theorem dX6_read_104 : decode cX6_read 104 = .ok (.astore 4, 2) := by decide +kernel
theorem dX6_read_106 : decode cX6_read 106 = .ok (.aload_n 0, 1) := by decide +kernel
theorem dX6_read_107 : decode cX6_read 107 = .ok (.getfield 28, 3) := by decide +kernel
theorem dX6_read_110 : decode cX6_read 110 = .ok (.ireturn, 1) := by decide +kernel
theorem dX6_read_111 : decode cX6_read 111 = .ok (.iconst 0, 1) := by decide +kernel
theorem dX6_read_112 : decode cX6_read 112 = .ok (.ireturn, 1) := by decide +kernel
set_option maxRecDepth 20000 in
theorem a_X6_read_104 {Q : Sg → Int → Prop} {X : Sg → String → Prop} {th : Nat} (K : MD l R p s m args c cX6_read 5 RX6 D cA tys A n0 s0 163 11266 [(37, 101, 104, 64)]) (hQ : CQI p l e R s m args below meth c cX6_read D cA A n0 s0 QM σi Q) (hX : CX p l e R s m args below meth c 5 D cA A n0 s0 QM σi X) : ∀ (σ : Sg) (u0 : Option Nat), w_X6_read_104 th Q X σ u0 → RG σ → TY σ → Ext σi σ → kO σ th 6 → JJ p l e R s m args below meth c 5 D cA A n0 s0 QM σ 104 [(0, .ref th)] [va_rf u0] := by
  intro σ u0 h hGσ hYσ hE hth H locs ls hH hl hc
  have B := K.1
  have hl9 := K.2.2.2.2.2.2
  unfold w_X6_read_104 at h
  refine lv_astoreQ (lv' := [(4, va_rf u0), (0, .ref th)]) B.1 B.2.1 dX6_read_104 hl (by decide) rfl (fun ls hl => ?_)
  refine lv_aload_n B.1 B.2.1 dX6_read_106 rfl (lv_at hl 1 rfl) ?_
  refine f_geti B hH hth (by decide) rfl wu_X6 6 (by decide) wf_X6_28 rfl rfl dX6_read_107 ?_
  exact hQ _ _ _ _ _ _ (hGσ _ _) dX6_read_110 hH hc h hGσ hYσ hE
set_option maxRecDepth 20000 in
theorem a_X6_read_111 {Q : Sg → Int → Prop} {X : Sg → String → Prop} {th : Nat} (K : MD l R p s m args c cX6_read 5 RX6 D cA tys A n0 s0 163 11266 [(37, 101, 104, 64)]) (hQ : CQI p l e R s m args below meth c cX6_read D cA A n0 s0 QM σi Q) (hX : CX p l e R s m args below meth c 5 D cA A n0 s0 QM σi X) : ∀ (σ : Sg), w_X6_read_111 th Q X σ → RG σ → TY σ → Ext σi σ → kO σ th 6 → JJ p l e R s m args below meth c 5 D cA A n0 s0 QM σ 111 [(0, .ref th)] [] := by
  intro σ h hGσ hYσ hE hth H locs ls hH hl hc
  have B := K.1
  have hl9 := K.2.2.2.2.2.2
  unfold w_X6_read_111 at h
  refine lv_iconst (v := i32 0) B.1 B.2.1 dX6_read_111 (by decide) ?_
  exact hQ _ _ _ _ _ _ (by unfold rng; omega) dX6_read_112 hH hc h hGσ hYσ hE
set_option maxRecDepth 20000 in
theorem a_X6_read_101 {Q : Sg → Int → Prop} {X : Sg → String → Prop} {th : Nat} (K : MD l R p s m args c cX6_read 5 RX6 D cA tys A n0 s0 163 11266 [(37, 101, 104, 64)]) (hQ : CQI p l e R s m args below meth c cX6_read D cA A n0 s0 QM σi Q) (hX : CX p l e R s m args below meth c 5 D cA A n0 s0 QM σi X) : ∀ (σ : Sg), w_X6_read_101 th Q X σ → RG σ → TY σ → Ext σi σ → kO σ th 6 → JJ p l e R s m args below meth c 5 D cA A n0 s0 QM σ 101 [(0, .ref th)] [] := by
  intro σ h hGσ hYσ hE hth H locs ls hH hl hc
  have B := K.1
  have hl9 := K.2.2.2.2.2.2
  unfold w_X6_read_101 at h
  refine lv_goto (tgt := 111) B.1 B.2.1 dX6_read_101 (by decide) ?_
  exact a_X6_read_111 K hQ hX _ h hGσ hYσ hE hth _ _ _ hH (lv_sub (l' := [(0, .ref th)]) hl [0] rfl) hc
set_option maxRecDepth 20000 in
theorem a_X6_read_68 {Q : Sg → Int → Prop} {X : Sg → String → Prop} {th : Nat} (K : MD l R p s m args c cX6_read 5 RX6 D cA tys A n0 s0 163 11266 [(37, 101, 104, 64)]) (hQ : CQI p l e R s m args below meth c cX6_read D cA A n0 s0 QM σi Q) (hX : CX p l e R s m args below meth c 5 D cA A n0 s0 QM σi X) {K44 : Sg → Int → Prop} (hK44 : ∀ (σ : Sg) (v4 : Int) (g4 : rng v4), K44 σ v4 → RG σ → TY σ → Ext σi σ → kO σ th 6 → JJ p l e R s m args below meth c 5 D cA A n0 s0 QM σ 44 [(0, .ref th), (4, .int (i32 v4))] []) : ∀ (σ : Sg) (v4 : Int) (g4 : rng v4), w_X6_read_68 th K44 Q X σ v4 → RG σ → TY σ → Ext σi σ → kO σ th 6 → JJ p l e R s m args below meth c 5 D cA A n0 s0 QM σ 68 [(0, .ref th), (4, .int (i32 v4))] [] := by
  intro σ v4 g4 h hGσ hYσ hE hth H locs ls hH hl hc
  have B := K.1
  have hl9 := K.2.2.2.2.2.2
  unfold w_X6_read_68 at h
  refine lv_aload_n B.1 B.2.1 dX6_read_68 rfl (lv_at hl 0 rfl) ?_
  refine lv_aload_n B.1 B.2.1 dX6_read_69 rfl (lv_at hl 0 rfl) ?_
  refine W.eq (g2 := F0 m 70 ls [.ref th, .ref th]) (rfl) ?_
  refine c_V B hH hl hc K.2.2.1 (C := RX6) (T := TX6) (N := 9) (ci := 6) (As := []) (ok_X6_statementHead hl9 K.2.1 σ th hth hGσ hYσ h) wc_X6_49 0 hd_X6_statementHead ⟨Nat.le_trans (Nat.le_of_ble_eq_true rfl) K.2.2.2.1, Nat.le_trans (Nat.le_of_ble_eq_true rfl) K.2.2.2.2.1⟩ hth.1 hth.2 (by decide) rfl rfl (rest := [.ref th]) rfl (Nat.le_of_ble_eq_true rfl) dX6_read_70 (fun σ37 w hq => ?_) (fun σ9 E9 hx9 => (by obtain ⟨h9, hG9, hY9, xσ9⟩ := hx9; obtain ⟨rfl, h⟩ := h9 xσ9; exact h_catchP B [] (K.2.2.2.2.2.1.trans rfl) rfl rfl (by decide) wl_X6_64 (by decide) (fun q9 H locs ls hH hl hc => a_X6_read_104 K hQ hX σ9 (some q9) (h (some q9)) hG9 hY9 (hE.trans xσ9) (hth.up xσ9) H locs ls hH (lv_sub (l' := [(0, .ref th)]) hl [0] rfl) hc)))
  obtain ⟨r38, rfl, ⟨gr38, gzr38⟩, h, hGσ37, hYσ37, xσ37⟩ := hq
  have h := h xσ37
  intro H locs ls hH hl hc
  refine W.eq (g2 := F0 m 73 ls [.int (i32 r38), .ref th]) (rfl) ?_
  try dsimp only at h
  refine W.eq (g2 := F0 m 73 ls [.int (i32 r38), .ref th]) (rfl) ?_
  refine c_V B hH hl hc K.2.2.1 (C := RX6) (T := TX6) (N := 9) (ci := 6) (As := [.int (i32 r38)]) (ok_X6_operatorText hl9 K.2.1 σ37 th r38 gr38 (hth.up xσ37) hGσ37 hYσ37 h) wc_X6_53 1 hd_X6_operatorText ⟨Nat.le_trans (Nat.le_of_ble_eq_true rfl) K.2.2.2.1, Nat.le_trans (Nat.le_of_ble_eq_true rfl) K.2.2.2.2.1⟩ (hth.up xσ37).1 (hth.up xσ37).2 (by decide) rfl rfl (rest := []) rfl (Nat.le_of_ble_eq_true rfl) dX6_read_73 (fun σ39 w hq => ?_) (fun σ9 E9 hx9 => (by obtain ⟨h9, hG9, hY9, xσ9⟩ := hx9; obtain ⟨rfl, h⟩ := h9 xσ9; exact h_catchP B [] (K.2.2.2.2.2.1.trans rfl) rfl rfl (by decide) wl_X6_64 (by decide) (fun q9 H locs ls hH hl hc => a_X6_read_104 K hQ hX σ9 (some q9) (h (some q9)) hG9 hY9 ((hE.trans xσ37).trans xσ9) (hth.up (xσ37.trans xσ9)) H locs ls hH (lv_sub (l' := [(0, .ref th)]) hl [0] rfl) hc)))
  obtain ⟨rfl, h, hGσ39, hYσ39, xσ39⟩ := hq
  have h := h xσ39
  intro H locs ls hH hl hc
  refine W.eq (g2 := F0 m 76 ls []) (rfl) ?_
  try dsimp only at h
  refine lv_aload_n B.1 B.2.1 dX6_read_76 rfl (lv_at hl 0 rfl) ?_
  refine lv_bipush (v := i32 59) B.1 B.2.1 dX6_read_77 (by decide) ?_
  refine W.eq (g2 := F0 m 79 ls [.int (i32 59), .ref th]) (rfl) ?_
  refine c_V B hH hl hc K.2.2.1 (C := RX6) (T := TX6) (N := 9) (ci := 6) (As := [.int (i32 59)]) (ok_X6_wantSign hl9 K.2.1 σ39 th 59 (by unfold rng; omega) (hth.up (xσ37.trans xσ39)) hGσ39 hYσ39 h) wc_X6_57 1 hd_X6_wantSign ⟨Nat.le_trans (Nat.le_of_ble_eq_true rfl) K.2.2.2.1, Nat.le_trans (Nat.le_of_ble_eq_true rfl) K.2.2.2.2.1⟩ (hth.up (xσ37.trans xσ39)).1 (hth.up (xσ37.trans xσ39)).2 (by decide) rfl rfl (rest := []) rfl (Nat.le_of_ble_eq_true rfl) dX6_read_79 (fun σ40 w hq => ?_) (fun σ9 E9 hx9 => (by obtain ⟨h9, hG9, hY9, xσ9⟩ := hx9; obtain ⟨rfl, h⟩ := h9 xσ9; exact h_catchP B [] (K.2.2.2.2.2.1.trans rfl) rfl rfl (by decide) wl_X6_64 (by decide) (fun q9 H locs ls hH hl hc => a_X6_read_104 K hQ hX σ9 (some q9) (h (some q9)) hG9 hY9 (((hE.trans xσ37).trans xσ39).trans xσ9) (hth.up (xσ37.trans (xσ39.trans xσ9))) H locs ls hH (lv_sub (l' := [(0, .ref th)]) hl [0] rfl) hc)))
  obtain ⟨rfl, h, hGσ40, hYσ40, xσ40⟩ := hq
  have h := h xσ40
  intro H locs ls hH hl hc
  refine W.eq (g2 := F0 m 82 ls []) (rfl) ?_
  try dsimp only at h
  refine lv_aload_n B.1 B.2.1 dX6_read_82 rfl (lv_at hl 0 rfl) ?_
  refine f_getp B hH (hth.up (xσ37.trans (xσ39.trans xσ40))) (by decide) rfl wu_X6 7 (by decide) wf_X6_31 rfl rfl dX6_read_83 ?_
  refine lv_dup B.1 B.2.1 dX6_read_86 (rf_cat _) ?_
  obtain ⟨a41, ea41, h⟩ := h
  have ka41 : kO σ40 a41 4 := (hYσ40.get (hth.up (xσ37.trans (xσ39.trans xσ40))) (by decide)) a41 ea41
  have h := h ka41
  refine W.eq (g2 := F0 m 87 ls [.ref a41, va_rf (gP σ40 th 7)]) (by rw [ea41]; rfl) ?_
  refine f_geti B hH ka41 (by decide) rfl wu_X4 1 (by decide) wf_X6_61 rfl rfl dX6_read_87 ?_
  refine lv_iconst (v := i32 1) B.1 B.2.1 dX6_read_90 (by decide) ?_
  obtain ⟨q1, h⟩ := h
  refine lv_iadd B.1 B.2.1 dX6_read_91 ?_
  rw [i32_add]
  obtain ⟨σ42, eσ42⟩ : ∃ z, z = pI σ40 a41 1 (gI σ40 a41 1 + 1) := ⟨_, rfl⟩
  have h := h σ42 eσ42
  refine W.eq (g2 := F0 m 92 ls [.int (i32 (gI σ40 a41 1 + 1)), .ref a41]) (by rw [ea41]; rfl) ?_
  refine f_puti B hH ka41 (by decide) rfl wu_X4 tyX4 tyX4_ok nmX4 1 (by decide) wf_X6_61 rfl (ty := .int) rfl rfl rfl rfl rfl dX6_read_92 (fun H locs hH => ?_)
  have hH : Hd D cA A s (pI σ40 a41 1 (gI σ40 a41 1 + 1)) H locs := hH
  rw [← eσ42] at hH
  have hGσ42 : RG σ42 := by rw [eσ42]; exact hGσ40.pI q1
  have hYσ42 : TY σ42 := by rw [eσ42]; exact hYσ40.pI
  have xσ42 : Ext σ40 σ42 := by rw [eσ42]; exact Ext.pI
  have hc : CB n0 s0 σ42 := by rw [eσ42]; exact hc
  rw [show gc σ40 = gc σ42 by rw [eσ42]; try rfl, show gs σ40 = gs σ42 by rw [eσ42]; try rfl]
  obtain ⟨q2, h⟩ := h
  refine lv_iinc (k := 1) (v := i32 (v4 + 1)) (lv' := [(4, .int (i32 (v4 + 1))), (0, .ref th)]) B.1 B.2.1 dX6_read_95 hl rfl (i32_add _ _) (by decide) rfl (fun ls hl => ?_)
  refine lv_goto (tgt := 44) B.1 B.2.1 dX6_read_98 (by decide) ?_
  exact hK44 _ _ q2 h hGσ42 hYσ42 ((((hE.trans xσ37).trans xσ39).trans xσ40).trans xσ42) (hth.up (xσ37.trans (xσ39.trans (xσ40.trans xσ42)))) _ _ _ hH (lv_sub (l' := [(0, .ref th), (4, .int (i32 (v4 + 1)))]) hl [1, 0] rfl) hc
set_option maxRecDepth 20000 in
theorem a_X6_read_58 {Q : Sg → Int → Prop} {X : Sg → String → Prop} {th : Nat} (K : MD l R p s m args c cX6_read 5 RX6 D cA tys A n0 s0 163 11266 [(37, 101, 104, 64)]) (hQ : CQI p l e R s m args below meth c cX6_read D cA A n0 s0 QM σi Q) (hX : CX p l e R s m args below meth c 5 D cA A n0 s0 QM σi X) {K44 : Sg → Int → Prop} (hK44 : ∀ (σ : Sg) (v4 : Int) (g4 : rng v4), K44 σ v4 → RG σ → TY σ → Ext σi σ → kO σ th 6 → JJ p l e R s m args below meth c 5 D cA A n0 s0 QM σ 44 [(0, .ref th), (4, .int (i32 v4))] []) : ∀ (σ : Sg) (v4 : Int) (g4 : rng v4), w_X6_read_58 th K44 Q X σ v4 → RG σ → TY σ → Ext σi σ → kO σ th 6 → JJ p l e R s m args below meth c 5 D cA A n0 s0 QM σ 58 [(0, .ref th), (4, .int (i32 v4))] [] := by
  intro σ v4 g4 h hGσ hYσ hE hth H locs ls hH hl hc
  have B := K.1
  have hl9 := K.2.2.2.2.2.2
  unfold w_X6_read_58 at h
  refine lv_aload_n B.1 B.2.1 dX6_read_58 rfl (lv_at hl 0 rfl) ?_
  refine f_getp B hH hth (by decide) rfl wu_X6 7 (by decide) wf_X6_31 rfl rfl dX6_read_59 ?_
  obtain ⟨a43, ea43, h⟩ := h
  have ka43 : kO σ a43 4 := (hYσ.get hth (by decide)) a43 ea43
  have h := h ka43
  refine W.eq (g2 := F0 m 62 ls [.ref a43]) (by rw [ea43]; rfl) ?_
  refine f_geti B hH ka43 (by decide) rfl wu_X4 2 (by decide) wf_X6_46 rfl rfl dX6_read_62 ?_
  refine lv_if_ne (tgt := 101) B.1 B.2.1 dX6_read_65 (by decide) (fun h9 => ?_) (fun h9 => ?_)
  · rw [if_pos (fun q => h9 ((z_eq (hGσ _ _)).mpr q))] at h
    exact a_X6_read_101 K hQ hX _ h hGσ hYσ hE hth _ _ _ hH (lv_sub (l' := [(0, .ref th)]) hl [0] rfl) hc
  · rw [if_neg (fun q => q ((z_eq (hGσ _ _)).mp h9))] at h
    exact a_X6_read_68 K hQ hX hK44 _ _ g4 h hGσ hYσ hE hth _ _ _ hH (lv_sub (l' := [(0, .ref th), (4, .int (i32 v4))]) hl [0, 1] rfl) hc
set_option maxRecDepth 20000 in
theorem a_X6_read_51 {Q : Sg → Int → Prop} {X : Sg → String → Prop} {th : Nat} (K : MD l R p s m args c cX6_read 5 RX6 D cA tys A n0 s0 163 11266 [(37, 101, 104, 64)]) (hQ : CQI p l e R s m args below meth c cX6_read D cA A n0 s0 QM σi Q) (hX : CX p l e R s m args below meth c 5 D cA A n0 s0 QM σi X) {K44 : Sg → Int → Prop} (hK44 : ∀ (σ : Sg) (v4 : Int) (g4 : rng v4), K44 σ v4 → RG σ → TY σ → Ext σi σ → kO σ th 6 → JJ p l e R s m args below meth c 5 D cA A n0 s0 QM σ 44 [(0, .ref th), (4, .int (i32 v4))] []) : ∀ (σ : Sg) (v4 : Int) (g4 : rng v4), w_X6_read_51 th K44 Q X σ v4 → RG σ → TY σ → Ext σi σ → kO σ th 6 → JJ p l e R s m args below meth c 5 D cA A n0 s0 QM σ 51 [(0, .ref th), (4, .int (i32 v4))] [] := by
  intro σ v4 g4 h hGσ hYσ hE hth H locs ls hH hl hc
  have B := K.1
  have hl9 := K.2.2.2.2.2.2
  unfold w_X6_read_51 at h
  refine lv_aload_n B.1 B.2.1 dX6_read_51 rfl (lv_at hl 0 rfl) ?_
  refine f_geti B hH hth (by decide) rfl wu_X6 3 (by decide) wf_X6_43 rfl rfl dX6_read_52 ?_
  refine lv_if_ne (tgt := 68) B.1 B.2.1 dX6_read_55 (by decide) (fun h9 => ?_) (fun h9 => ?_)
  · rw [if_pos (fun q => h9 ((z_eq (hGσ _ _)).mpr q))] at h
    exact a_X6_read_68 K hQ hX hK44 _ _ g4 h hGσ hYσ hE hth _ _ _ hH (lv_sub (l' := [(0, .ref th), (4, .int (i32 v4))]) hl [0, 1] rfl) hc
  · rw [if_neg (fun q => q ((z_eq (hGσ _ _)).mp h9))] at h
    exact a_X6_read_58 K hQ hX hK44 _ _ g4 h hGσ hYσ hE hth _ _ _ hH (lv_sub (l' := [(0, .ref th), (4, .int (i32 v4))]) hl [0, 1] rfl) hc
set_option maxRecDepth 20000 in
theorem a_X6_read_44 {Q : Sg → Int → Prop} {X : Sg → String → Prop} {th : Nat} (K : MD l R p s m args c cX6_read 5 RX6 D cA tys A n0 s0 163 11266 [(37, 101, 104, 64)]) (hQ : CQI p l e R s m args below meth c cX6_read D cA A n0 s0 QM σi Q) (hX : CX p l e R s m args below meth c 5 D cA A n0 s0 QM σi X) {K44 : Sg → Int → Prop} (hK44 : ∀ (σ : Sg) (v4 : Int) (g4 : rng v4), K44 σ v4 → RG σ → TY σ → Ext σi σ → kO σ th 6 → JJ p l e R s m args below meth c 5 D cA A n0 s0 QM σ 44 [(0, .ref th), (4, .int (i32 v4))] []) : ∀ (σ : Sg) (v4 : Int) (g4 : rng v4), w_X6_read_44 th K44 Q X σ v4 → RG σ → TY σ → Ext σi σ → kO σ th 6 → JJ p l e R s m args below meth c 5 D cA A n0 s0 QM σ 44 [(0, .ref th), (4, .int (i32 v4))] [] := by
  intro σ v4 g4 h hGσ hYσ hE hth H locs ls hH hl hc
  have B := K.1
  have hl9 := K.2.2.2.2.2.2
  unfold w_X6_read_44 at h
  refine lv_iload B.1 B.2.1 dX6_read_44 (lv_at hl 1 rfl) ?_
  refine lv_bipush (v := i32 16) B.1 B.2.1 dX6_read_46 (by decide) ?_
  refine lv_icmp_gt (tgt := 101) B.1 B.2.1 dX6_read_48 (by decide) (fun h9 => ?_) (fun h9 => ?_)
  · rw [if_pos ((i32_lt (by unfold rng; omega) g4).mp h9)] at h
    exact a_X6_read_101 K hQ hX _ h hGσ hYσ hE hth _ _ _ hH (lv_sub (l' := [(0, .ref th)]) hl [0] rfl) hc
  · rw [if_neg (fun q => h9 ((i32_lt (by unfold rng; omega) g4).mpr q))] at h
    exact a_X6_read_51 K hQ hX hK44 _ _ g4 h hGσ hYσ hE hth _ _ _ hH (lv_sub (l' := [(0, .ref th), (4, .int (i32 v4))]) hl [0, 1] rfl) hc
theorem al_X6_read_44 {Q : Sg → Int → Prop} {X : Sg → String → Prop} {th : Nat} (K : MD l R p s m args c cX6_read 5 RX6 D cA tys A n0 s0 163 11266 [(37, 101, 104, 64)]) (hQ : CQI p l e R s m args below meth c cX6_read D cA A n0 s0 QM σi Q) (hX : CX p l e R s m args below meth c 5 D cA A n0 s0 QM σi X) : ∀ (n : Nat), ∀ (σ : Sg) (v4 : Int) (g4 : rng v4), wl_X6_read_44 th Q X n σ v4 → RG σ → TY σ → Ext σi σ → kO σ th 6 → JJ p l e R s m args below meth c 5 D cA A n0 s0 QM σ 44 [(0, .ref th), (4, .int (i32 v4))] [] := by
  intro n
  induction n with
  | zero => intro σ v4 g4 h; exact h.elim
  | succ n ih => exact fun σ v4 g4 h => a_X6_read_44 K hQ hX ih σ v4 g4 h
set_option maxRecDepth 20000 in
theorem a_X6_read_37 {Q : Sg → Int → Prop} {X : Sg → String → Prop} {th : Nat} (K : MD l R p s m args c cX6_read 5 RX6 D cA tys A n0 s0 163 11266 [(37, 101, 104, 64)]) (hQ : CQI p l e R s m args below meth c cX6_read D cA A n0 s0 QM σi Q) (hX : CX p l e R s m args below meth c 5 D cA A n0 s0 QM σi X) : ∀ (σ : Sg), w_X6_read_37 th Q X σ → RG σ → TY σ → Ext σi σ → kO σ th 6 → JJ p l e R s m args below meth c 5 D cA A n0 s0 QM σ 37 [(0, .ref th)] [] := by
  intro σ h hGσ hYσ hE hth H locs ls hH hl hc
  have B := K.1
  have hl9 := K.2.2.2.2.2.2
  unfold w_X6_read_37 at h
  refine lv_aload_n B.1 B.2.1 dX6_read_37 rfl (lv_at hl 0 rfl) ?_
  refine W.eq (g2 := F0 m 38 ls [.ref th]) (rfl) ?_
  refine c_V B hH hl hc K.2.2.1 (C := RX6) (T := TX6) (N := 9) (ci := 6) (As := []) (ok_X6_next hl9 K.2.1 σ th hth hGσ hYσ h) wc_X6_40 0 hd_X6_next ⟨Nat.le_trans (Nat.le_of_ble_eq_true rfl) K.2.2.2.1, Nat.le_trans (Nat.le_of_ble_eq_true rfl) K.2.2.2.2.1⟩ hth.1 hth.2 (by decide) rfl rfl (rest := []) rfl (Nat.le_of_ble_eq_true rfl) dX6_read_38 (fun σ44 w hq => ?_) (fun σ9 E9 hx9 => (by obtain ⟨h9, hG9, hY9, xσ9⟩ := hx9; obtain ⟨rfl, h⟩ := h9 xσ9; exact h_catchP B [] (K.2.2.2.2.2.1.trans rfl) rfl rfl (by decide) wl_X6_64 (by decide) (fun q9 H locs ls hH hl hc => a_X6_read_104 K hQ hX σ9 (some q9) (h (some q9)) hG9 hY9 (hE.trans xσ9) (hth.up xσ9) H locs ls hH (lv_sub (l' := [(0, .ref th)]) hl [0] rfl) hc)))
  obtain ⟨rfl, h, hGσ44, hYσ44, xσ44⟩ := hq
  have h := h xσ44
  intro H locs ls hH hl hc
  refine W.eq (g2 := F0 m 41 ls []) (rfl) ?_
  try dsimp only at h
  refine lv_iconst (v := i32 0) B.1 B.2.1 dX6_read_41 (by decide) ?_
  refine lv_istore (lv' := [(4, .int (i32 0)), (0, .ref th)]) B.1 B.2.1 dX6_read_42 hl (by decide) rfl (fun ls hl => ?_)
  obtain ⟨n9, h⟩ := h
  exact al_X6_read_44 K hQ hX n9 _ _ (by unfold rng; omega) h hGσ44 hYσ44 (hE.trans xσ44) (hth.up xσ44) _ _ _ hH (lv_sub (l' := [(0, .ref th), (4, .int (i32 0))]) hl [1, 0] rfl) hc
set_option maxRecDepth 20000 in
theorem a_X6_read_0 {Q : Sg → Int → Prop} {X : Sg → String → Prop} {th : Nat} (K : MD l R p s m args c cX6_read 5 RX6 D cA tys A n0 s0 163 11266 [(37, 101, 104, 64)]) (hQ : CQI p l e R s m args below meth c cX6_read D cA A n0 s0 QM σi Q) (hX : CX p l e R s m args below meth c 5 D cA A n0 s0 QM σi X) : ∀ (σ : Sg) (v1 : Option Nat) (v2 : Int) (v3 : Option Nat) (g1 : tyV σ 102 v1) (g2 : rng v2) (g3 : tyV σ 4 v3), w_X6_read_0 th Q X σ v1 v2 v3 → RG σ → TY σ → Ext σi σ → kO σ th 6 → JJ p l e R s m args below meth c 5 D cA A n0 s0 QM σ 0 [(0, .ref th), (1, va_rf v1), (2, .int (i32 v2)), (3, va_rf v3)] [] := by
  intro σ v1 v2 v3 g1 g2 g3 h hGσ hYσ hE hth H locs ls hH hl hc
  have B := K.1
  have hl9 := K.2.2.2.2.2.2
  unfold w_X6_read_0 at h
  refine lv_aload_n B.1 B.2.1 dX6_read_0 rfl (lv_at hl 0 rfl) ?_
  refine lv_aload_nQ B.1 B.2.1 dX6_read_1 rfl (lv_at hl 1 rfl) ?_
  obtain ⟨σ45, eσ45⟩ : ∃ z, z = pP σ th 0 v1 := ⟨_, rfl⟩
  have h := h σ45 eσ45
  refine W.eq (g2 := F0 m 2 ls [va_rf v1, .ref th]) (rfl) ?_
  refine f_putp B hH hth (by decide) rfl wu_X6 tyX6 tyX6_ok nmX6 0 (by decide) wf_X6_9 rfl (r := v1) (ty := .array .byte) rfl rfl rfl (nrA _ _) (ftA _ _) dX6_read_2 (fun H locs hH => ?_)
  have hH : Hd D cA A s (pP σ th 0 v1) H locs := hH
  rw [← eσ45] at hH
  have hGσ45 : RG σ45 := by rw [eσ45]; exact hGσ.pP
  have hYσ45 : TY σ45 := by rw [eσ45]; exact hYσ.pP hth (d := 102) (by decide) g1
  have xσ45 : Ext σ σ45 := by rw [eσ45]; exact Ext.pP
  have hc : CB n0 s0 σ45 := by rw [eσ45]; exact hc
  rw [show gc σ = gc σ45 by rw [eσ45]; try rfl, show gs σ = gs σ45 by rw [eσ45]; try rfl]
  refine lv_aload_n B.1 B.2.1 dX6_read_5 rfl (lv_at hl 0 rfl) ?_
  refine lv_iload_n B.1 B.2.1 dX6_read_6 rfl (lv_at hl 2 rfl) ?_
  refine lv_aload_nQ B.1 B.2.1 dX6_read_7 rfl (lv_at hl 1 rfl) ?_
  obtain ⟨a46, ea46, h⟩ := h
  have ka46 : kO σ45 a46 102 := (g1.up xσ45) a46 ea46
  have h := h ka46
  refine W.eq (g2 := F0 m 8 ls [.ref a46, .int (i32 v2), .ref th]) (by rw [ea46]; rfl) ?_
  refine h_alen B hH ka46.1 (by decide) ka46.2 2 K.2.1.1.2.2.1 dX6_read_8 ?_
  refine c_S B hH hl hc K.2.2.1 (As := [.int (i32 v2), .int (i32 (gn σ45 a46 : Int))]) (okC_J9_min_7cf53 hl9 K.2.1 σ45 v2 (gn σ45 a46 : Int) g2 (rng_gn (hYσ45.2 _)) hGσ45 hYσ45 h) wc_X6_15 2 hdC_J9_min_7cf53 ⟨Nat.le_trans (Nat.le_of_ble_eq_true rfl) K.2.2.2.1, Nat.le_trans (Nat.le_of_ble_eq_true rfl) K.2.2.2.2.1⟩ rfl (rest := [.ref th]) rfl (Nat.le_of_ble_eq_true rfl) dX6_read_9 (fun σ47 w hq => ?_) (fun σ9 E9 hx9 => hX σ9 E9 _ _ _ (tb_out K.2.2.2.2.2.1 rfl) hx9.1 hx9.2.1 hx9.2.2.1 ((hE.trans xσ45).trans hx9.2.2.2))
  obtain ⟨r48, rfl, gr48, h, hGσ47, hYσ47, xσ47⟩ := hq
  have h := h xσ47
  intro H locs ls hH hl hc
  refine W.eq (g2 := F0 m 12 ls [.int (i32 r48), .ref th]) (rfl) ?_
  try dsimp only at h
  obtain ⟨σ49, eσ49⟩ : ∃ z, z = pI σ47 th 1 r48 := ⟨_, rfl⟩
  have h := h σ49 eσ49
  refine f_puti B hH (hth.up (xσ45.trans xσ47)) (by decide) rfl wu_X6 tyX6 tyX6_ok nmX6 1 (by decide) wf_X6_21 rfl (ty := .int) rfl rfl rfl rfl rfl dX6_read_12 (fun H locs hH => ?_)
  have hH : Hd D cA A s (pI σ47 th 1 r48) H locs := hH
  rw [← eσ49] at hH
  have hGσ49 : RG σ49 := by rw [eσ49]; exact hGσ47.pI gr48
  have hYσ49 : TY σ49 := by rw [eσ49]; exact hYσ47.pI
  have xσ49 : Ext σ47 σ49 := by rw [eσ49]; exact Ext.pI
  have hc : CB n0 s0 σ49 := by rw [eσ49]; exact hc
  rw [show gc σ47 = gc σ49 by rw [eσ49]; try rfl, show gs σ47 = gs σ49 by rw [eσ49]; try rfl]
  refine lv_aload_n B.1 B.2.1 dX6_read_15 rfl (lv_at hl 0 rfl) ?_
  refine lv_iconst (v := i32 0) B.1 B.2.1 dX6_read_16 (by decide) ?_
  obtain ⟨σ50, eσ50⟩ : ∃ z, z = pI σ49 th 2 0 := ⟨_, rfl⟩
  have h := h σ50 eσ50
  refine f_puti B hH (hth.up (xσ45.trans (xσ47.trans xσ49))) (by decide) rfl wu_X6 tyX6 tyX6_ok nmX6 2 (by decide) wf_X6_25 rfl (ty := .int) rfl rfl rfl rfl rfl dX6_read_17 (fun H locs hH => ?_)
  have hH : Hd D cA A s (pI σ49 th 2 0) H locs := hH
  rw [← eσ50] at hH
  have hGσ50 : RG σ50 := by rw [eσ50]; exact hGσ49.pI (by unfold rng; omega)
  have hYσ50 : TY σ50 := by rw [eσ50]; exact hYσ49.pI
  have xσ50 : Ext σ49 σ50 := by rw [eσ50]; exact Ext.pI
  have hc : CB n0 s0 σ50 := by rw [eσ50]; exact hc
  rw [show gc σ49 = gc σ50 by rw [eσ50]; try rfl, show gs σ49 = gs σ50 by rw [eσ50]; try rfl]
  refine lv_aload_n B.1 B.2.1 dX6_read_20 rfl (lv_at hl 0 rfl) ?_
  refine lv_iconst (v := i32 0) B.1 B.2.1 dX6_read_21 (by decide) ?_
  obtain ⟨σ51, eσ51⟩ : ∃ z, z = pI σ50 th 6 0 := ⟨_, rfl⟩
  have h := h σ51 eσ51
  refine f_puti B hH (hth.up (xσ45.trans (xσ47.trans (xσ49.trans xσ50)))) (by decide) rfl wu_X6 tyX6 tyX6_ok nmX6 6 (by decide) wf_X6_28 rfl (ty := .int) rfl rfl rfl rfl rfl dX6_read_22 (fun H locs hH => ?_)
  have hH : Hd D cA A s (pI σ50 th 6 0) H locs := hH
  rw [← eσ51] at hH
  have hGσ51 : RG σ51 := by rw [eσ51]; exact hGσ50.pI (by unfold rng; omega)
  have hYσ51 : TY σ51 := by rw [eσ51]; exact hYσ50.pI
  have xσ51 : Ext σ50 σ51 := by rw [eσ51]; exact Ext.pI
  have hc : CB n0 s0 σ51 := by rw [eσ51]; exact hc
  rw [show gc σ50 = gc σ51 by rw [eσ51]; try rfl, show gs σ50 = gs σ51 by rw [eσ51]; try rfl]
  refine lv_aload_n B.1 B.2.1 dX6_read_25 rfl (lv_at hl 0 rfl) ?_
  refine lv_aload_nQ B.1 B.2.1 dX6_read_26 rfl (lv_at hl 3 rfl) ?_
  obtain ⟨σ52, eσ52⟩ : ∃ z, z = pP σ51 th 7 v3 := ⟨_, rfl⟩
  have h := h σ52 eσ52
  refine W.eq (g2 := F0 m 27 ls [va_rf v3, .ref th]) (rfl) ?_
  refine f_putp B hH (hth.up (xσ45.trans (xσ47.trans (xσ49.trans (xσ50.trans xσ51))))) (by decide) rfl wu_X6 tyX6 tyX6_ok nmX6 7 (by decide) wf_X6_31 rfl (r := v3) (ty := .object "StreamHouse$Job") rfl rfl rfl (nrO _ _) (ftO _ _) dX6_read_27 (fun H locs hH => ?_)
  have hH : Hd D cA A s (pP σ51 th 7 v3) H locs := hH
  rw [← eσ52] at hH
  have hGσ52 : RG σ52 := by rw [eσ52]; exact hGσ51.pP
  have hYσ52 : TY σ52 := by rw [eσ52]; exact hYσ51.pP (hth.up (xσ45.trans (xσ47.trans (xσ49.trans (xσ50.trans xσ51))))) (d := 4) (by decide) (g3.up (xσ45.trans (xσ47.trans (xσ49.trans (xσ50.trans xσ51)))))
  have xσ52 : Ext σ51 σ52 := by rw [eσ52]; exact Ext.pP
  have hc : CB n0 s0 σ52 := by rw [eσ52]; exact hc
  rw [show gc σ51 = gc σ52 by rw [eσ52]; try rfl, show gs σ51 = gs σ52 by rw [eσ52]; try rfl]
  refine lv_aload_n B.1 B.2.1 dX6_read_30 rfl (lv_at hl 0 rfl) ?_
  refine f_getp B hH (hth.up (xσ45.trans (xσ47.trans (xσ49.trans (xσ50.trans (xσ51.trans xσ52)))))) (by decide) rfl wu_X6 7 (by decide) wf_X6_31 rfl rfl dX6_read_31 ?_
  obtain ⟨a54, ea54, h⟩ := h
  have ka54 : kO σ52 a54 4 := (hYσ52.get (hth.up (xσ45.trans (xσ47.trans (xσ49.trans (xσ50.trans (xσ51.trans xσ52)))))) (by decide)) a54 ea54
  have h := h ka54
  refine W.eq (g2 := F0 m 34 ls [.ref a54]) (by rw [ea54]; rfl) ?_
  refine c_V B hH hl hc K.2.2.1 (C := RX4) (T := TX4) (N := 14) (ci := 4) (As := []) (ok_X4_forget hl9 K.2.1 σ52 a54 ka54 hGσ52 hYσ52 h) wc_X6_35 0 hd_X4_forget ⟨Nat.le_trans (Nat.le_of_ble_eq_true rfl) K.2.2.2.1, Nat.le_trans (Nat.le_of_ble_eq_true rfl) K.2.2.2.2.1⟩ ka54.1 ka54.2 (by decide) rfl rfl (rest := []) rfl (Nat.le_of_ble_eq_true rfl) dX6_read_34 (fun σ53 w hq => ?_) (fun σ9 E9 hx9 => hX σ9 E9 _ _ _ (tb_out K.2.2.2.2.2.1 rfl) hx9.1 hx9.2.1 hx9.2.2.1 (((((((hE.trans xσ45).trans xσ47).trans xσ49).trans xσ50).trans xσ51).trans xσ52).trans hx9.2.2.2))
  obtain ⟨rfl, h, hGσ53, hYσ53, xσ53⟩ := hq
  have h := h xσ53
  intro H locs ls hH hl hc
  refine W.eq (g2 := F0 m 37 ls []) (rfl) ?_
  try dsimp only at h
  exact a_X6_read_37 K hQ hX _ h hGσ53 hYσ53 (((((((hE.trans xσ45).trans xσ47).trans xσ49).trans xσ50).trans xσ51).trans xσ52).trans xσ53) (hth.up (xσ45.trans (xσ47.trans (xσ49.trans (xσ50.trans (xσ51.trans (xσ52.trans xσ53))))))) _ _ _ hH (lv_sub (l' := [(0, .ref th)]) hl [0] rfl) hc
theorem ok_X6_read (hl0 : l.stackTraces = false) (hT : TyC cA tys) {Q : Sg → Int → Prop} {X : Sg → String → Prop} (σ : Sg) (th : Nat) (v1 : Option Nat) (v2 : Int) (v3 : Option Nat) (g1 : tyV σ 102 v1) (g2 : rng v2) (g3 : tyV σ 4 v3) (hth : kO σ th 6) (hG : RG σ) (hY : TY σ) (h : wp_X6_read th v1 v2 v3 σ Q X) : Ok l D cA tys A yX6_read (.codeWith yX6_read cX6_read 5 (some .int) [(37, 101, 104, 64)]) 163 11266 [.ref th, va_rf v1, .int (i32 v2), va_rf v3] σ (QcI σ Q) (QxC σ X) := by
  unfold wp_X6_read at h
  exact oc_IH hl0 (by decide) (by cases v1 <;> cases v3 <;> exact Nat.le_of_ble_eq_true rfl) hT (fun p e R s m args below meth c K hQ hX H locs ls hH hl hc => a_X6_read_0 K hQ hX σ v1 v2 v3 g1 g2 g3 h hG hY (Ext.rfl' σ) hth H locs ls hH (lv_sub (l' := [(0, .ref th), (1, va_rf v1), (2, .int (i32 v2)), (3, va_rf v3)]) hl [0, 1, 2, 3] (by cases v1 <;> cases v3 <;> rfl)) hc)
theorem dX12_job_0 : decode cX12_job 0 = .ok (.aload_n 0, 1) := by decide +kernel
theorem dX12_job_1 : decode cX12_job 1 = .ok (.getfield 13, 3) := by decide +kernel
theorem dX12_job_4 : decode cX12_job 4 = .ok (.istore_n 1, 1) := by decide +kernel
theorem dX12_job_5 : decode cX12_job 5 = .ok (.aload_n 0, 1) := by decide +kernel
theorem dX12_job_6 : decode cX12_job 6 = .ok (.iconst 0, 1) := by decide +kernel
theorem dX12_job_7 : decode cX12_job 7 = .ok (.putfield 13, 3) := by decide +kernel
theorem dX12_job_10 : decode cX12_job 10 = .ok (.aload_n 0, 1) := by decide +kernel
theorem dX12_job_11 : decode cX12_job 11 = .ok (.getfield 49, 3) := by decide +kernel
theorem dX12_job_14 : decode cX12_job 14 = .ok (.getfield 66, 3) := by decide +kernel
theorem dX12_job_17 : decode cX12_job 17 = .ok (.getfield 70, 3) := by decide +kernel
theorem dX12_job_20 : decode cX12_job 20 = .ok (.ifCond .eq 11, 3) := by decide +kernel
theorem dX12_job_23 : decode cX12_job 23 = .ok (.new 76, 3) := by decide +kernel
theorem dX12_job_26 : decode cX12_job 26 = .ok (.dup, 1) := by decide +kernel
theorem dX12_job_27 : decode cX12_job 27 = .ok (.invokespecial 78, 3) := by decide +kernel
theorem dX12_job_30 : decode cX12_job 30 = .ok (.athrow, 1) := by decide +kernel
theorem dX12_job_31 : decode cX12_job 31 = .ok (.aload_n 0, 1) := by decide +kernel
theorem dX12_job_32 : decode cX12_job 32 = .ok (.aload_n 0, 1) := by decide +kernel
theorem dX12_job_33 : decode cX12_job 33 = .ok (.getfield 23, 3) := by decide +kernel
theorem dX12_job_36 : decode cX12_job 36 = .ok (.aload_n 0, 1) := by decide +kernel
theorem dX12_job_37 : decode cX12_job 37 = .ok (.getfield 9, 3) := by decide +kernel
theorem dX12_job_40 : decode cX12_job 40 = .ok (.iload_n 1, 1) := by decide +kernel
theorem dX12_job_41 : decode cX12_job 41 = .ok (.aload_n 0, 1) := by decide +kernel
theorem dX12_job_42 : decode cX12_job 42 = .ok (.getfield 34, 3) := by decide +kernel
theorem dX12_job_45 : decode cX12_job 45 = .ok (.invokevirtual 79, 3) := by decide +kernel
theorem dX12_job_48 : decode cX12_job 48 = .ok (.putfield 17, 3) := by decide +kernel
theorem dX12_job_51 : decode cX12_job 51 = .ok (.aload_n 0, 1) := by decide +kernel
theorem dX12_job_52 : decode cX12_job 52 = .ok (.getfield 17, 3) := by decide +kernel
theorem dX12_job_55 : decode cX12_job 55 = .ok (.ifCond .eq 13, 3) := by decide +kernel
theorem dX12_job_58 : decode cX12_job 58 = .ok (.iconst (-1), 1) := by decide +kernel
theorem dX12_job_59 : decode cX12_job 59 = .ok (.aload_n 0, 1) := by decide +kernel
theorem dX12_job_60 : decode cX12_job 60 = .ok (.getfield 23, 3) := by decide +kernel
theorem dX12_job_63 : decode cX12_job 63 = .ok (.getfield 83, 3) := by decide +kernel
theorem dX12_job_66 : decode cX12_job 66 = .ok (.isub, 1) := by decide +kernel
theorem dX12_job_67 : decode cX12_job 67 = .ok (.ireturn, 1) := by decide +kernel
theorem dX12_job_68 : decode cX12_job 68 = .ok (.aload_n 0, 1) := by decide +kernel
theorem dX12_job_69 : decode cX12_job 69 = .ok (.getfield 30, 3) := by decide +kernel
theorem dX12_job_72 : decode cX12_job 72 = .ok (.astore_n 2, 1) := by decide +kernel
theorem dX12_job_73 : decode cX12_job 73 = .ok (.aload_n 0, 1) := by decide +kernel
theorem dX12_job_74 : decode cX12_job 74 = .ok (.aload_n 0, 1) := by decide +kernel
theorem dX12_job_75 : decode cX12_job 75 = .ok (.getfield 34, 3) := by decide +kernel
theorem dX12_job_78 : decode cX12_job 78 = .ok (.putfield 30, 3) := by decide +kernel
theorem dX12_job_81 : decode cX12_job 81 = .ok (.aload_n 0, 1) := by decide +kernel
theorem dX12_job_82 : decode cX12_job 82 = .ok (.aload_n 2, 1) := by decide +kernel
theorem dX12_job_83 : decode cX12_job 83 = .ok (.putfield 34, 3) := by decide +kernel
theorem dX12_job_86 : decode cX12_job 86 = .ok (.aload_n 0, 1) := by decide +kernel
theorem dX12_job_87 : decode cX12_job 87 = .ok (.getfield 49, 3) := by decide +kernel
theorem dX12_job_90 : decode cX12_job 90 = .ok (.invokevirtual 86, 3) := by decide +kernel
theorem dX12_job_93 : decode cX12_job 93 = .ok (.aload_n 0, 1) := by decide +kernel
theorem dX12_job_94 : decode cX12_job 94 = .ok (.getfield 30, 3) := by decide +kernel
theorem dX12_job_97 : decode cX12_job 97 = .ok (.getfield 89, 3) := by decide +kernel
theorem dX12_job_100 : decode cX12_job 100 = .ok (.ireturn, 1) := by decide +kernel
set_option maxRecDepth 20000 in
theorem a_X12_job_68 {Q : Sg → Int → Prop} {X : Sg → String → Prop} {th : Nat} (K : MD l R p s m args c cX12_job 3 RX12 D cA tys A n0 s0 164 11290 []) (hQ : CQI p l e R s m args below meth c cX12_job D cA A n0 s0 QM σi Q) (hX : CX p l e R s m args below meth c 3 D cA A n0 s0 QM σi X) (hTh : CT p l e R s m args below meth c cX12_job 3 D cA A n0 s0 QM σi RX12 X) : ∀ (σ : Sg), w_X12_job_68 th Q X σ → RG σ → TY σ → Ext σi σ → kO σ th 12 → JJ p l e R s m args below meth c 3 D cA A n0 s0 QM σ 68 [(0, .ref th)] [] := by
  intro σ h hGσ hYσ hE hth H locs ls hH hl hc
  have B := K.1
  have hl9 := K.2.2.2.2.2.2
  unfold w_X12_job_68 at h
  refine lv_aload_n B.1 B.2.1 dX12_job_68 rfl (lv_at hl 0 rfl) ?_
  refine f_getp B hH hth (by decide) rfl wu_X12 4 (by decide) wf_X12_30 rfl rfl dX12_job_69 ?_
  refine lv_astore_nQ (lv' := [(2, va_rf (gP σ th 4)), (0, .ref th)]) B.1 B.2.1 dX12_job_72 rfl hl (by decide) rfl (fun ls hl => ?_)
  refine lv_aload_n B.1 B.2.1 dX12_job_73 rfl (lv_at hl 1 rfl) ?_
  refine lv_aload_n B.1 B.2.1 dX12_job_74 rfl (lv_at hl 1 rfl) ?_
  refine f_getp B hH hth (by decide) rfl wu_X12 5 (by decide) wf_X12_34 rfl rfl dX12_job_75 ?_
  obtain ⟨σ27, eσ27⟩ : ∃ z, z = pP σ th 4 (gP σ th 5) := ⟨_, rfl⟩
  have h := h σ27 eσ27
  refine W.eq (g2 := F0 m 78 ls [va_rf (gP σ th 5), .ref th]) (rfl) ?_
  refine f_putp B hH hth (by decide) rfl wu_X12 tyX12 tyX12_ok nmX12 4 (by decide) wf_X12_30 rfl (r := (gP σ th 5)) (ty := .object "StreamHouse$Job") rfl rfl rfl (nrO _ _) (ftO _ _) dX12_job_78 (fun H locs hH => ?_)
  have hH : Hd D cA A s (pP σ th 4 (gP σ th 5)) H locs := hH
  rw [← eσ27] at hH
  have hGσ27 : RG σ27 := by rw [eσ27]; exact hGσ.pP
  have hYσ27 : TY σ27 := by rw [eσ27]; exact hYσ.pP hth (d := 4) (by decide) (hYσ.get hth (by decide))
  have xσ27 : Ext σ σ27 := by rw [eσ27]; exact Ext.pP
  have hc : CB n0 s0 σ27 := by rw [eσ27]; exact hc
  rw [show gc σ = gc σ27 by rw [eσ27]; try rfl, show gs σ = gs σ27 by rw [eσ27]; try rfl]
  refine lv_aload_n B.1 B.2.1 dX12_job_81 rfl (lv_at hl 1 rfl) ?_
  refine lv_aload_nQ B.1 B.2.1 dX12_job_82 rfl (lv_at hl 0 rfl) ?_
  obtain ⟨σ28, eσ28⟩ : ∃ z, z = pP σ27 th 5 (gP σ th 4) := ⟨_, rfl⟩
  have h := h σ28 eσ28
  refine W.eq (g2 := F0 m 83 ls [va_rf (gP σ th 4), .ref th]) (rfl) ?_
  refine f_putp B hH (hth.up xσ27) (by decide) rfl wu_X12 tyX12 tyX12_ok nmX12 5 (by decide) wf_X12_34 rfl (r := (gP σ th 4)) (ty := .object "StreamHouse$Job") rfl rfl rfl (nrO _ _) (ftO _ _) dX12_job_83 (fun H locs hH => ?_)
  have hH : Hd D cA A s (pP σ27 th 5 (gP σ th 4)) H locs := hH
  rw [← eσ28] at hH
  have hGσ28 : RG σ28 := by rw [eσ28]; exact hGσ27.pP
  have hYσ28 : TY σ28 := by rw [eσ28]; exact hYσ27.pP (hth.up xσ27) (d := 4) (by decide) ((hYσ.get hth (by decide)).up xσ27)
  have xσ28 : Ext σ27 σ28 := by rw [eσ28]; exact Ext.pP
  have hc : CB n0 s0 σ28 := by rw [eσ28]; exact hc
  rw [show gc σ27 = gc σ28 by rw [eσ28]; try rfl, show gs σ27 = gs σ28 by rw [eσ28]; try rfl]
  refine lv_aload_n B.1 B.2.1 dX12_job_86 rfl (lv_at hl 1 rfl) ?_
  refine f_getp B hH (hth.up (xσ27.trans xσ28)) (by decide) rfl wu_X12 7 (by decide) wf_X12_49 rfl rfl dX12_job_87 ?_
  obtain ⟨a30, ea30, h⟩ := h
  have ka30 : kO σ28 a30 9 := (hYσ28.get (hth.up (xσ27.trans xσ28)) (by decide)) a30 ea30
  have h := h ka30
  refine W.eq (g2 := F0 m 90 ls [.ref a30]) (by rw [ea30]; rfl) ?_
  refine c_V B hH hl hc K.2.2.1 (C := RX9) (T := TX9) (N := 20) (ci := 9) (As := []) (ok_X9_end hl9 K.2.1 σ28 a30 ka30 hGσ28 hYσ28 h) wc_X12_86 0 hd_X9_end ⟨Nat.le_trans (Nat.le_of_ble_eq_true rfl) K.2.2.2.1, Nat.le_trans (Nat.le_of_ble_eq_true rfl) K.2.2.2.2.1⟩ ka30.1 ka30.2 (by decide) rfl rfl (rest := []) rfl (Nat.le_of_ble_eq_true rfl) dX12_job_90 (fun σ29 w hq => ?_) (fun σ9 E9 hx9 => hX σ9 E9 _ _ _ (tb_out K.2.2.2.2.2.1 rfl) hx9.1 hx9.2.1 hx9.2.2.1 (((hE.trans xσ27).trans xσ28).trans hx9.2.2.2))
  obtain ⟨rfl, h, hGσ29, hYσ29, xσ29⟩ := hq
  have h := h xσ29
  intro H locs ls hH hl hc
  refine W.eq (g2 := F0 m 93 ls []) (rfl) ?_
  try dsimp only at h
  refine lv_aload_n B.1 B.2.1 dX12_job_93 rfl (lv_at hl 1 rfl) ?_
  refine f_getp B hH (hth.up (xσ27.trans (xσ28.trans xσ29))) (by decide) rfl wu_X12 4 (by decide) wf_X12_30 rfl rfl dX12_job_94 ?_
  obtain ⟨a31, ea31, h⟩ := h
  have ka31 : kO σ29 a31 4 := (hYσ29.get (hth.up (xσ27.trans (xσ28.trans xσ29))) (by decide)) a31 ea31
  have h := h ka31
  refine W.eq (g2 := F0 m 97 ls [.ref a31]) (by rw [ea31]; rfl) ?_
  refine f_geti B hH ka31 (by decide) rfl wu_X4 1 (by decide) wf_X12_89 rfl rfl dX12_job_97 ?_
  exact hQ _ _ _ _ _ _ (hGσ29 _ _) dX12_job_100 hH hc h hGσ29 hYσ29 (((hE.trans xσ27).trans xσ28).trans xσ29)
set_option maxRecDepth 20000 in
theorem a_X12_job_58 {Q : Sg → Int → Prop} {X : Sg → String → Prop} {th : Nat} (K : MD l R p s m args c cX12_job 3 RX12 D cA tys A n0 s0 164 11290 []) (hQ : CQI p l e R s m args below meth c cX12_job D cA A n0 s0 QM σi Q) (hX : CX p l e R s m args below meth c 3 D cA A n0 s0 QM σi X) (hTh : CT p l e R s m args below meth c cX12_job 3 D cA A n0 s0 QM σi RX12 X) : ∀ (σ : Sg), w_X12_job_58 th Q X σ → RG σ → TY σ → Ext σi σ → kO σ th 12 → JJ p l e R s m args below meth c 3 D cA A n0 s0 QM σ 58 [(0, .ref th)] [] := by
  intro σ h hGσ hYσ hE hth H locs ls hH hl hc
  have B := K.1
  have hl9 := K.2.2.2.2.2.2
  unfold w_X12_job_58 at h
  refine lv_iconst (v := i32 (-1)) B.1 B.2.1 dX12_job_58 (by decide) ?_
  refine lv_aload_n B.1 B.2.1 dX12_job_59 rfl (lv_at hl 0 rfl) ?_
  refine f_getp B hH hth (by decide) rfl wu_X12 3 (by decide) wf_X12_23 rfl rfl dX12_job_60 ?_
  obtain ⟨a32, ea32, h⟩ := h
  have ka32 : kO σ a32 6 := (hYσ.get hth (by decide)) a32 ea32
  have h := h ka32
  refine W.eq (g2 := F0 m 63 ls [.ref a32, .int (i32 (-1))]) (by rw [ea32]; rfl) ?_
  refine f_geti B hH ka32 (by decide) rfl wu_X6 5 (by decide) wf_X12_83 rfl rfl dX12_job_63 ?_
  refine lv_isub B.1 B.2.1 dX12_job_66 ?_
  rw [i32_sub]
  refine W.eq (g2 := F0 m 67 ls [.int (i32 (wr ((-1) - gI σ a32 5)))]) (by rw [i32_wr]) ?_
  exact hQ _ _ _ _ _ _ (rng_wr _) dX12_job_67 hH hc h hGσ hYσ hE
set_option maxRecDepth 20000 in
theorem a_X12_job_31 {Q : Sg → Int → Prop} {X : Sg → String → Prop} {th : Nat} (K : MD l R p s m args c cX12_job 3 RX12 D cA tys A n0 s0 164 11290 []) (hQ : CQI p l e R s m args below meth c cX12_job D cA A n0 s0 QM σi Q) (hX : CX p l e R s m args below meth c 3 D cA A n0 s0 QM σi X) (hTh : CT p l e R s m args below meth c cX12_job 3 D cA A n0 s0 QM σi RX12 X) : ∀ (σ : Sg) (v1 : Int) (g1 : rng v1), w_X12_job_31 th Q X σ v1 → RG σ → TY σ → Ext σi σ → kO σ th 12 → JJ p l e R s m args below meth c 3 D cA A n0 s0 QM σ 31 [(0, .ref th), (1, .int (i32 v1))] [] := by
  intro σ v1 g1 h hGσ hYσ hE hth H locs ls hH hl hc
  have B := K.1
  have hl9 := K.2.2.2.2.2.2
  unfold w_X12_job_31 at h
  refine lv_aload_n B.1 B.2.1 dX12_job_31 rfl (lv_at hl 0 rfl) ?_
  refine lv_aload_n B.1 B.2.1 dX12_job_32 rfl (lv_at hl 0 rfl) ?_
  refine f_getp B hH hth (by decide) rfl wu_X12 3 (by decide) wf_X12_23 rfl rfl dX12_job_33 ?_
  refine lv_aload_n B.1 B.2.1 dX12_job_36 rfl (lv_at hl 0 rfl) ?_
  refine f_getp B hH hth (by decide) rfl wu_X12 0 (by decide) wf_X12_9 rfl rfl dX12_job_37 ?_
  refine lv_iload_n B.1 B.2.1 dX12_job_40 rfl (lv_at hl 1 rfl) ?_
  refine lv_aload_n B.1 B.2.1 dX12_job_41 rfl (lv_at hl 0 rfl) ?_
  refine f_getp B hH hth (by decide) rfl wu_X12 5 (by decide) wf_X12_34 rfl rfl dX12_job_42 ?_
  obtain ⟨a35, ea35, h⟩ := h
  have ka35 : kO σ a35 6 := (hYσ.get hth (by decide)) a35 ea35
  have h := h ka35
  refine W.eq (g2 := F0 m 45 ls [va_rf (gP σ th 5), .int (i32 v1), va_rf (gP σ th 0), .ref a35, .ref th]) (by rw [ea35]; rfl) ?_
  refine c_VH B hH hl hc K.2.2.1 (C := RX6) (T := TX6) (N := 9) (ci := 6) (As := [va_rf (gP σ th 0), .int (i32 v1), va_rf (gP σ th 5)]) (ok_X6_read hl9 K.2.1 σ a35 (gP σ th 0) v1 (gP σ th 5) (hYσ.get hth (by decide)) g1 (hYσ.get hth (by decide)) ka35 hGσ hYσ h) wc_X12_79 3 hd_X6_read ⟨Nat.le_trans (Nat.le_of_ble_eq_true rfl) K.2.2.2.1, Nat.le_trans (Nat.le_of_ble_eq_true rfl) K.2.2.2.2.1⟩ ka35.1 ka35.2 (by decide) rfl rfl (rest := [.ref th]) rfl (Nat.le_of_ble_eq_true rfl) dX12_job_45 (fun σ33 w hq => ?_) (fun σ9 E9 hx9 => hX σ9 E9 _ _ _ (tb_out K.2.2.2.2.2.1 rfl) hx9.1 hx9.2.1 hx9.2.2.1 (hE.trans hx9.2.2.2))
  obtain ⟨r34, rfl, gr34, h, hGσ33, hYσ33, xσ33⟩ := hq
  have h := h xσ33
  intro H locs ls hH hl hc
  refine W.eq (g2 := F0 m 48 ls [.int (i32 r34), .ref th]) (rfl) ?_
  try dsimp only at h
  obtain ⟨σ36, eσ36⟩ : ∃ z, z = pI σ33 th 2 r34 := ⟨_, rfl⟩
  have h := h σ36 eσ36
  refine f_puti B hH (hth.up xσ33) (by decide) rfl wu_X12 tyX12 tyX12_ok nmX12 2 (by decide) wf_X12_17 rfl (ty := .int) rfl rfl rfl rfl rfl dX12_job_48 (fun H locs hH => ?_)
  have hH : Hd D cA A s (pI σ33 th 2 r34) H locs := hH
  rw [← eσ36] at hH
  have hGσ36 : RG σ36 := by rw [eσ36]; exact hGσ33.pI gr34
  have hYσ36 : TY σ36 := by rw [eσ36]; exact hYσ33.pI
  have xσ36 : Ext σ33 σ36 := by rw [eσ36]; exact Ext.pI
  have hc : CB n0 s0 σ36 := by rw [eσ36]; exact hc
  rw [show gc σ33 = gc σ36 by rw [eσ36]; try rfl, show gs σ33 = gs σ36 by rw [eσ36]; try rfl]
  refine lv_aload_n B.1 B.2.1 dX12_job_51 rfl (lv_at hl 0 rfl) ?_
  refine f_geti B hH (hth.up (xσ33.trans xσ36)) (by decide) rfl wu_X12 2 (by decide) wf_X12_17 rfl rfl dX12_job_52 ?_
  refine lv_if_eq (tgt := 68) B.1 B.2.1 dX12_job_55 (by decide) (fun h9 => ?_) (fun h9 => ?_)
  · rw [if_pos ((z_eq (hGσ36 _ _)).mp h9)] at h
    exact a_X12_job_68 K hQ hX hTh _ h hGσ36 hYσ36 ((hE.trans xσ33).trans xσ36) (hth.up (xσ33.trans xσ36)) _ _ _ hH (lv_sub (l' := [(0, .ref th)]) hl [0] rfl) hc
  · rw [if_neg (fun q => h9 ((z_eq (hGσ36 _ _)).mpr q))] at h
    exact a_X12_job_58 K hQ hX hTh _ h hGσ36 hYσ36 ((hE.trans xσ33).trans xσ36) (hth.up (xσ33.trans xσ36)) _ _ _ hH (lv_sub (l' := [(0, .ref th)]) hl [0] rfl) hc
set_option maxRecDepth 20000 in
theorem a_X12_job_23 {Q : Sg → Int → Prop} {X : Sg → String → Prop} {th : Nat} (K : MD l R p s m args c cX12_job 3 RX12 D cA tys A n0 s0 164 11290 []) (hQ : CQI p l e R s m args below meth c cX12_job D cA A n0 s0 QM σi Q) (hX : CX p l e R s m args below meth c 3 D cA A n0 s0 QM σi X) (hTh : CT p l e R s m args below meth c cX12_job 3 D cA A n0 s0 QM σi RX12 X) : ∀ (σ : Sg), w_X12_job_23 th Q X σ → RG σ → TY σ → Ext σi σ → kO σ th 12 → JJ p l e R s m args below meth c 3 D cA A n0 s0 QM σ 23 [(0, .ref th)] [] := by
  intro σ h hGσ hYσ hE hth H locs ls hH hl hc
  have B := K.1
  have hl9 := K.2.2.2.2.2.2
  unfold w_X12_job_23 at h
  obtain ⟨q9, h⟩ := h
  exact hTh _ _ _ _ _ _ _ _ _ tw_X12_76_78 dX12_job_23 dX12_job_26 dX12_job_27 dX12_job_30 hH hl hc q9 h hGσ hYσ hE (by have := K.2.2.2.1; omega) (by have := K.2.2.2.2.1; omega)
set_option maxRecDepth 20000 in
theorem a_X12_job_0 {Q : Sg → Int → Prop} {X : Sg → String → Prop} {th : Nat} (K : MD l R p s m args c cX12_job 3 RX12 D cA tys A n0 s0 164 11290 []) (hQ : CQI p l e R s m args below meth c cX12_job D cA A n0 s0 QM σi Q) (hX : CX p l e R s m args below meth c 3 D cA A n0 s0 QM σi X) (hTh : CT p l e R s m args below meth c cX12_job 3 D cA A n0 s0 QM σi RX12 X) : ∀ (σ : Sg), w_X12_job_0 th Q X σ → RG σ → TY σ → Ext σi σ → kO σ th 12 → JJ p l e R s m args below meth c 3 D cA A n0 s0 QM σ 0 [(0, .ref th)] [] := by
  intro σ h hGσ hYσ hE hth H locs ls hH hl hc
  have B := K.1
  have hl9 := K.2.2.2.2.2.2
  unfold w_X12_job_0 at h
  refine lv_aload_n B.1 B.2.1 dX12_job_0 rfl (lv_at hl 0 rfl) ?_
  refine f_geti B hH hth (by decide) rfl wu_X12 1 (by decide) wf_X12_13 rfl rfl dX12_job_1 ?_
  refine lv_istore_n (lv' := [(1, .int (i32 (gI σ th 1))), (0, .ref th)]) B.1 B.2.1 dX12_job_4 rfl hl (by decide) rfl (fun ls hl => ?_)
  refine lv_aload_n B.1 B.2.1 dX12_job_5 rfl (lv_at hl 1 rfl) ?_
  refine lv_iconst (v := i32 0) B.1 B.2.1 dX12_job_6 (by decide) ?_
  obtain ⟨σ37, eσ37⟩ : ∃ z, z = pI σ th 1 0 := ⟨_, rfl⟩
  have h := h σ37 eσ37
  refine f_puti B hH hth (by decide) rfl wu_X12 tyX12 tyX12_ok nmX12 1 (by decide) wf_X12_13 rfl (ty := .int) rfl rfl rfl rfl rfl dX12_job_7 (fun H locs hH => ?_)
  have hH : Hd D cA A s (pI σ th 1 0) H locs := hH
  rw [← eσ37] at hH
  have hGσ37 : RG σ37 := by rw [eσ37]; exact hGσ.pI (by unfold rng; omega)
  have hYσ37 : TY σ37 := by rw [eσ37]; exact hYσ.pI
  have xσ37 : Ext σ σ37 := by rw [eσ37]; exact Ext.pI
  have hc : CB n0 s0 σ37 := by rw [eσ37]; exact hc
  rw [show gc σ = gc σ37 by rw [eσ37]; try rfl, show gs σ = gs σ37 by rw [eσ37]; try rfl]
  refine lv_aload_n B.1 B.2.1 dX12_job_10 rfl (lv_at hl 1 rfl) ?_
  refine f_getp B hH (hth.up xσ37) (by decide) rfl wu_X12 7 (by decide) wf_X12_49 rfl rfl dX12_job_11 ?_
  obtain ⟨a38, ea38, h⟩ := h
  have ka38 : kO σ37 a38 9 := (hYσ37.get (hth.up xσ37) (by decide)) a38 ea38
  have h := h ka38
  refine W.eq (g2 := F0 m 14 ls [.ref a38]) (by rw [ea38]; rfl) ?_
  refine f_getp B hH ka38 (by decide) rfl wu_X9 2 (by decide) wf_X12_66 rfl rfl dX12_job_14 ?_
  obtain ⟨a39, ea39, h⟩ := h
  have ka39 : kO σ37 a39 3 := (hYσ37.get ka38 (by decide)) a39 ea39
  have h := h ka39
  refine W.eq (g2 := F0 m 17 ls [.ref a39]) (by rw [ea39]; rfl) ?_
  refine f_geti B hH ka39 (by decide) rfl wu_X3 9 (by decide) wf_X12_70 rfl rfl dX12_job_17 ?_
  refine lv_if_eq (tgt := 31) B.1 B.2.1 dX12_job_20 (by decide) (fun h9 => ?_) (fun h9 => ?_)
  · rw [if_pos ((z_eq (hGσ37 _ _)).mp h9)] at h
    exact a_X12_job_31 K hQ hX hTh _ _ (hGσ _ _) h hGσ37 hYσ37 (hE.trans xσ37) (hth.up xσ37) _ _ _ hH (lv_sub (l' := [(0, .ref th), (1, .int (i32 (gI σ th 1)))]) hl [1, 0] rfl) hc
  · rw [if_neg (fun q => h9 ((z_eq (hGσ37 _ _)).mpr q))] at h
    exact a_X12_job_23 K hQ hX hTh _ h hGσ37 hYσ37 (hE.trans xσ37) (hth.up xσ37) _ _ _ hH (lv_sub (l' := [(0, .ref th)]) hl [1] rfl) hc
theorem ok_X12_job (hl0 : l.stackTraces = false) (hT : TyC cA tys) {Q : Sg → Int → Prop} {X : Sg → String → Prop} (σ : Sg) (th : Nat) (hth : kO σ th 12) (hG : RG σ) (hY : TY σ) (h : wp_X12_job th σ Q X) : Ok l D cA tys A yX12_job (.code yX12_job cX12_job 3 (some .int)) 164 11290 [.ref th] σ (QcI σ Q) (QxC σ X) := by
  unfold wp_X12_job at h
  exact oc_I hl0 (by decide) (by exact Nat.le_of_ble_eq_true rfl) hT (fun p e R s m args below meth c K hQ hX hTh H locs ls hH hl hc => a_X12_job_0 K hQ hX hTh σ h hG hY (Ext.rfl' σ) hth H locs ls hH (lv_sub (l' := [(0, .ref th)]) hl [0] rfl) hc)
theorem dX12_needOutput_0 : decode cX12_needOutput 0 = .ok (.iload_n 1, 1) := by decide +kernel
theorem dX12_needOutput_1 : decode cX12_needOutput 1 = .ok (.ifCond .lt 14, 3) := by decide +kernel
theorem dX12_needOutput_4 : decode cX12_needOutput 4 = .ok (.iload_n 1, 1) := by decide +kernel
theorem dX12_needOutput_5 : decode cX12_needOutput 5 = .ok (.aload_n 0, 1) := by decide +kernel
theorem dX12_needOutput_6 : decode cX12_needOutput 6 = .ok (.getfield 30, 3) := by decide +kernel
theorem dX12_needOutput_9 : decode cX12_needOutput 9 = .ok (.getfield 254, 3) := by decide +kernel
theorem dX12_needOutput_12 : decode cX12_needOutput 12 = .ok (.if_icmp .lt 11, 3) := by decide +kernel
theorem dX12_needOutput_15 : decode cX12_needOutput 15 = .ok (.new 92, 3) := by decide +kernel
theorem dX12_needOutput_18 : decode cX12_needOutput 18 = .ok (.dup, 1) := by decide +kernel
theorem dX12_needOutput_19 : decode cX12_needOutput 19 = .ok (.invokespecial 94, 3) := by decide +kernel
theorem dX12_needOutput_22 : decode cX12_needOutput 22 = .ok (.athrow, 1) := by decide +kernel
theorem dX12_needOutput_23 : decode cX12_needOutput 23 = .ok (.return_, 1) := by decide +kernel
set_option maxRecDepth 20000 in
theorem a_X12_needOutput_15 {Q : Sg → Unit → Prop} {X : Sg → String → Prop} {th : Nat} (K : MD l R p s m args c cX12_needOutput 2 RX12 D cA tys A n0 s0 6 90 []) (hQ : CQV p l e R s m args below meth c cX12_needOutput D cA A n0 s0 QM σi Q) (hX : CX p l e R s m args below meth c 2 D cA A n0 s0 QM σi X) (hTh : CT p l e R s m args below meth c cX12_needOutput 2 D cA A n0 s0 QM σi RX12 X) : ∀ (σ : Sg), w_X12_needOutput_15 th Q X σ → RG σ → TY σ → Ext σi σ → kO σ th 12 → JJ p l e R s m args below meth c 2 D cA A n0 s0 QM σ 15 [(0, .ref th)] [] := by
  intro σ h hGσ hYσ hE hth H locs ls hH hl hc
  have B := K.1
  have hl9 := K.2.2.2.2.2.2
  unfold w_X12_needOutput_15 at h
  obtain ⟨q9, h⟩ := h
  exact hTh _ _ _ _ _ _ _ _ _ tw_X12_92_94 dX12_needOutput_15 dX12_needOutput_18 dX12_needOutput_19 dX12_needOutput_22 hH hl hc q9 h hGσ hYσ hE (by have := K.2.2.2.1; omega) (by have := K.2.2.2.2.1; omega)
set_option maxRecDepth 20000 in
theorem a_X12_needOutput_23 {Q : Sg → Unit → Prop} {X : Sg → String → Prop} {th : Nat} (K : MD l R p s m args c cX12_needOutput 2 RX12 D cA tys A n0 s0 6 90 []) (hQ : CQV p l e R s m args below meth c cX12_needOutput D cA A n0 s0 QM σi Q) (hX : CX p l e R s m args below meth c 2 D cA A n0 s0 QM σi X) (hTh : CT p l e R s m args below meth c cX12_needOutput 2 D cA A n0 s0 QM σi RX12 X) : ∀ (σ : Sg), w_X12_needOutput_23 th Q X σ → RG σ → TY σ → Ext σi σ → kO σ th 12 → JJ p l e R s m args below meth c 2 D cA A n0 s0 QM σ 23 [(0, .ref th)] [] := by
  intro σ h hGσ hYσ hE hth H locs ls hH hl hc
  have B := K.1
  have hl9 := K.2.2.2.2.2.2
  unfold w_X12_needOutput_23 at h
  exact hQ _ _ _ _ _ dX12_needOutput_23 hH hc h hGσ hYσ hE
set_option maxRecDepth 20000 in
theorem a_X12_needOutput_4 {Q : Sg → Unit → Prop} {X : Sg → String → Prop} {th : Nat} (K : MD l R p s m args c cX12_needOutput 2 RX12 D cA tys A n0 s0 6 90 []) (hQ : CQV p l e R s m args below meth c cX12_needOutput D cA A n0 s0 QM σi Q) (hX : CX p l e R s m args below meth c 2 D cA A n0 s0 QM σi X) (hTh : CT p l e R s m args below meth c cX12_needOutput 2 D cA A n0 s0 QM σi RX12 X) : ∀ (σ : Sg) (v1 : Int) (g1 : rng v1), w_X12_needOutput_4 th Q X σ v1 → RG σ → TY σ → Ext σi σ → kO σ th 12 → JJ p l e R s m args below meth c 2 D cA A n0 s0 QM σ 4 [(0, .ref th), (1, .int (i32 v1))] [] := by
  intro σ v1 g1 h hGσ hYσ hE hth H locs ls hH hl hc
  have B := K.1
  have hl9 := K.2.2.2.2.2.2
  unfold w_X12_needOutput_4 at h
  refine lv_iload_n B.1 B.2.1 dX12_needOutput_4 rfl (lv_at hl 1 rfl) ?_
  refine lv_aload_n B.1 B.2.1 dX12_needOutput_5 rfl (lv_at hl 0 rfl) ?_
  refine f_getp B hH hth (by decide) rfl wu_X12 4 (by decide) wf_X12_30 rfl rfl dX12_needOutput_6 ?_
  obtain ⟨a3, ea3, h⟩ := h
  have ka3 : kO σ a3 4 := (hYσ.get hth (by decide)) a3 ea3
  have h := h ka3
  refine W.eq (g2 := F0 m 9 ls [.ref a3, .int (i32 v1)]) (by rw [ea3]; rfl) ?_
  refine f_geti B hH ka3 (by decide) rfl wu_X4 2 (by decide) wf_X12_254 rfl rfl dX12_needOutput_9 ?_
  refine lv_icmp_lt (tgt := 23) B.1 B.2.1 dX12_needOutput_12 (by decide) (fun h9 => ?_) (fun h9 => ?_)
  · rw [if_pos ((i32_lt g1 (hGσ _ _)).mp h9)] at h
    exact a_X12_needOutput_23 K hQ hX hTh _ h hGσ hYσ hE hth _ _ _ hH (lv_sub (l' := [(0, .ref th)]) hl [0] rfl) hc
  · rw [if_neg (fun q => h9 ((i32_lt g1 (hGσ _ _)).mpr q))] at h
    exact a_X12_needOutput_15 K hQ hX hTh _ h hGσ hYσ hE hth _ _ _ hH (lv_sub (l' := [(0, .ref th)]) hl [0] rfl) hc
set_option maxRecDepth 20000 in
theorem a_X12_needOutput_0 {Q : Sg → Unit → Prop} {X : Sg → String → Prop} {th : Nat} (K : MD l R p s m args c cX12_needOutput 2 RX12 D cA tys A n0 s0 6 90 []) (hQ : CQV p l e R s m args below meth c cX12_needOutput D cA A n0 s0 QM σi Q) (hX : CX p l e R s m args below meth c 2 D cA A n0 s0 QM σi X) (hTh : CT p l e R s m args below meth c cX12_needOutput 2 D cA A n0 s0 QM σi RX12 X) : ∀ (σ : Sg) (v1 : Int) (g1 : rng v1), w_X12_needOutput_0 th Q X σ v1 → RG σ → TY σ → Ext σi σ → kO σ th 12 → JJ p l e R s m args below meth c 2 D cA A n0 s0 QM σ 0 [(0, .ref th), (1, .int (i32 v1))] [] := by
  intro σ v1 g1 h hGσ hYσ hE hth H locs ls hH hl hc
  have B := K.1
  have hl9 := K.2.2.2.2.2.2
  unfold w_X12_needOutput_0 at h
  refine lv_iload_n B.1 B.2.1 dX12_needOutput_0 rfl (lv_at hl 1 rfl) ?_
  refine lv_if_lt (tgt := 15) B.1 B.2.1 dX12_needOutput_1 (by decide) (fun h9 => ?_) (fun h9 => ?_)
  · rw [if_pos ((z_lt g1).mp h9)] at h
    exact a_X12_needOutput_15 K hQ hX hTh _ h hGσ hYσ hE hth _ _ _ hH (lv_sub (l' := [(0, .ref th)]) hl [0] rfl) hc
  · rw [if_neg (fun q => h9 ((z_lt g1).mpr q))] at h
    exact a_X12_needOutput_4 K hQ hX hTh _ _ g1 h hGσ hYσ hE hth _ _ _ hH (lv_sub (l' := [(0, .ref th), (1, .int (i32 v1))]) hl [0, 1] rfl) hc
theorem ok_X12_needOutput (hl0 : l.stackTraces = false) (hT : TyC cA tys) {Q : Sg → Unit → Prop} {X : Sg → String → Prop} (σ : Sg) (th : Nat) (v1 : Int) (g1 : rng v1) (hth : kO σ th 12) (hG : RG σ) (hY : TY σ) (h : wp_X12_needOutput th v1 σ Q X) : Ok l D cA tys A yX12_needOutput (.code yX12_needOutput cX12_needOutput 2 none) 6 90 [.ref th, .int (i32 v1)] σ (QcV σ Q) (QxC σ X) := by
  unfold wp_X12_needOutput at h
  exact oc_V hl0 (by decide) (by exact Nat.le_of_ble_eq_true rfl) hT (fun p e R s m args below meth c K hQ hX hTh hin9 H locs ls hH hl hc => a_X12_needOutput_0 K hQ hX hTh σ v1 g1 h hG hY (Ext.rfl' σ) hth H locs ls hH (lv_sub (l' := [(0, .ref th), (1, .int (i32 v1))]) hl [0, 1] rfl) hc)
theorem dX1_at_0 : decode cX1_at 0 = .ok (.iload_n 1, 1) := by decide +kernel
theorem dX1_at_1 : decode cX1_at 1 = .ok (.ifCond .lt 11, 3) := by decide +kernel
theorem dX1_at_4 : decode cX1_at 4 = .ok (.iload_n 1, 1) := by decide +kernel
theorem dX1_at_5 : decode cX1_at 5 = .ok (.aload_n 0, 1) := by decide +kernel
theorem dX1_at_6 : decode cX1_at 6 = .ok (.getfield 23, 3) := by decide +kernel
theorem dX1_at_9 : decode cX1_at 9 = .ok (.if_icmp .lt 5, 3) := by decide +kernel
theorem dX1_at_12 : decode cX1_at 12 = .ok (.aconst_null, 1) := by decide +kernel
theorem dX1_at_13 : decode cX1_at 13 = .ok (.areturn, 1) := by decide +kernel
theorem dX1_at_14 : decode cX1_at 14 = .ok (.aload_n 0, 1) := by decide +kernel
theorem dX1_at_15 : decode cX1_at 15 = .ok (.getfield 20, 3) := by decide +kernel
theorem dX1_at_18 : decode cX1_at 18 = .ok (.astore_n 2, 1) := by decide +kernel
theorem dX1_at_19 : decode cX1_at 19 = .ok (.iconst 0, 1) := by decide +kernel
theorem dX1_at_20 : decode cX1_at 20 = .ok (.istore_n 3, 1) := by decide +kernel
theorem dX1_at_21 : decode cX1_at 21 = .ok (.iload_n 3, 1) := by decide +kernel
theorem dX1_at_22 : decode cX1_at 22 = .ok (.iload_n 1, 1) := by decide +kernel
theorem dX1_at_23 : decode cX1_at 23 = .ok (.if_icmp .ge 18, 3) := by decide +kernel
theorem dX1_at_26 : decode cX1_at 26 = .ok (.aload_n 2, 1) := by decide +kernel
theorem dX1_at_27 : decode cX1_at 27 = .ok (.ifnull 14, 3) := by decide +kernel
theorem dX1_at_30 : decode cX1_at 30 = .ok (.aload_n 2, 1) := by decide +kernel
theorem dX1_at_31 : decode cX1_at 31 = .ok (.getfield 9, 3) := by decide +kernel
theorem dX1_at_34 : decode cX1_at 34 = .ok (.astore_n 2, 1) := by decide +kernel
theorem dX1_at_35 : decode cX1_at 35 = .ok (.iinc 3 1, 3) := by decide +kernel
theorem dX1_at_38 : decode cX1_at 38 = .ok (.goto (-17), 3) := by decide +kernel
theorem dX1_at_41 : decode cX1_at 41 = .ok (.aload_n 2, 1) := by decide +kernel
theorem dX1_at_42 : decode cX1_at 42 = .ok (.areturn, 1) := by decide +kernel
set_option maxRecDepth 20000 in
theorem a_X1_at_12 {Q : Sg → Option Nat → Prop} {X : Sg → String → Prop} {th : Nat} (K : MD l R p s m args c cX1_at 4 RX1 D cA tys A n0 s0 0 0 []) (hQ : CQA p l e R s m args below meth c cX1_at D cA A n0 s0 QM σi 0 Q) (hX : CX p l e R s m args below meth c 4 D cA A n0 s0 QM σi X) (hTh : CT p l e R s m args below meth c cX1_at 4 D cA A n0 s0 QM σi RX1 X) : ∀ (σ : Sg), w_X1_at_12 th Q X σ → RG σ → TY σ → Ext σi σ → kO σ th 1 → JJ p l e R s m args below meth c 4 D cA A n0 s0 QM σ 12 [(0, .ref th)] [] := by
  intro σ h hGσ hYσ hE hth H locs ls hH hl hc
  have B := K.1
  have hl9 := K.2.2.2.2.2.2
  unfold w_X1_at_12 at h
  refine lv_null B.1 B.2.1 dX1_at_12 ?_
  refine W.eq (g2 := F0 m 13 ls [va_rf none]) (rfl) ?_
  exact hQ _ _ _ _ _ _ (tyn _ _) dX1_at_13 hH hc h hGσ hYσ hE
set_option maxRecDepth 20000 in
theorem a_X1_at_41 {Q : Sg → Option Nat → Prop} {X : Sg → String → Prop} {th : Nat} (K : MD l R p s m args c cX1_at 4 RX1 D cA tys A n0 s0 0 0 []) (hQ : CQA p l e R s m args below meth c cX1_at D cA A n0 s0 QM σi 0 Q) (hX : CX p l e R s m args below meth c 4 D cA A n0 s0 QM σi X) (hTh : CT p l e R s m args below meth c cX1_at 4 D cA A n0 s0 QM σi RX1 X) : ∀ (σ : Sg) (v2 : Option Nat) (g2 : tyV σ 0 v2), w_X1_at_41 th Q X σ v2 → RG σ → TY σ → Ext σi σ → kO σ th 1 → JJ p l e R s m args below meth c 4 D cA A n0 s0 QM σ 41 [(0, .ref th), (2, va_rf v2)] [] := by
  intro σ v2 g2 h hGσ hYσ hE hth H locs ls hH hl hc
  have B := K.1
  have hl9 := K.2.2.2.2.2.2
  unfold w_X1_at_41 at h
  refine lv_aload_nQ B.1 B.2.1 dX1_at_41 rfl (lv_at hl 1 rfl) ?_
  exact hQ _ _ _ _ _ _ g2 dX1_at_42 hH hc h hGσ hYσ hE
set_option maxRecDepth 20000 in
theorem a_X1_at_30 {Q : Sg → Option Nat → Prop} {X : Sg → String → Prop} {th : Nat} (K : MD l R p s m args c cX1_at 4 RX1 D cA tys A n0 s0 0 0 []) (hQ : CQA p l e R s m args below meth c cX1_at D cA A n0 s0 QM σi 0 Q) (hX : CX p l e R s m args below meth c 4 D cA A n0 s0 QM σi X) (hTh : CT p l e R s m args below meth c cX1_at 4 D cA A n0 s0 QM σi RX1 X) {K21 : Sg → Int → Option Nat → Int → Prop} (hK21 : ∀ (σ : Sg) (v1 : Int) (v2 : Option Nat) (v3 : Int) (g1 : rng v1) (g2 : tyV σ 0 v2) (g3 : rng v3), K21 σ v1 v2 v3 → RG σ → TY σ → Ext σi σ → kO σ th 1 → JJ p l e R s m args below meth c 4 D cA A n0 s0 QM σ 21 [(0, .ref th), (1, .int (i32 v1)), (2, va_rf v2), (3, .int (i32 v3))] []) : ∀ (σ : Sg) (v1 : Int) (v2 : Option Nat) (v3 : Int) (g1 : rng v1) (g2 : tyV σ 0 v2) (g3 : rng v3), w_X1_at_30 th K21 Q X σ v1 v2 v3 → RG σ → TY σ → Ext σi σ → kO σ th 1 → JJ p l e R s m args below meth c 4 D cA A n0 s0 QM σ 30 [(0, .ref th), (1, .int (i32 v1)), (2, va_rf v2), (3, .int (i32 v3))] [] := by
  intro σ v1 v2 v3 g1 g2 g3 h hGσ hYσ hE hth H locs ls hH hl hc
  have B := K.1
  have hl9 := K.2.2.2.2.2.2
  unfold w_X1_at_30 at h
  refine lv_aload_nQ B.1 B.2.1 dX1_at_30 rfl (lv_at hl 2 rfl) ?_
  obtain ⟨a3, ea3, h⟩ := h
  have ka3 : kO σ a3 0 := g2 a3 ea3
  have h := h ka3
  refine W.eq (g2 := F0 m 31 ls [.ref a3]) (by rw [ea3]; rfl) ?_
  refine f_getp B hH ka3 (by decide) rfl wu_X0 1 (by decide) wf_X1_9 rfl rfl dX1_at_31 ?_
  refine lv_astore_nQ (lv' := [(2, va_rf (gP σ a3 1)), (0, .ref th), (1, .int (i32 v1)), (3, .int (i32 v3))]) B.1 B.2.1 dX1_at_34 rfl hl (by decide) rfl (fun ls hl => ?_)
  obtain ⟨q1, h⟩ := h
  refine lv_iinc (k := 3) (v := i32 (v3 + 1)) (lv' := [(3, .int (i32 (v3 + 1))), (2, va_rf (gP σ a3 1)), (0, .ref th), (1, .int (i32 v1))]) B.1 B.2.1 dX1_at_35 hl rfl (i32_add _ _) (by decide) (by generalize (gP σ a3 1) = w9; cases w9 <;> rfl) (fun ls hl => ?_)
  refine lv_goto (tgt := 21) B.1 B.2.1 dX1_at_38 (by decide) ?_
  exact hK21 _ _ _ _ g1 (hYσ.get ka3 (by decide)) q1 h hGσ hYσ hE hth _ _ _ hH (lv_sub (l' := [(0, .ref th), (1, .int (i32 v1)), (2, va_rf (gP σ a3 1)), (3, .int (i32 (v3 + 1)))]) hl [2, 3, 1, 0] rfl) hc
set_option maxRecDepth 20000 in
theorem a_X1_at_26 {Q : Sg → Option Nat → Prop} {X : Sg → String → Prop} {th : Nat} (K : MD l R p s m args c cX1_at 4 RX1 D cA tys A n0 s0 0 0 []) (hQ : CQA p l e R s m args below meth c cX1_at D cA A n0 s0 QM σi 0 Q) (hX : CX p l e R s m args below meth c 4 D cA A n0 s0 QM σi X) (hTh : CT p l e R s m args below meth c cX1_at 4 D cA A n0 s0 QM σi RX1 X) {K21 : Sg → Int → Option Nat → Int → Prop} (hK21 : ∀ (σ : Sg) (v1 : Int) (v2 : Option Nat) (v3 : Int) (g1 : rng v1) (g2 : tyV σ 0 v2) (g3 : rng v3), K21 σ v1 v2 v3 → RG σ → TY σ → Ext σi σ → kO σ th 1 → JJ p l e R s m args below meth c 4 D cA A n0 s0 QM σ 21 [(0, .ref th), (1, .int (i32 v1)), (2, va_rf v2), (3, .int (i32 v3))] []) : ∀ (σ : Sg) (v1 : Int) (v2 : Option Nat) (v3 : Int) (g1 : rng v1) (g2 : tyV σ 0 v2) (g3 : rng v3), w_X1_at_26 th K21 Q X σ v1 v2 v3 → RG σ → TY σ → Ext σi σ → kO σ th 1 → JJ p l e R s m args below meth c 4 D cA A n0 s0 QM σ 26 [(0, .ref th), (1, .int (i32 v1)), (2, va_rf v2), (3, .int (i32 v3))] [] := by
  intro σ v1 v2 v3 g1 g2 g3 h hGσ hYσ hE hth H locs ls hH hl hc
  have B := K.1
  have hl9 := K.2.2.2.2.2.2
  unfold w_X1_at_26 at h
  refine lv_aload_nQ B.1 B.2.1 dX1_at_26 rfl (lv_at hl 2 rfl) ?_
  refine lv_ifnullQ (tgt := 41) B.1 B.2.1 dX1_at_27 (by decide) (fun h9 => ?_) (fun h9 => ?_)
  · rw [if_pos (h9)] at h
    exact a_X1_at_41 K hQ hX hTh _ _ g2 h hGσ hYσ hE hth _ _ _ hH (lv_sub (l' := [(0, .ref th), (2, va_rf v2)]) hl [0, 2] rfl) hc
  · rw [if_neg (h9)] at h
    exact a_X1_at_30 K hQ hX hTh hK21 _ _ _ _ g1 g2 g3 h hGσ hYσ hE hth _ _ _ hH (lv_sub (l' := [(0, .ref th), (1, .int (i32 v1)), (2, va_rf v2), (3, .int (i32 v3))]) hl [0, 1, 2, 3] rfl) hc
set_option maxRecDepth 20000 in
theorem a_X1_at_21 {Q : Sg → Option Nat → Prop} {X : Sg → String → Prop} {th : Nat} (K : MD l R p s m args c cX1_at 4 RX1 D cA tys A n0 s0 0 0 []) (hQ : CQA p l e R s m args below meth c cX1_at D cA A n0 s0 QM σi 0 Q) (hX : CX p l e R s m args below meth c 4 D cA A n0 s0 QM σi X) (hTh : CT p l e R s m args below meth c cX1_at 4 D cA A n0 s0 QM σi RX1 X) {K21 : Sg → Int → Option Nat → Int → Prop} (hK21 : ∀ (σ : Sg) (v1 : Int) (v2 : Option Nat) (v3 : Int) (g1 : rng v1) (g2 : tyV σ 0 v2) (g3 : rng v3), K21 σ v1 v2 v3 → RG σ → TY σ → Ext σi σ → kO σ th 1 → JJ p l e R s m args below meth c 4 D cA A n0 s0 QM σ 21 [(0, .ref th), (1, .int (i32 v1)), (2, va_rf v2), (3, .int (i32 v3))] []) : ∀ (σ : Sg) (v1 : Int) (v2 : Option Nat) (v3 : Int) (g1 : rng v1) (g2 : tyV σ 0 v2) (g3 : rng v3), w_X1_at_21 th K21 Q X σ v1 v2 v3 → RG σ → TY σ → Ext σi σ → kO σ th 1 → JJ p l e R s m args below meth c 4 D cA A n0 s0 QM σ 21 [(0, .ref th), (1, .int (i32 v1)), (2, va_rf v2), (3, .int (i32 v3))] [] := by
  intro σ v1 v2 v3 g1 g2 g3 h hGσ hYσ hE hth H locs ls hH hl hc
  have B := K.1
  have hl9 := K.2.2.2.2.2.2
  unfold w_X1_at_21 at h
  refine lv_iload_n B.1 B.2.1 dX1_at_21 rfl (lv_at hl 3 rfl) ?_
  refine lv_iload_n B.1 B.2.1 dX1_at_22 rfl (lv_at hl 1 rfl) ?_
  refine lv_icmp_ge (tgt := 41) B.1 B.2.1 dX1_at_23 (by decide) (fun h9 => ?_) (fun h9 => ?_)
  · rw [if_pos ((i32_le g1 g3).mp h9)] at h
    exact a_X1_at_41 K hQ hX hTh _ _ g2 h hGσ hYσ hE hth _ _ _ hH (lv_sub (l' := [(0, .ref th), (2, va_rf v2)]) hl [0, 2] rfl) hc
  · rw [if_neg (fun q => h9 ((i32_le g1 g3).mpr q))] at h
    exact a_X1_at_26 K hQ hX hTh hK21 _ _ _ _ g1 g2 g3 h hGσ hYσ hE hth _ _ _ hH (lv_sub (l' := [(0, .ref th), (1, .int (i32 v1)), (2, va_rf v2), (3, .int (i32 v3))]) hl [0, 1, 2, 3] rfl) hc
theorem al_X1_at_21 {Q : Sg → Option Nat → Prop} {X : Sg → String → Prop} {th : Nat} (K : MD l R p s m args c cX1_at 4 RX1 D cA tys A n0 s0 0 0 []) (hQ : CQA p l e R s m args below meth c cX1_at D cA A n0 s0 QM σi 0 Q) (hX : CX p l e R s m args below meth c 4 D cA A n0 s0 QM σi X) (hTh : CT p l e R s m args below meth c cX1_at 4 D cA A n0 s0 QM σi RX1 X) : ∀ (n : Nat), ∀ (σ : Sg) (v1 : Int) (v2 : Option Nat) (v3 : Int) (g1 : rng v1) (g2 : tyV σ 0 v2) (g3 : rng v3), wl_X1_at_21 th Q X n σ v1 v2 v3 → RG σ → TY σ → Ext σi σ → kO σ th 1 → JJ p l e R s m args below meth c 4 D cA A n0 s0 QM σ 21 [(0, .ref th), (1, .int (i32 v1)), (2, va_rf v2), (3, .int (i32 v3))] [] := by
  intro n
  induction n with
  | zero => intro σ v1 v2 v3 g1 g2 g3 h; exact h.elim
  | succ n ih => exact fun σ v1 v2 v3 g1 g2 g3 h => a_X1_at_21 K hQ hX hTh ih σ v1 v2 v3 g1 g2 g3 h
set_option maxRecDepth 20000 in
theorem a_X1_at_14 {Q : Sg → Option Nat → Prop} {X : Sg → String → Prop} {th : Nat} (K : MD l R p s m args c cX1_at 4 RX1 D cA tys A n0 s0 0 0 []) (hQ : CQA p l e R s m args below meth c cX1_at D cA A n0 s0 QM σi 0 Q) (hX : CX p l e R s m args below meth c 4 D cA A n0 s0 QM σi X) (hTh : CT p l e R s m args below meth c cX1_at 4 D cA A n0 s0 QM σi RX1 X) : ∀ (σ : Sg) (v1 : Int) (g1 : rng v1), w_X1_at_14 th Q X σ v1 → RG σ → TY σ → Ext σi σ → kO σ th 1 → JJ p l e R s m args below meth c 4 D cA A n0 s0 QM σ 14 [(0, .ref th), (1, .int (i32 v1))] [] := by
  intro σ v1 g1 h hGσ hYσ hE hth H locs ls hH hl hc
  have B := K.1
  have hl9 := K.2.2.2.2.2.2
  unfold w_X1_at_14 at h
  refine lv_aload_n B.1 B.2.1 dX1_at_14 rfl (lv_at hl 0 rfl) ?_
  refine f_getp B hH hth (by decide) rfl wu_X1 0 (by decide) wf_X1_20 rfl rfl dX1_at_15 ?_
  refine lv_astore_nQ (lv' := [(2, va_rf (gP σ th 0)), (0, .ref th), (1, .int (i32 v1))]) B.1 B.2.1 dX1_at_18 rfl hl (by decide) rfl (fun ls hl => ?_)
  refine lv_iconst (v := i32 0) B.1 B.2.1 dX1_at_19 (by decide) ?_
  refine lv_istore_n (lv' := [(3, .int (i32 0)), (2, va_rf (gP σ th 0)), (0, .ref th), (1, .int (i32 v1))]) B.1 B.2.1 dX1_at_20 rfl hl (by decide) (by generalize (gP σ th 0) = w9; cases w9 <;> rfl) (fun ls hl => ?_)
  obtain ⟨n9, h⟩ := h
  exact al_X1_at_21 K hQ hX hTh n9 _ _ _ _ g1 (hYσ.get hth (by decide)) (by unfold rng; omega) h hGσ hYσ hE hth _ _ _ hH (lv_sub (l' := [(0, .ref th), (1, .int (i32 v1)), (2, va_rf (gP σ th 0)), (3, .int (i32 0))]) hl [2, 3, 1, 0] rfl) hc
set_option maxRecDepth 20000 in
theorem a_X1_at_4 {Q : Sg → Option Nat → Prop} {X : Sg → String → Prop} {th : Nat} (K : MD l R p s m args c cX1_at 4 RX1 D cA tys A n0 s0 0 0 []) (hQ : CQA p l e R s m args below meth c cX1_at D cA A n0 s0 QM σi 0 Q) (hX : CX p l e R s m args below meth c 4 D cA A n0 s0 QM σi X) (hTh : CT p l e R s m args below meth c cX1_at 4 D cA A n0 s0 QM σi RX1 X) : ∀ (σ : Sg) (v1 : Int) (g1 : rng v1), w_X1_at_4 th Q X σ v1 → RG σ → TY σ → Ext σi σ → kO σ th 1 → JJ p l e R s m args below meth c 4 D cA A n0 s0 QM σ 4 [(0, .ref th), (1, .int (i32 v1))] [] := by
  intro σ v1 g1 h hGσ hYσ hE hth H locs ls hH hl hc
  have B := K.1
  have hl9 := K.2.2.2.2.2.2
  unfold w_X1_at_4 at h
  refine lv_iload_n B.1 B.2.1 dX1_at_4 rfl (lv_at hl 1 rfl) ?_
  refine lv_aload_n B.1 B.2.1 dX1_at_5 rfl (lv_at hl 0 rfl) ?_
  refine f_geti B hH hth (by decide) rfl wu_X1 2 (by decide) wf_X1_23 rfl rfl dX1_at_6 ?_
  refine lv_icmp_lt (tgt := 14) B.1 B.2.1 dX1_at_9 (by decide) (fun h9 => ?_) (fun h9 => ?_)
  · rw [if_pos ((i32_lt g1 (hGσ _ _)).mp h9)] at h
    exact a_X1_at_14 K hQ hX hTh _ _ g1 h hGσ hYσ hE hth _ _ _ hH (lv_sub (l' := [(0, .ref th), (1, .int (i32 v1))]) hl [0, 1] rfl) hc
  · rw [if_neg (fun q => h9 ((i32_lt g1 (hGσ _ _)).mpr q))] at h
    exact a_X1_at_12 K hQ hX hTh _ h hGσ hYσ hE hth _ _ _ hH (lv_sub (l' := [(0, .ref th)]) hl [0] rfl) hc
set_option maxRecDepth 20000 in
theorem a_X1_at_0 {Q : Sg → Option Nat → Prop} {X : Sg → String → Prop} {th : Nat} (K : MD l R p s m args c cX1_at 4 RX1 D cA tys A n0 s0 0 0 []) (hQ : CQA p l e R s m args below meth c cX1_at D cA A n0 s0 QM σi 0 Q) (hX : CX p l e R s m args below meth c 4 D cA A n0 s0 QM σi X) (hTh : CT p l e R s m args below meth c cX1_at 4 D cA A n0 s0 QM σi RX1 X) : ∀ (σ : Sg) (v1 : Int) (g1 : rng v1), w_X1_at_0 th Q X σ v1 → RG σ → TY σ → Ext σi σ → kO σ th 1 → JJ p l e R s m args below meth c 4 D cA A n0 s0 QM σ 0 [(0, .ref th), (1, .int (i32 v1))] [] := by
  intro σ v1 g1 h hGσ hYσ hE hth H locs ls hH hl hc
  have B := K.1
  have hl9 := K.2.2.2.2.2.2
  unfold w_X1_at_0 at h
  refine lv_iload_n B.1 B.2.1 dX1_at_0 rfl (lv_at hl 1 rfl) ?_
  refine lv_if_lt (tgt := 12) B.1 B.2.1 dX1_at_1 (by decide) (fun h9 => ?_) (fun h9 => ?_)
  · rw [if_pos ((z_lt g1).mp h9)] at h
    exact a_X1_at_12 K hQ hX hTh _ h hGσ hYσ hE hth _ _ _ hH (lv_sub (l' := [(0, .ref th)]) hl [0] rfl) hc
  · rw [if_neg (fun q => h9 ((z_lt g1).mpr q))] at h
    exact a_X1_at_4 K hQ hX hTh _ _ g1 h hGσ hYσ hE hth _ _ _ hH (lv_sub (l' := [(0, .ref th), (1, .int (i32 v1))]) hl [0, 1] rfl) hc
theorem ok_X1_at (hl0 : l.stackTraces = false) (hT : TyC cA tys) {Q : Sg → Option Nat → Prop} {X : Sg → String → Prop} (σ : Sg) (th : Nat) (v1 : Int) (g1 : rng v1) (hth : kO σ th 1) (hG : RG σ) (hY : TY σ) (h : wp_X1_at th v1 σ Q X) : Ok l D cA tys A yX1_at (.code yX1_at cX1_at 4 (some (.object "StreamHouse$Cell"))) 0 0 [.ref th, .int (i32 v1)] σ (QcA σ 0 Q) (QxC σ X) := by
  unfold wp_X1_at at h
  exact oc_A hl0 (by decide) (by exact Nat.le_of_ble_eq_true rfl) hT (fun p e R s m args below meth c K hQ hX hTh H locs ls hH hl hc => a_X1_at_0 K hQ hX hTh σ v1 g1 h hG hY (Ext.rfl' σ) hth H locs ls hH (lv_sub (l' := [(0, .ref th), (1, .int (i32 v1))]) hl [0, 1] rfl) hc)
theorem dX12_visibleRow_0 : decode cX12_visibleRow 0 = .ok (.aload_n 0, 1) := by decide +kernel
theorem dX12_visibleRow_1 : decode cX12_visibleRow 1 = .ok (.iload_n 1, 1) := by decide +kernel
theorem dX12_visibleRow_2 : decode cX12_visibleRow 2 = .ok (.invokevirtual 172, 3) := by decide +kernel
theorem dX12_visibleRow_5 : decode cX12_visibleRow 5 = .ok (.aload_n 0, 1) := by decide +kernel
theorem dX12_visibleRow_6 : decode cX12_visibleRow 6 = .ok (.getfield 49, 3) := by decide +kernel
theorem dX12_visibleRow_9 : decode cX12_visibleRow 9 = .ok (.getfield 175, 3) := by decide +kernel
theorem dX12_visibleRow_12 : decode cX12_visibleRow 12 = .ok (.iload_n 1, 1) := by decide +kernel
theorem dX12_visibleRow_13 : decode cX12_visibleRow 13 = .ok (.aaload, 1) := by decide +kernel
theorem dX12_visibleRow_14 : decode cX12_visibleRow 14 = .ok (.iload_n 2, 1) := by decide +kernel
theorem dX12_visibleRow_15 : decode cX12_visibleRow 15 = .ok (.invokevirtual 261, 3) := by decide +kernel
theorem dX12_visibleRow_18 : decode cX12_visibleRow 18 = .ok (.astore_n 3, 1) := by decide +kernel
theorem dX12_visibleRow_19 : decode cX12_visibleRow 19 = .ok (.aload_n 3, 1) := by decide +kernel
theorem dX12_visibleRow_20 : decode cX12_visibleRow 20 = .ok (.ifnonnull 11, 3) := by decide +kernel
theorem dX12_visibleRow_23 : decode cX12_visibleRow 23 = .ok (.new 92, 3) := by decide +kernel
theorem dX12_visibleRow_26 : decode cX12_visibleRow 26 = .ok (.dup, 1) := by decide +kernel
theorem dX12_visibleRow_27 : decode cX12_visibleRow 27 = .ok (.invokespecial 94, 3) := by decide +kernel
theorem dX12_visibleRow_30 : decode cX12_visibleRow 30 = .ok (.athrow, 1) := by decide +kernel
theorem dX12_visibleRow_31 : decode cX12_visibleRow 31 = .ok (.aload_n 3, 1) := by decide +kernel
theorem dX12_visibleRow_32 : decode cX12_visibleRow 32 = .ok (.areturn, 1) := by decide +kernel
set_option maxRecDepth 20000 in
theorem a_X12_visibleRow_31 {Q : Sg → Option Nat → Prop} {X : Sg → String → Prop} {th : Nat} (K : MD l R p s m args c cX12_visibleRow 4 RX12 D cA tys A n0 s0 7 111 []) (hQ : CQA p l e R s m args below meth c cX12_visibleRow D cA A n0 s0 QM σi 0 Q) (hX : CX p l e R s m args below meth c 4 D cA A n0 s0 QM σi X) (hTh : CT p l e R s m args below meth c cX12_visibleRow 4 D cA A n0 s0 QM σi RX12 X) : ∀ (σ : Sg) (v3 : Option Nat) (g3 : tyV σ 0 v3), w_X12_visibleRow_31 th Q X σ v3 → RG σ → TY σ → Ext σi σ → kO σ th 12 → JJ p l e R s m args below meth c 4 D cA A n0 s0 QM σ 31 [(0, .ref th), (3, va_rf v3)] [] := by
  intro σ v3 g3 h hGσ hYσ hE hth H locs ls hH hl hc
  have B := K.1
  have hl9 := K.2.2.2.2.2.2
  unfold w_X12_visibleRow_31 at h
  refine lv_aload_nQ B.1 B.2.1 dX12_visibleRow_31 rfl (lv_at hl 1 rfl) ?_
  exact hQ _ _ _ _ _ _ g3 dX12_visibleRow_32 hH hc h hGσ hYσ hE
set_option maxRecDepth 20000 in
theorem a_X12_visibleRow_23 {Q : Sg → Option Nat → Prop} {X : Sg → String → Prop} {th : Nat} (K : MD l R p s m args c cX12_visibleRow 4 RX12 D cA tys A n0 s0 7 111 []) (hQ : CQA p l e R s m args below meth c cX12_visibleRow D cA A n0 s0 QM σi 0 Q) (hX : CX p l e R s m args below meth c 4 D cA A n0 s0 QM σi X) (hTh : CT p l e R s m args below meth c cX12_visibleRow 4 D cA A n0 s0 QM σi RX12 X) : ∀ (σ : Sg), w_X12_visibleRow_23 th Q X σ → RG σ → TY σ → Ext σi σ → kO σ th 12 → JJ p l e R s m args below meth c 4 D cA A n0 s0 QM σ 23 [(0, .ref th)] [] := by
  intro σ h hGσ hYσ hE hth H locs ls hH hl hc
  have B := K.1
  have hl9 := K.2.2.2.2.2.2
  unfold w_X12_visibleRow_23 at h
  obtain ⟨q9, h⟩ := h
  exact hTh _ _ _ _ _ _ _ _ _ tw_X12_92_94 dX12_visibleRow_23 dX12_visibleRow_26 dX12_visibleRow_27 dX12_visibleRow_30 hH hl hc q9 h hGσ hYσ hE (by have := K.2.2.2.1; omega) (by have := K.2.2.2.2.1; omega)
set_option maxRecDepth 20000 in
theorem a_X12_visibleRow_0 {Q : Sg → Option Nat → Prop} {X : Sg → String → Prop} {th : Nat} (K : MD l R p s m args c cX12_visibleRow 4 RX12 D cA tys A n0 s0 7 111 []) (hQ : CQA p l e R s m args below meth c cX12_visibleRow D cA A n0 s0 QM σi 0 Q) (hX : CX p l e R s m args below meth c 4 D cA A n0 s0 QM σi X) (hTh : CT p l e R s m args below meth c cX12_visibleRow 4 D cA A n0 s0 QM σi RX12 X) : ∀ (σ : Sg) (v1 : Int) (v2 : Int) (g1 : rng v1) (g2 : rng v2), w_X12_visibleRow_0 th Q X σ v1 v2 → RG σ → TY σ → Ext σi σ → kO σ th 12 → JJ p l e R s m args below meth c 4 D cA A n0 s0 QM σ 0 [(0, .ref th), (1, .int (i32 v1)), (2, .int (i32 v2))] [] := by
  intro σ v1 v2 g1 g2 h hGσ hYσ hE hth H locs ls hH hl hc
  have B := K.1
  have hl9 := K.2.2.2.2.2.2
  unfold w_X12_visibleRow_0 at h
  refine lv_aload_n B.1 B.2.1 dX12_visibleRow_0 rfl (lv_at hl 0 rfl) ?_
  refine lv_iload_n B.1 B.2.1 dX12_visibleRow_1 rfl (lv_at hl 1 rfl) ?_
  refine W.eq (g2 := F0 m 2 ls [.int (i32 v1), .ref th]) (rfl) ?_
  refine c_V B hH hl hc K.2.2.1 (C := RX12) (T := TX12) (N := 9) (ci := 12) (As := [.int (i32 v1)]) (ok_X12_needOutput hl9 K.2.1 σ th v1 g1 hth hGσ hYσ h) wc_X12_172 1 hd_X12_needOutput ⟨Nat.le_trans (Nat.le_of_ble_eq_true rfl) K.2.2.2.1, Nat.le_trans (Nat.le_of_ble_eq_true rfl) K.2.2.2.2.1⟩ hth.1 hth.2 (by decide) rfl rfl (rest := []) rfl (Nat.le_of_ble_eq_true rfl) dX12_visibleRow_2 (fun σ13 w hq => ?_) (fun σ9 E9 hx9 => hX σ9 E9 _ _ _ (tb_out K.2.2.2.2.2.1 rfl) hx9.1 hx9.2.1 hx9.2.2.1 (hE.trans hx9.2.2.2))
  obtain ⟨rfl, h, hGσ13, hYσ13, xσ13⟩ := hq
  have h := h xσ13
  intro H locs ls hH hl hc
  refine W.eq (g2 := F0 m 5 ls []) (rfl) ?_
  try dsimp only at h
  refine lv_aload_n B.1 B.2.1 dX12_visibleRow_5 rfl (lv_at hl 0 rfl) ?_
  refine f_getp B hH (hth.up xσ13) (by decide) rfl wu_X12 7 (by decide) wf_X12_49 rfl rfl dX12_visibleRow_6 ?_
  obtain ⟨a14, ea14, h⟩ := h
  have ka14 : kO σ13 a14 9 := (hYσ13.get (hth.up xσ13) (by decide)) a14 ea14
  have h := h ka14
  refine W.eq (g2 := F0 m 9 ls [.ref a14]) (by rw [ea14]; rfl) ?_
  refine f_getp B hH ka14 (by decide) rfl wu_X9 8 (by decide) wf_X12_175 rfl rfl dX12_visibleRow_9 ?_
  refine lv_iload_n B.1 B.2.1 dX12_visibleRow_12 rfl (lv_at hl 1 rfl) ?_
  obtain ⟨a15, ea15, h⟩ := h
  have ka15 : kO σ13 a15 111 := (hYσ13.get ka14 (by decide)) a15 ea15
  have h := h ka15
  obtain ⟨q1, h⟩ := h
  refine W.eq (g2 := F0 m 13 ls [.int (i32 v1), .ref a15]) (by rw [ea15]; rfl) ?_
  refine y_aald B hH (t0 := 4) ka15 (by decide) K.2.1.2.1 q1 (hYσ13.2 _) dX12_visibleRow_13 ?_
  refine lv_iload_n B.1 B.2.1 dX12_visibleRow_14 rfl (lv_at hl 2 rfl) ?_
  obtain ⟨a18, ea18, h⟩ := h
  have ka18 : kO σ13 a18 1 := (hYσ13.get ka15 rfl) a18 ea18
  have h := h ka18
  refine W.eq (g2 := F0 m 15 ls [.int (i32 v2), .ref a18]) (by rw [ea18]; rfl) ?_
  refine c_V B hH hl hc K.2.2.1 (C := RX1) (T := TX1) (N := 3) (ci := 1) (As := [.int (i32 v2)]) (ok_X1_at hl9 K.2.1 σ13 a18 v2 g2 ka18 hGσ13 hYσ13 h) wc_X12_261 1 hd_X1_at ⟨Nat.le_trans (Nat.le_of_ble_eq_true rfl) K.2.2.2.1, Nat.le_trans (Nat.le_of_ble_eq_true rfl) K.2.2.2.2.1⟩ ka18.1 ka18.2 (by decide) rfl rfl (rest := []) rfl (Nat.le_of_ble_eq_true rfl) dX12_visibleRow_15 (fun σ16 w hq => ?_) (fun σ9 E9 hx9 => hX σ9 E9 _ _ _ (tb_out K.2.2.2.2.2.1 rfl) hx9.1 hx9.2.1 hx9.2.2.1 ((hE.trans xσ13).trans hx9.2.2.2))
  obtain ⟨r17, rfl, tr17, h, hGσ16, hYσ16, xσ16⟩ := hq
  have h := h xσ16 tr17
  intro H locs ls hH hl hc
  refine W.eq (g2 := F0 m 18 ls [va_rf r17]) (rfl) ?_
  try dsimp only at h
  refine lv_astore_nQ (lv' := [(3, va_rf r17), (0, .ref th), (1, .int (i32 v1)), (2, .int (i32 v2))]) B.1 B.2.1 dX12_visibleRow_18 rfl hl (by decide) rfl (fun ls hl => ?_)
  refine lv_aload_nQ B.1 B.2.1 dX12_visibleRow_19 rfl (lv_at hl 0 rfl) ?_
  refine lv_ifnonnullQ (tgt := 31) B.1 B.2.1 dX12_visibleRow_20 (by decide) (fun h9 => ?_) (fun h9 => ?_)
  · rw [if_pos (h9)] at h
    exact a_X12_visibleRow_31 K hQ hX hTh _ _ tr17 h hGσ16 hYσ16 ((hE.trans xσ13).trans xσ16) (hth.up (xσ13.trans xσ16)) _ _ _ hH (lv_sub (l' := [(0, .ref th), (3, va_rf r17)]) hl [1, 0] rfl) hc
  · rw [if_neg (h9)] at h
    exact a_X12_visibleRow_23 K hQ hX hTh _ h hGσ16 hYσ16 ((hE.trans xσ13).trans xσ16) (hth.up (xσ13.trans xσ16)) _ _ _ hH (lv_sub (l' := [(0, .ref th)]) hl [1] rfl) hc
theorem ok_X12_visibleRow (hl0 : l.stackTraces = false) (hT : TyC cA tys) {Q : Sg → Option Nat → Prop} {X : Sg → String → Prop} (σ : Sg) (th : Nat) (v1 : Int) (v2 : Int) (g1 : rng v1) (g2 : rng v2) (hth : kO σ th 12) (hG : RG σ) (hY : TY σ) (h : wp_X12_visibleRow th v1 v2 σ Q X) : Ok l D cA tys A yX12_visibleRow (.code yX12_visibleRow cX12_visibleRow 4 (some (.object "StreamHouse$Cell"))) 7 111 [.ref th, .int (i32 v1), .int (i32 v2)] σ (QcA σ 0 Q) (QxC σ X) := by
  unfold wp_X12_visibleRow at h
  exact oc_A hl0 (by decide) (by exact Nat.le_of_ble_eq_true rfl) hT (fun p e R s m args below meth c K hQ hX hTh H locs ls hH hl hc => a_X12_visibleRow_0 K hQ hX hTh σ v1 v2 g1 g2 h hG hY (Ext.rfl' σ) hth H locs ls hH (lv_sub (l' := [(0, .ref th), (1, .int (i32 v1)), (2, .int (i32 v2))]) hl [0, 1, 2] rfl) hc)
theorem dX8_memberOf_0 : decode cX8_memberOf 0 = .ok (.iconst 0, 1) := by decide +kernel
theorem dX8_memberOf_1 : decode cX8_memberOf 1 = .ok (.istore_n 3, 1) := by decide +kernel
theorem dX8_memberOf_2 : decode cX8_memberOf 2 = .ok (.iconst 0, 1) := by decide +kernel
theorem dX8_memberOf_3 : decode cX8_memberOf 3 = .ok (.istore 4, 2) := by decide +kernel
theorem dX8_memberOf_5 : decode cX8_memberOf 5 = .ok (.iload 4, 2) := by decide +kernel
theorem dX8_memberOf_7 : decode cX8_memberOf 7 = .ok (.sipush 256, 3) := by decide +kernel
theorem dX8_memberOf_10 : decode cX8_memberOf 10 = .ok (.if_icmp .ge 55, 3) := by decide +kernel
theorem dX8_memberOf_13 : decode cX8_memberOf 13 = .ok (.iload_n 1, 1) := by decide +kernel
theorem dX8_memberOf_14 : decode cX8_memberOf 14 = .ok (.ifCond .lt 51, 3) := by decide +kernel
theorem dX8_memberOf_17 : decode cX8_memberOf 17 = .ok (.iload_n 2, 1) := by decide +kernel
theorem dX8_memberOf_18 : decode cX8_memberOf 18 = .ok (.ifCond .lt 47, 3) := by decide +kernel
theorem dX8_memberOf_21 : decode cX8_memberOf 21 = .ok (.aload_n 0, 1) := by decide +kernel
theorem dX8_memberOf_22 : decode cX8_memberOf 22 = .ok (.getfield 11, 3) := by decide +kernel
theorem dX8_memberOf_25 : decode cX8_memberOf 25 = .ok (.iload_n 1, 1) := by decide +kernel
theorem dX8_memberOf_26 : decode cX8_memberOf 26 = .ok (.iconst 4, 1) := by decide +kernel
theorem dX8_memberOf_27 : decode cX8_memberOf 27 = .ok (.imul, 1) := by decide +kernel
theorem dX8_memberOf_28 : decode cX8_memberOf 28 = .ok (.iload 4, 2) := by decide +kernel
theorem dX8_memberOf_30 : decode cX8_memberOf 30 = .ok (.bipush 64, 2) := by decide +kernel
theorem dX8_memberOf_32 : decode cX8_memberOf 32 = .ok (.idiv, 1) := by decide +kernel
theorem dX8_memberOf_33 : decode cX8_memberOf 33 = .ok (.iadd, 1) := by decide +kernel
theorem dX8_memberOf_34 : decode cX8_memberOf 34 = .ok (.laload, 1) := by decide +kernel
theorem dX8_memberOf_35 : decode cX8_memberOf 35 = .ok (.iload 4, 2) := by decide +kernel
theorem dX8_memberOf_37 : decode cX8_memberOf 37 = .ok (.bipush 64, 2) := by decide +kernel
theorem dX8_memberOf_39 : decode cX8_memberOf 39 = .ok (.irem, 1) := by decide +kernel
theorem dX8_memberOf_40 : decode cX8_memberOf 40 = .ok (.lushr, 1) := by decide +kernel
theorem dX8_memberOf_41 : decode cX8_memberOf 41 = .ok (.lconst 1, 1) := by decide +kernel
theorem dX8_memberOf_42 : decode cX8_memberOf 42 = .ok (.land, 1) := by decide +kernel
theorem dX8_memberOf_43 : decode cX8_memberOf 43 = .ok (.lconst 0, 1) := by decide +kernel
theorem dX8_memberOf_44 : decode cX8_memberOf 44 = .ok (.lcmp, 1) := by decide +kernel
theorem dX8_memberOf_45 : decode cX8_memberOf 45 = .ok (.ifCond .eq 14, 3) := by decide +kernel
theorem dX8_memberOf_48 : decode cX8_memberOf 48 = .ok (.iload_n 3, 1) := by decide +kernel
theorem dX8_memberOf_49 : decode cX8_memberOf 49 = .ok (.iload_n 2, 1) := by decide +kernel
theorem dX8_memberOf_50 : decode cX8_memberOf 50 = .ok (.if_icmp .ne 6, 3) := by decide +kernel
theorem dX8_memberOf_53 : decode cX8_memberOf 53 = .ok (.iload 4, 2) := by decide +kernel
theorem dX8_memberOf_55 : decode cX8_memberOf 55 = .ok (.ireturn, 1) := by decide +kernel
theorem dX8_memberOf_56 : decode cX8_memberOf 56 = .ok (.iinc 3 1, 3) := by decide +kernel
theorem dX8_memberOf_59 : decode cX8_memberOf 59 = .ok (.iinc 4 1, 3) := by decide +kernel
theorem dX8_memberOf_62 : decode cX8_memberOf 62 = .ok (.goto (-57), 3) := by decide +kernel
theorem dX8_memberOf_65 : decode cX8_memberOf 65 = .ok (.iconst (-1), 1) := by decide +kernel
theorem dX8_memberOf_66 : decode cX8_memberOf 66 = .ok (.ireturn, 1) := by decide +kernel
set_option maxRecDepth 20000 in
theorem a_X8_memberOf_65 {Q : Sg → Int → Prop} {X : Sg → String → Prop} {th : Nat} (K : MD l R p s m args c cX8_memberOf 5 RX8 D cA tys A n0 s0 0 0 []) (hQ : CQI p l e R s m args below meth c cX8_memberOf D cA A n0 s0 QM σi Q) (hX : CX p l e R s m args below meth c 5 D cA A n0 s0 QM σi X) (hTh : CT p l e R s m args below meth c cX8_memberOf 5 D cA A n0 s0 QM σi RX8 X) : ∀ (σ : Sg), w_X8_memberOf_65 th Q X σ → RG σ → TY σ → Ext σi σ → kO σ th 8 → JJ p l e R s m args below meth c 5 D cA A n0 s0 QM σ 65 [(0, .ref th)] [] := by
  intro σ h hGσ hYσ hE hth H locs ls hH hl hc
  have B := K.1
  have hl9 := K.2.2.2.2.2.2
  unfold w_X8_memberOf_65 at h
  refine lv_iconst (v := i32 (-1)) B.1 B.2.1 dX8_memberOf_65 (by decide) ?_
  exact hQ _ _ _ _ _ _ (by unfold rng; omega) dX8_memberOf_66 hH hc h hGσ hYσ hE
set_option maxRecDepth 20000 in
theorem a_X8_memberOf_59 {Q : Sg → Int → Prop} {X : Sg → String → Prop} {th : Nat} (K : MD l R p s m args c cX8_memberOf 5 RX8 D cA tys A n0 s0 0 0 []) (hQ : CQI p l e R s m args below meth c cX8_memberOf D cA A n0 s0 QM σi Q) (hX : CX p l e R s m args below meth c 5 D cA A n0 s0 QM σi X) (hTh : CT p l e R s m args below meth c cX8_memberOf 5 D cA A n0 s0 QM σi RX8 X) {K5 : Sg → Int → Int → Int → Int → Prop} (hK5 : ∀ (σ : Sg) (v1 : Int) (v2 : Int) (v3 : Int) (v4 : Int) (g1 : rng v1) (g2 : rng v2) (g3 : rng v3) (g4 : rng v4), K5 σ v1 v2 v3 v4 → RG σ → TY σ → Ext σi σ → kO σ th 8 → JJ p l e R s m args below meth c 5 D cA A n0 s0 QM σ 5 [(0, .ref th), (1, .int (i32 v1)), (2, .int (i32 v2)), (3, .int (i32 v3)), (4, .int (i32 v4))] []) : ∀ (σ : Sg) (v1 : Int) (v2 : Int) (v3 : Int) (v4 : Int) (g1 : rng v1) (g2 : rng v2) (g3 : rng v3) (g4 : rng v4), w_X8_memberOf_59 th K5 Q X σ v1 v2 v3 v4 → RG σ → TY σ → Ext σi σ → kO σ th 8 → JJ p l e R s m args below meth c 5 D cA A n0 s0 QM σ 59 [(0, .ref th), (1, .int (i32 v1)), (2, .int (i32 v2)), (3, .int (i32 v3)), (4, .int (i32 v4))] [] := by
  intro σ v1 v2 v3 v4 g1 g2 g3 g4 h hGσ hYσ hE hth H locs ls hH hl hc
  have B := K.1
  have hl9 := K.2.2.2.2.2.2
  unfold w_X8_memberOf_59 at h
  obtain ⟨q1, h⟩ := h
  refine lv_iinc (k := 4) (v := i32 (v4 + 1)) (lv' := [(4, .int (i32 (v4 + 1))), (0, .ref th), (1, .int (i32 v1)), (2, .int (i32 v2)), (3, .int (i32 v3))]) B.1 B.2.1 dX8_memberOf_59 hl rfl (i32_add _ _) (by decide) rfl (fun ls hl => ?_)
  refine lv_goto (tgt := 5) B.1 B.2.1 dX8_memberOf_62 (by decide) ?_
  exact hK5 _ _ _ _ _ g1 g2 g3 q1 h hGσ hYσ hE hth _ _ _ hH (lv_sub (l' := [(0, .ref th), (1, .int (i32 v1)), (2, .int (i32 v2)), (3, .int (i32 v3)), (4, .int (i32 (v4 + 1)))]) hl [1, 2, 3, 4, 0] rfl) hc
set_option maxRecDepth 20000 in
theorem a_X8_memberOf_56 {Q : Sg → Int → Prop} {X : Sg → String → Prop} {th : Nat} (K : MD l R p s m args c cX8_memberOf 5 RX8 D cA tys A n0 s0 0 0 []) (hQ : CQI p l e R s m args below meth c cX8_memberOf D cA A n0 s0 QM σi Q) (hX : CX p l e R s m args below meth c 5 D cA A n0 s0 QM σi X) (hTh : CT p l e R s m args below meth c cX8_memberOf 5 D cA A n0 s0 QM σi RX8 X) {K5 : Sg → Int → Int → Int → Int → Prop} (hK5 : ∀ (σ : Sg) (v1 : Int) (v2 : Int) (v3 : Int) (v4 : Int) (g1 : rng v1) (g2 : rng v2) (g3 : rng v3) (g4 : rng v4), K5 σ v1 v2 v3 v4 → RG σ → TY σ → Ext σi σ → kO σ th 8 → JJ p l e R s m args below meth c 5 D cA A n0 s0 QM σ 5 [(0, .ref th), (1, .int (i32 v1)), (2, .int (i32 v2)), (3, .int (i32 v3)), (4, .int (i32 v4))] []) : ∀ (σ : Sg) (v1 : Int) (v2 : Int) (v3 : Int) (v4 : Int) (g1 : rng v1) (g2 : rng v2) (g3 : rng v3) (g4 : rng v4), w_X8_memberOf_56 th K5 Q X σ v1 v2 v3 v4 → RG σ → TY σ → Ext σi σ → kO σ th 8 → JJ p l e R s m args below meth c 5 D cA A n0 s0 QM σ 56 [(0, .ref th), (1, .int (i32 v1)), (2, .int (i32 v2)), (3, .int (i32 v3)), (4, .int (i32 v4))] [] := by
  intro σ v1 v2 v3 v4 g1 g2 g3 g4 h hGσ hYσ hE hth H locs ls hH hl hc
  have B := K.1
  have hl9 := K.2.2.2.2.2.2
  unfold w_X8_memberOf_56 at h
  obtain ⟨q1, h⟩ := h
  refine lv_iinc (k := 3) (v := i32 (v3 + 1)) (lv' := [(3, .int (i32 (v3 + 1))), (0, .ref th), (1, .int (i32 v1)), (2, .int (i32 v2)), (4, .int (i32 v4))]) B.1 B.2.1 dX8_memberOf_56 hl rfl (i32_add _ _) (by decide) rfl (fun ls hl => ?_)
  exact a_X8_memberOf_59 K hQ hX hTh hK5 _ _ _ _ _ g1 g2 q1 g4 h hGσ hYσ hE hth _ _ _ hH (lv_sub (l' := [(0, .ref th), (1, .int (i32 v1)), (2, .int (i32 v2)), (3, .int (i32 (v3 + 1))), (4, .int (i32 v4))]) hl [1, 2, 3, 0, 4] rfl) hc
set_option maxRecDepth 20000 in
theorem a_X8_memberOf_53 {Q : Sg → Int → Prop} {X : Sg → String → Prop} {th : Nat} (K : MD l R p s m args c cX8_memberOf 5 RX8 D cA tys A n0 s0 0 0 []) (hQ : CQI p l e R s m args below meth c cX8_memberOf D cA A n0 s0 QM σi Q) (hX : CX p l e R s m args below meth c 5 D cA A n0 s0 QM σi X) (hTh : CT p l e R s m args below meth c cX8_memberOf 5 D cA A n0 s0 QM σi RX8 X) : ∀ (σ : Sg) (v4 : Int) (g4 : rng v4), w_X8_memberOf_53 th Q X σ v4 → RG σ → TY σ → Ext σi σ → kO σ th 8 → JJ p l e R s m args below meth c 5 D cA A n0 s0 QM σ 53 [(0, .ref th), (4, .int (i32 v4))] [] := by
  intro σ v4 g4 h hGσ hYσ hE hth H locs ls hH hl hc
  have B := K.1
  have hl9 := K.2.2.2.2.2.2
  unfold w_X8_memberOf_53 at h
  refine lv_iload B.1 B.2.1 dX8_memberOf_53 (lv_at hl 1 rfl) ?_
  exact hQ _ _ _ _ _ _ g4 dX8_memberOf_55 hH hc h hGσ hYσ hE
set_option maxRecDepth 20000 in
theorem a_X8_memberOf_48 {Q : Sg → Int → Prop} {X : Sg → String → Prop} {th : Nat} (K : MD l R p s m args c cX8_memberOf 5 RX8 D cA tys A n0 s0 0 0 []) (hQ : CQI p l e R s m args below meth c cX8_memberOf D cA A n0 s0 QM σi Q) (hX : CX p l e R s m args below meth c 5 D cA A n0 s0 QM σi X) (hTh : CT p l e R s m args below meth c cX8_memberOf 5 D cA A n0 s0 QM σi RX8 X) {K5 : Sg → Int → Int → Int → Int → Prop} (hK5 : ∀ (σ : Sg) (v1 : Int) (v2 : Int) (v3 : Int) (v4 : Int) (g1 : rng v1) (g2 : rng v2) (g3 : rng v3) (g4 : rng v4), K5 σ v1 v2 v3 v4 → RG σ → TY σ → Ext σi σ → kO σ th 8 → JJ p l e R s m args below meth c 5 D cA A n0 s0 QM σ 5 [(0, .ref th), (1, .int (i32 v1)), (2, .int (i32 v2)), (3, .int (i32 v3)), (4, .int (i32 v4))] []) : ∀ (σ : Sg) (v1 : Int) (v2 : Int) (v3 : Int) (v4 : Int) (g1 : rng v1) (g2 : rng v2) (g3 : rng v3) (g4 : rng v4), w_X8_memberOf_48 th K5 Q X σ v1 v2 v3 v4 → RG σ → TY σ → Ext σi σ → kO σ th 8 → JJ p l e R s m args below meth c 5 D cA A n0 s0 QM σ 48 [(0, .ref th), (1, .int (i32 v1)), (2, .int (i32 v2)), (3, .int (i32 v3)), (4, .int (i32 v4))] [] := by
  intro σ v1 v2 v3 v4 g1 g2 g3 g4 h hGσ hYσ hE hth H locs ls hH hl hc
  have B := K.1
  have hl9 := K.2.2.2.2.2.2
  unfold w_X8_memberOf_48 at h
  refine lv_iload_n B.1 B.2.1 dX8_memberOf_48 rfl (lv_at hl 3 rfl) ?_
  refine lv_iload_n B.1 B.2.1 dX8_memberOf_49 rfl (lv_at hl 2 rfl) ?_
  refine lv_icmp_ne (tgt := 56) B.1 B.2.1 dX8_memberOf_50 (by decide) (fun h9 => ?_) (fun h9 => ?_)
  · rw [if_pos (fun q => h9 ((i32_eq g3 g2).mpr q))] at h
    exact a_X8_memberOf_56 K hQ hX hTh hK5 _ _ _ _ _ g1 g2 g3 g4 h hGσ hYσ hE hth _ _ _ hH (lv_sub (l' := [(0, .ref th), (1, .int (i32 v1)), (2, .int (i32 v2)), (3, .int (i32 v3)), (4, .int (i32 v4))]) hl [0, 1, 2, 3, 4] rfl) hc
  · rw [if_neg (fun q => q ((i32_eq g3 g2).mp h9))] at h
    exact a_X8_memberOf_53 K hQ hX hTh _ _ g4 h hGσ hYσ hE hth _ _ _ hH (lv_sub (l' := [(0, .ref th), (4, .int (i32 v4))]) hl [0, 4] rfl) hc
set_option maxRecDepth 20000 in
theorem a_X8_memberOf_21 {Q : Sg → Int → Prop} {X : Sg → String → Prop} {th : Nat} (K : MD l R p s m args c cX8_memberOf 5 RX8 D cA tys A n0 s0 0 0 []) (hQ : CQI p l e R s m args below meth c cX8_memberOf D cA A n0 s0 QM σi Q) (hX : CX p l e R s m args below meth c 5 D cA A n0 s0 QM σi X) (hTh : CT p l e R s m args below meth c cX8_memberOf 5 D cA A n0 s0 QM σi RX8 X) {K5 : Sg → Int → Int → Int → Int → Prop} (hK5 : ∀ (σ : Sg) (v1 : Int) (v2 : Int) (v3 : Int) (v4 : Int) (g1 : rng v1) (g2 : rng v2) (g3 : rng v3) (g4 : rng v4), K5 σ v1 v2 v3 v4 → RG σ → TY σ → Ext σi σ → kO σ th 8 → JJ p l e R s m args below meth c 5 D cA A n0 s0 QM σ 5 [(0, .ref th), (1, .int (i32 v1)), (2, .int (i32 v2)), (3, .int (i32 v3)), (4, .int (i32 v4))] []) : ∀ (σ : Sg) (v1 : Int) (v2 : Int) (v3 : Int) (v4 : Int) (g1 : rng v1) (g2 : rng v2) (g3 : rng v3) (g4 : rng v4), w_X8_memberOf_21 th K5 Q X σ v1 v2 v3 v4 → RG σ → TY σ → Ext σi σ → kO σ th 8 → JJ p l e R s m args below meth c 5 D cA A n0 s0 QM σ 21 [(0, .ref th), (1, .int (i32 v1)), (2, .int (i32 v2)), (3, .int (i32 v3)), (4, .int (i32 v4))] [] := by
  intro σ v1 v2 v3 v4 g1 g2 g3 g4 h hGσ hYσ hE hth H locs ls hH hl hc
  have B := K.1
  have hl9 := K.2.2.2.2.2.2
  unfold w_X8_memberOf_21 at h
  refine lv_aload_n B.1 B.2.1 dX8_memberOf_21 rfl (lv_at hl 0 rfl) ?_
  refine f_getp B hH hth (by decide) rfl wu_X8 2 (by decide) wf_X8_11 rfl rfl dX8_memberOf_22 ?_
  refine lv_iload_n B.1 B.2.1 dX8_memberOf_25 rfl (lv_at hl 1 rfl) ?_
  refine lv_iconst (v := i32 4) B.1 B.2.1 dX8_memberOf_26 (by decide) ?_
  obtain ⟨q1, h⟩ := h
  refine lv_imul B.1 B.2.1 dX8_memberOf_27 ?_
  rw [i32_mul]
  refine lv_iload B.1 B.2.1 dX8_memberOf_28 (lv_at hl 4 rfl) ?_
  refine lv_bipush (v := i32 64) B.1 B.2.1 dX8_memberOf_30 (by decide) ?_
  refine lv_idiv B.1 B.2.1 dX8_memberOf_32 (i32_ne0 (by unfold rng; omega) (by decide)) ?_
  refine W.eq (g2 := F0 m 33 ls [.int (i32 (divI v4 64)), .int (i32 (v1 * 4)), va_rf (gP σ th 2)]) (by unfold divI; rw [i32_self]) ?_
  obtain ⟨q2, h⟩ := h
  refine lv_iadd B.1 B.2.1 dX8_memberOf_33 ?_
  rw [i32_add]
  obtain ⟨a3, ea3, h⟩ := h
  have ka3 : kO σ a3 101 := (hYσ.get hth (by decide)) a3 ea3
  have h := h ka3
  obtain ⟨q3, h⟩ := h
  refine W.eq (g2 := F0 m 34 ls [.int (i32 ((v1 * 4) + (divI v4 64))), .ref a3]) (by rw [ea3]; rfl) ?_
  refine y_lald B K.2.1 hH ka3 q3 dX8_memberOf_34 (hYσ.2 _) ?_
  refine lv_iload B.1 B.2.1 dX8_memberOf_35 (lv_at hl 4 rfl) ?_
  refine lv_bipush (v := i32 64) B.1 B.2.1 dX8_memberOf_37 (by decide) ?_
  refine lv_irem B.1 B.2.1 dX8_memberOf_39 (i32_ne0 (by unfold rng; omega) (by decide)) ?_
  refine W.eq (g2 := F0 m 40 ls [.int (i32 (remI v4 64)), .long (gJ σ a3 ((v1 * 4) + (divI v4 64)).toNat)]) (by unfold remI; rw [i32_self]) ?_
  refine lv_lushr B.1 B.2.1 dX8_memberOf_40 rfl ?_
  refine lv_lconst (v := 1) B.1 B.2.1 dX8_memberOf_41 (by decide) ?_
  refine lv_land B.1 B.2.1 dX8_memberOf_42 ?_
  refine lv_lconst (v := 0) B.1 B.2.1 dX8_memberOf_43 (by decide) ?_
  refine W.lcmp B.1 B.2.1 dX8_memberOf_44 ?_
  refine lv_if_eq (tgt := 59) B.1 B.2.1 dX8_memberOf_45 (by decide) (fun h9 => ?_) (fun h9 => ?_)
  · rw [if_pos ((lg_cmp_eq _ _).mp h9)] at h
    exact a_X8_memberOf_59 K hQ hX hTh hK5 _ _ _ _ _ g1 g2 g3 g4 h hGσ hYσ hE hth _ _ _ hH (lv_sub (l' := [(0, .ref th), (1, .int (i32 v1)), (2, .int (i32 v2)), (3, .int (i32 v3)), (4, .int (i32 v4))]) hl [0, 1, 2, 3, 4] rfl) hc
  · rw [if_neg (fun q => h9 ((lg_cmp_eq _ _).mpr q))] at h
    exact a_X8_memberOf_48 K hQ hX hTh hK5 _ _ _ _ _ g1 g2 g3 g4 h hGσ hYσ hE hth _ _ _ hH (lv_sub (l' := [(0, .ref th), (1, .int (i32 v1)), (2, .int (i32 v2)), (3, .int (i32 v3)), (4, .int (i32 v4))]) hl [0, 1, 2, 3, 4] rfl) hc
set_option maxRecDepth 20000 in
theorem a_X8_memberOf_17 {Q : Sg → Int → Prop} {X : Sg → String → Prop} {th : Nat} (K : MD l R p s m args c cX8_memberOf 5 RX8 D cA tys A n0 s0 0 0 []) (hQ : CQI p l e R s m args below meth c cX8_memberOf D cA A n0 s0 QM σi Q) (hX : CX p l e R s m args below meth c 5 D cA A n0 s0 QM σi X) (hTh : CT p l e R s m args below meth c cX8_memberOf 5 D cA A n0 s0 QM σi RX8 X) {K5 : Sg → Int → Int → Int → Int → Prop} (hK5 : ∀ (σ : Sg) (v1 : Int) (v2 : Int) (v3 : Int) (v4 : Int) (g1 : rng v1) (g2 : rng v2) (g3 : rng v3) (g4 : rng v4), K5 σ v1 v2 v3 v4 → RG σ → TY σ → Ext σi σ → kO σ th 8 → JJ p l e R s m args below meth c 5 D cA A n0 s0 QM σ 5 [(0, .ref th), (1, .int (i32 v1)), (2, .int (i32 v2)), (3, .int (i32 v3)), (4, .int (i32 v4))] []) : ∀ (σ : Sg) (v1 : Int) (v2 : Int) (v3 : Int) (v4 : Int) (g1 : rng v1) (g2 : rng v2) (g3 : rng v3) (g4 : rng v4), w_X8_memberOf_17 th K5 Q X σ v1 v2 v3 v4 → RG σ → TY σ → Ext σi σ → kO σ th 8 → JJ p l e R s m args below meth c 5 D cA A n0 s0 QM σ 17 [(0, .ref th), (1, .int (i32 v1)), (2, .int (i32 v2)), (3, .int (i32 v3)), (4, .int (i32 v4))] [] := by
  intro σ v1 v2 v3 v4 g1 g2 g3 g4 h hGσ hYσ hE hth H locs ls hH hl hc
  have B := K.1
  have hl9 := K.2.2.2.2.2.2
  unfold w_X8_memberOf_17 at h
  refine lv_iload_n B.1 B.2.1 dX8_memberOf_17 rfl (lv_at hl 2 rfl) ?_
  refine lv_if_lt (tgt := 65) B.1 B.2.1 dX8_memberOf_18 (by decide) (fun h9 => ?_) (fun h9 => ?_)
  · rw [if_pos ((z_lt g2).mp h9)] at h
    exact a_X8_memberOf_65 K hQ hX hTh _ h hGσ hYσ hE hth _ _ _ hH (lv_sub (l' := [(0, .ref th)]) hl [0] rfl) hc
  · rw [if_neg (fun q => h9 ((z_lt g2).mpr q))] at h
    exact a_X8_memberOf_21 K hQ hX hTh hK5 _ _ _ _ _ g1 g2 g3 g4 h hGσ hYσ hE hth _ _ _ hH (lv_sub (l' := [(0, .ref th), (1, .int (i32 v1)), (2, .int (i32 v2)), (3, .int (i32 v3)), (4, .int (i32 v4))]) hl [0, 1, 2, 3, 4] rfl) hc
set_option maxRecDepth 20000 in
theorem a_X8_memberOf_13 {Q : Sg → Int → Prop} {X : Sg → String → Prop} {th : Nat} (K : MD l R p s m args c cX8_memberOf 5 RX8 D cA tys A n0 s0 0 0 []) (hQ : CQI p l e R s m args below meth c cX8_memberOf D cA A n0 s0 QM σi Q) (hX : CX p l e R s m args below meth c 5 D cA A n0 s0 QM σi X) (hTh : CT p l e R s m args below meth c cX8_memberOf 5 D cA A n0 s0 QM σi RX8 X) {K5 : Sg → Int → Int → Int → Int → Prop} (hK5 : ∀ (σ : Sg) (v1 : Int) (v2 : Int) (v3 : Int) (v4 : Int) (g1 : rng v1) (g2 : rng v2) (g3 : rng v3) (g4 : rng v4), K5 σ v1 v2 v3 v4 → RG σ → TY σ → Ext σi σ → kO σ th 8 → JJ p l e R s m args below meth c 5 D cA A n0 s0 QM σ 5 [(0, .ref th), (1, .int (i32 v1)), (2, .int (i32 v2)), (3, .int (i32 v3)), (4, .int (i32 v4))] []) : ∀ (σ : Sg) (v1 : Int) (v2 : Int) (v3 : Int) (v4 : Int) (g1 : rng v1) (g2 : rng v2) (g3 : rng v3) (g4 : rng v4), w_X8_memberOf_13 th K5 Q X σ v1 v2 v3 v4 → RG σ → TY σ → Ext σi σ → kO σ th 8 → JJ p l e R s m args below meth c 5 D cA A n0 s0 QM σ 13 [(0, .ref th), (1, .int (i32 v1)), (2, .int (i32 v2)), (3, .int (i32 v3)), (4, .int (i32 v4))] [] := by
  intro σ v1 v2 v3 v4 g1 g2 g3 g4 h hGσ hYσ hE hth H locs ls hH hl hc
  have B := K.1
  have hl9 := K.2.2.2.2.2.2
  unfold w_X8_memberOf_13 at h
  refine lv_iload_n B.1 B.2.1 dX8_memberOf_13 rfl (lv_at hl 1 rfl) ?_
  refine lv_if_lt (tgt := 65) B.1 B.2.1 dX8_memberOf_14 (by decide) (fun h9 => ?_) (fun h9 => ?_)
  · rw [if_pos ((z_lt g1).mp h9)] at h
    exact a_X8_memberOf_65 K hQ hX hTh _ h hGσ hYσ hE hth _ _ _ hH (lv_sub (l' := [(0, .ref th)]) hl [0] rfl) hc
  · rw [if_neg (fun q => h9 ((z_lt g1).mpr q))] at h
    exact a_X8_memberOf_17 K hQ hX hTh hK5 _ _ _ _ _ g1 g2 g3 g4 h hGσ hYσ hE hth _ _ _ hH (lv_sub (l' := [(0, .ref th), (1, .int (i32 v1)), (2, .int (i32 v2)), (3, .int (i32 v3)), (4, .int (i32 v4))]) hl [0, 1, 2, 3, 4] rfl) hc
set_option maxRecDepth 20000 in
theorem a_X8_memberOf_5 {Q : Sg → Int → Prop} {X : Sg → String → Prop} {th : Nat} (K : MD l R p s m args c cX8_memberOf 5 RX8 D cA tys A n0 s0 0 0 []) (hQ : CQI p l e R s m args below meth c cX8_memberOf D cA A n0 s0 QM σi Q) (hX : CX p l e R s m args below meth c 5 D cA A n0 s0 QM σi X) (hTh : CT p l e R s m args below meth c cX8_memberOf 5 D cA A n0 s0 QM σi RX8 X) {K5 : Sg → Int → Int → Int → Int → Prop} (hK5 : ∀ (σ : Sg) (v1 : Int) (v2 : Int) (v3 : Int) (v4 : Int) (g1 : rng v1) (g2 : rng v2) (g3 : rng v3) (g4 : rng v4), K5 σ v1 v2 v3 v4 → RG σ → TY σ → Ext σi σ → kO σ th 8 → JJ p l e R s m args below meth c 5 D cA A n0 s0 QM σ 5 [(0, .ref th), (1, .int (i32 v1)), (2, .int (i32 v2)), (3, .int (i32 v3)), (4, .int (i32 v4))] []) : ∀ (σ : Sg) (v1 : Int) (v2 : Int) (v3 : Int) (v4 : Int) (g1 : rng v1) (g2 : rng v2) (g3 : rng v3) (g4 : rng v4), w_X8_memberOf_5 th K5 Q X σ v1 v2 v3 v4 → RG σ → TY σ → Ext σi σ → kO σ th 8 → JJ p l e R s m args below meth c 5 D cA A n0 s0 QM σ 5 [(0, .ref th), (1, .int (i32 v1)), (2, .int (i32 v2)), (3, .int (i32 v3)), (4, .int (i32 v4))] [] := by
  intro σ v1 v2 v3 v4 g1 g2 g3 g4 h hGσ hYσ hE hth H locs ls hH hl hc
  have B := K.1
  have hl9 := K.2.2.2.2.2.2
  unfold w_X8_memberOf_5 at h
  refine lv_iload B.1 B.2.1 dX8_memberOf_5 (lv_at hl 4 rfl) ?_
  refine lv_sipush (v := i32 256) B.1 B.2.1 dX8_memberOf_7 (by decide) ?_
  refine lv_icmp_ge (tgt := 65) B.1 B.2.1 dX8_memberOf_10 (by decide) (fun h9 => ?_) (fun h9 => ?_)
  · rw [if_pos ((i32_le (by unfold rng; omega) g4).mp h9)] at h
    exact a_X8_memberOf_65 K hQ hX hTh _ h hGσ hYσ hE hth _ _ _ hH (lv_sub (l' := [(0, .ref th)]) hl [0] rfl) hc
  · rw [if_neg (fun q => h9 ((i32_le (by unfold rng; omega) g4).mpr q))] at h
    exact a_X8_memberOf_13 K hQ hX hTh hK5 _ _ _ _ _ g1 g2 g3 g4 h hGσ hYσ hE hth _ _ _ hH (lv_sub (l' := [(0, .ref th), (1, .int (i32 v1)), (2, .int (i32 v2)), (3, .int (i32 v3)), (4, .int (i32 v4))]) hl [0, 1, 2, 3, 4] rfl) hc
theorem al_X8_memberOf_5 {Q : Sg → Int → Prop} {X : Sg → String → Prop} {th : Nat} (K : MD l R p s m args c cX8_memberOf 5 RX8 D cA tys A n0 s0 0 0 []) (hQ : CQI p l e R s m args below meth c cX8_memberOf D cA A n0 s0 QM σi Q) (hX : CX p l e R s m args below meth c 5 D cA A n0 s0 QM σi X) (hTh : CT p l e R s m args below meth c cX8_memberOf 5 D cA A n0 s0 QM σi RX8 X) : ∀ (n : Nat), ∀ (σ : Sg) (v1 : Int) (v2 : Int) (v3 : Int) (v4 : Int) (g1 : rng v1) (g2 : rng v2) (g3 : rng v3) (g4 : rng v4), wl_X8_memberOf_5 th Q X n σ v1 v2 v3 v4 → RG σ → TY σ → Ext σi σ → kO σ th 8 → JJ p l e R s m args below meth c 5 D cA A n0 s0 QM σ 5 [(0, .ref th), (1, .int (i32 v1)), (2, .int (i32 v2)), (3, .int (i32 v3)), (4, .int (i32 v4))] [] := by
  intro n
  induction n with
  | zero => intro σ v1 v2 v3 v4 g1 g2 g3 g4 h; exact h.elim
  | succ n ih => exact fun σ v1 v2 v3 v4 g1 g2 g3 g4 h => a_X8_memberOf_5 K hQ hX hTh ih σ v1 v2 v3 v4 g1 g2 g3 g4 h
set_option maxRecDepth 20000 in
theorem a_X8_memberOf_0 {Q : Sg → Int → Prop} {X : Sg → String → Prop} {th : Nat} (K : MD l R p s m args c cX8_memberOf 5 RX8 D cA tys A n0 s0 0 0 []) (hQ : CQI p l e R s m args below meth c cX8_memberOf D cA A n0 s0 QM σi Q) (hX : CX p l e R s m args below meth c 5 D cA A n0 s0 QM σi X) (hTh : CT p l e R s m args below meth c cX8_memberOf 5 D cA A n0 s0 QM σi RX8 X) : ∀ (σ : Sg) (v1 : Int) (v2 : Int) (g1 : rng v1) (g2 : rng v2), w_X8_memberOf_0 th Q X σ v1 v2 → RG σ → TY σ → Ext σi σ → kO σ th 8 → JJ p l e R s m args below meth c 5 D cA A n0 s0 QM σ 0 [(0, .ref th), (1, .int (i32 v1)), (2, .int (i32 v2))] [] := by
  intro σ v1 v2 g1 g2 h hGσ hYσ hE hth H locs ls hH hl hc
  have B := K.1
  have hl9 := K.2.2.2.2.2.2
  unfold w_X8_memberOf_0 at h
  refine lv_iconst (v := i32 0) B.1 B.2.1 dX8_memberOf_0 (by decide) ?_
  refine lv_istore_n (lv' := [(3, .int (i32 0)), (0, .ref th), (1, .int (i32 v1)), (2, .int (i32 v2))]) B.1 B.2.1 dX8_memberOf_1 rfl hl (by decide) rfl (fun ls hl => ?_)
  refine lv_iconst (v := i32 0) B.1 B.2.1 dX8_memberOf_2 (by decide) ?_
  refine lv_istore (lv' := [(4, .int (i32 0)), (3, .int (i32 0)), (0, .ref th), (1, .int (i32 v1)), (2, .int (i32 v2))]) B.1 B.2.1 dX8_memberOf_3 hl (by decide) rfl (fun ls hl => ?_)
  obtain ⟨n9, h⟩ := h
  exact al_X8_memberOf_5 K hQ hX hTh n9 _ _ _ _ _ g1 g2 (by unfold rng; omega) (by unfold rng; omega) h hGσ hYσ hE hth _ _ _ hH (lv_sub (l' := [(0, .ref th), (1, .int (i32 v1)), (2, .int (i32 v2)), (3, .int (i32 0)), (4, .int (i32 0))]) hl [2, 3, 4, 1, 0] rfl) hc
theorem ok_X8_memberOf (hl0 : l.stackTraces = false) (hT : TyC cA tys) {Q : Sg → Int → Prop} {X : Sg → String → Prop} (σ : Sg) (th : Nat) (v1 : Int) (v2 : Int) (g1 : rng v1) (g2 : rng v2) (hth : kO σ th 8) (hG : RG σ) (hY : TY σ) (h : wp_X8_memberOf th v1 v2 σ Q X) : Ok l D cA tys A yX8_memberOf (.code yX8_memberOf cX8_memberOf 5 (some .int)) 0 0 [.ref th, .int (i32 v1), .int (i32 v2)] σ (QcI σ Q) (QxC σ X) := by
  unfold wp_X8_memberOf at h
  exact oc_I hl0 (by decide) (by exact Nat.le_of_ble_eq_true rfl) hT (fun p e R s m args below meth c K hQ hX hTh H locs ls hH hl hc => a_X8_memberOf_0 K hQ hX hTh σ v1 v2 g1 g2 h hG hY (Ext.rfl' σ) hth H locs ls hH (lv_sub (l' := [(0, .ref th), (1, .int (i32 v1)), (2, .int (i32 v2))]) hl [0, 1, 2] rfl) hc)
end C83

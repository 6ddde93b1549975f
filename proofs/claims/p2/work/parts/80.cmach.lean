section C80
variable {p : Program} {l : Launch} {e : Env} {R : Room} {s : State} {m : MethodId} {args : Array Value} {below : List Frame} {meth : Method} {c : Code} {D : va_G} {cA : Nat → ClassId} {tys : List (ClassId × FieldType)} {A : Nat → Prop} {n0 s0 : Nat} {QM : State → Prop} {σi : Sg}
theorem dX11_becomeRow_0 : decode cX11_becomeRow 0 = .ok (.aload_n 1, 1) := by decide +kernel
theorem dX11_becomeRow_1 : decode cX11_becomeRow 1 = .ok (.dup, 1) := by decide +kernel
theorem dX11_becomeRow_2 : decode cX11_becomeRow 2 = .ok (.getfield 85, 3) := by decide +kernel
theorem dX11_becomeRow_5 : decode cX11_becomeRow 5 = .ok (.iload_n 2, 1) := by decide +kernel
theorem dX11_becomeRow_6 : decode cX11_becomeRow 6 = .ok (.i2l, 1) := by decide +kernel
theorem dX11_becomeRow_7 : decode cX11_becomeRow 7 = .ok (.ladd, 1) := by decide +kernel
theorem dX11_becomeRow_8 : decode cX11_becomeRow 8 = .ok (.putfield 85, 3) := by decide +kernel
theorem dX11_becomeRow_11 : decode cX11_becomeRow 11 = .ok (.aload_n 0, 1) := by decide +kernel
theorem dX11_becomeRow_12 : decode cX11_becomeRow 12 = .ok (.getfield 198, 3) := by decide +kernel
theorem dX11_becomeRow_15 : decode cX11_becomeRow 15 = .ok (.bipush 7, 2) := by decide +kernel
theorem dX11_becomeRow_17 : decode cX11_becomeRow 17 = .ok (.invokestatic 251, 3) := by decide +kernel
theorem dX11_becomeRow_20 : decode cX11_becomeRow 20 = .ok (.istore_n 3, 1) := by decide +kernel
theorem dX11_becomeRow_21 : decode cX11_becomeRow 21 = .ok (.iload_n 3, 1) := by decide +kernel
theorem dX11_becomeRow_22 : decode cX11_becomeRow 22 = .ok (.ifCond .le 23, 3) := by decide +kernel
theorem dX11_becomeRow_25 : decode cX11_becomeRow 25 = .ok (.aload_n 1, 1) := by decide +kernel
theorem dX11_becomeRow_26 : decode cX11_becomeRow 26 = .ok (.getfield 64, 3) := by decide +kernel
theorem dX11_becomeRow_29 : decode cX11_becomeRow 29 = .ok (.iload_n 3, 1) := by decide +kernel
theorem dX11_becomeRow_30 : decode cX11_becomeRow 30 = .ok (.aload_n 1, 1) := by decide +kernel
theorem dX11_becomeRow_31 : decode cX11_becomeRow 31 = .ok (.getfield 64, 3) := by decide +kernel
theorem dX11_becomeRow_34 : decode cX11_becomeRow 34 = .ok (.iload_n 3, 1) := by decide +kernel
theorem dX11_becomeRow_35 : decode cX11_becomeRow 35 = .ok (.iconst 1, 1) := by decide +kernel
theorem dX11_becomeRow_36 : decode cX11_becomeRow 36 = .ok (.isub, 1) := by decide +kernel
theorem dX11_becomeRow_37 : decode cX11_becomeRow 37 = .ok (.laload, 1) := by decide +kernel
theorem dX11_becomeRow_38 : decode cX11_becomeRow 38 = .ok (.lastore, 1) := by decide +kernel
theorem dX11_becomeRow_39 : decode cX11_becomeRow 39 = .ok (.iinc 3 (-1), 3) := by decide +kernel
theorem dX11_becomeRow_42 : decode cX11_becomeRow 42 = .ok (.goto (-21), 3) := by decide +kernel
theorem dX11_becomeRow_45 : decode cX11_becomeRow 45 = .ok (.aload_n 1, 1) := by decide +kernel
theorem dX11_becomeRow_46 : decode cX11_becomeRow 46 = .ok (.getfield 64, 3) := by decide +kernel
theorem dX11_becomeRow_49 : decode cX11_becomeRow 49 = .ok (.iconst 0, 1) := by decide +kernel
theorem dX11_becomeRow_50 : decode cX11_becomeRow 50 = .ok (.aload_n 1, 1) := by decide +kernel
theorem dX11_becomeRow_51 : decode cX11_becomeRow 51 = .ok (.getfield 72, 3) := by decide +kernel
theorem dX11_becomeRow_54 : decode cX11_becomeRow 54 = .ok (.lastore, 1) := by decide +kernel
theorem dX11_becomeRow_55 : decode cX11_becomeRow 55 = .ok (.return_, 1) := by decide +kernel
set_option maxRecDepth 20000 in
theorem a_X11_becomeRow_45 {Q : Sg → Unit → Prop} {X : Sg → String → Prop} (K : MD l R p s m args c cX11_becomeRow 4 RX11 D cA tys A n0 s0 1 21 []) (hQ : CQV p l e R s m args below meth c cX11_becomeRow D cA A n0 s0 QM σi Q) (hX : CX p l e R s m args below meth c 4 D cA A n0 s0 QM σi X) (hTh : CT p l e R s m args below meth c cX11_becomeRow 4 D cA A n0 s0 QM σi RX11 X) : ∀ (σ : Sg) (v1 : Option Nat) (g1 : tyV σ 0 v1), w_X11_becomeRow_45 Q X σ v1 → RG σ → TY σ → Ext σi σ → JJ p l e R s m args below meth c 4 D cA A n0 s0 QM σ 45 [(1, va_rf v1)] [] := by
  intro σ v1 g1 h hGσ hYσ hE H locs ls hH hl hc
  have B := K.1
  have hl9 := K.2.2.2.2.2.2
  unfold w_X11_becomeRow_45 at h
  refine lv_aload_nQ B.1 B.2.1 dX11_becomeRow_45 rfl (lv_at hl 0 rfl) ?_
  obtain ⟨a23, ea23, h⟩ := h
  have ka23 : kO σ a23 0 := g1 a23 ea23
  have h := h ka23
  refine W.eq (g2 := F0 m 46 ls [.ref a23]) (by rw [ea23]; rfl) ?_
  refine f_getp B hH ka23 (by decide) rfl wu_X0 0 (by decide) wf_X11_64 rfl rfl dX11_becomeRow_46 ?_
  refine lv_iconst (v := i32 0) B.1 B.2.1 dX11_becomeRow_49 (by decide) ?_
  refine lv_aload_nQ B.1 B.2.1 dX11_becomeRow_50 rfl (lv_at hl 0 rfl) ?_
  refine W.eq (g2 := F0 m 51 ls [.ref a23, .int (i32 0), va_rf (gP σ a23 0)]) (by rw [ea23]; rfl) ?_
  refine f_getl B hH ka23 (by decide) rfl wu_X0 7 (by decide) wf_X11_72 rfl rfl dX11_becomeRow_51 ?_
  obtain ⟨a24, ea24, h⟩ := h
  have ka24 : kO σ a24 101 := (hYσ.get ka23 (by decide)) a24 ea24
  have h := h ka24
  obtain ⟨q1, h⟩ := h
  obtain ⟨σ25, eσ25⟩ : ∃ z, z = pJ σ a24 0 (gJ σ a23 7) := ⟨_, rfl⟩
  have h := h σ25 eσ25
  refine W.eq (g2 := F0 m 54 ls [.long (gJ σ a23 7), .int (i32 0), .ref a24]) (by rw [ea24]; rfl) ?_
  refine y_last B K.2.1 hH ka24 q1 dX11_becomeRow_54 (hYσ.2 _) (fun H locs hH => ?_)
  have hH : Hd D cA A s (pJ σ a24 0 (gJ σ a23 7)) H locs := hH
  rw [← eσ25] at hH
  have hGσ25 : RG σ25 := by rw [eσ25]; exact hGσ.pJ
  have hYσ25 : TY σ25 := by rw [eσ25]; exact hYσ.pJ
  have xσ25 : Ext σ σ25 := by rw [eσ25]; exact Ext.pJ
  have hc : CB n0 s0 σ25 := by rw [eσ25]; exact hc
  rw [show gc σ = gc σ25 by rw [eσ25]; try rfl, show gs σ = gs σ25 by rw [eσ25]; try rfl]
  exact hQ _ _ _ _ _ dX11_becomeRow_55 hH hc h hGσ25 hYσ25 (hE.trans xσ25)
set_option maxRecDepth 20000 in
theorem a_X11_becomeRow_25 {Q : Sg → Unit → Prop} {X : Sg → String → Prop} (K : MD l R p s m args c cX11_becomeRow 4 RX11 D cA tys A n0 s0 1 21 []) (hQ : CQV p l e R s m args below meth c cX11_becomeRow D cA A n0 s0 QM σi Q) (hX : CX p l e R s m args below meth c 4 D cA A n0 s0 QM σi X) (hTh : CT p l e R s m args below meth c cX11_becomeRow 4 D cA A n0 s0 QM σi RX11 X) {K21 : Sg → Option Nat → Int → Prop} (hK21 : ∀ (σ : Sg) (v1 : Option Nat) (v3 : Int) (g1 : tyV σ 0 v1) (g3 : rng v3), K21 σ v1 v3 → RG σ → TY σ → Ext σi σ → JJ p l e R s m args below meth c 4 D cA A n0 s0 QM σ 21 [(1, va_rf v1), (3, .int (i32 v3))] []) : ∀ (σ : Sg) (v1 : Option Nat) (v3 : Int) (g1 : tyV σ 0 v1) (g3 : rng v3), w_X11_becomeRow_25 K21 Q X σ v1 v3 → RG σ → TY σ → Ext σi σ → JJ p l e R s m args below meth c 4 D cA A n0 s0 QM σ 25 [(1, va_rf v1), (3, .int (i32 v3))] [] := by
  intro σ v1 v3 g1 g3 h hGσ hYσ hE H locs ls hH hl hc
  have B := K.1
  have hl9 := K.2.2.2.2.2.2
  unfold w_X11_becomeRow_25 at h
  refine lv_aload_nQ B.1 B.2.1 dX11_becomeRow_25 rfl (lv_at hl 0 rfl) ?_
  obtain ⟨a26, ea26, h⟩ := h
  have ka26 : kO σ a26 0 := g1 a26 ea26
  have h := h ka26
  refine W.eq (g2 := F0 m 26 ls [.ref a26]) (by rw [ea26]; rfl) ?_
  refine f_getp B hH ka26 (by decide) rfl wu_X0 0 (by decide) wf_X11_64 rfl rfl dX11_becomeRow_26 ?_
  refine lv_iload_n B.1 B.2.1 dX11_becomeRow_29 rfl (lv_at hl 1 rfl) ?_
  refine lv_aload_nQ B.1 B.2.1 dX11_becomeRow_30 rfl (lv_at hl 0 rfl) ?_
  refine W.eq (g2 := F0 m 31 ls [.ref a26, .int (i32 v3), va_rf (gP σ a26 0)]) (by rw [ea26]; rfl) ?_
  refine f_getp B hH ka26 (by decide) rfl wu_X0 0 (by decide) wf_X11_64 rfl rfl dX11_becomeRow_31 ?_
  refine lv_iload_n B.1 B.2.1 dX11_becomeRow_34 rfl (lv_at hl 1 rfl) ?_
  refine lv_iconst (v := i32 1) B.1 B.2.1 dX11_becomeRow_35 (by decide) ?_
  obtain ⟨q1, h⟩ := h
  refine lv_isub B.1 B.2.1 dX11_becomeRow_36 ?_
  rw [i32_sub]
  obtain ⟨a27, ea27, h⟩ := h
  have ka27 : kO σ a27 101 := (hYσ.get ka26 (by decide)) a27 ea27
  have h := h ka27
  obtain ⟨q2, h⟩ := h
  refine W.eq (g2 := F0 m 37 ls [.int (i32 (v3 - 1)), .ref a27, .int (i32 v3), va_rf (gP σ a26 0)]) (by rw [ea27]; rfl) ?_
  refine y_lald B K.2.1 hH ka27 q2 dX11_becomeRow_37 (hYσ.2 _) ?_
  obtain ⟨q3, h⟩ := h
  obtain ⟨σ28, eσ28⟩ : ∃ z, z = pJ σ a27 v3.toNat (gJ σ a27 (v3 - 1).toNat) := ⟨_, rfl⟩
  have h := h σ28 eσ28
  refine W.eq (g2 := F0 m 38 ls [.long (gJ σ a27 (v3 - 1).toNat), .int (i32 v3), .ref a27]) (by rw [ea27]; rfl) ?_
  refine y_last B K.2.1 hH ka27 q3 dX11_becomeRow_38 (hYσ.2 _) (fun H locs hH => ?_)
  have hH : Hd D cA A s (pJ σ a27 v3.toNat (gJ σ a27 (v3 - 1).toNat)) H locs := hH
  rw [← eσ28] at hH
  have hGσ28 : RG σ28 := by rw [eσ28]; exact hGσ.pJ
  have hYσ28 : TY σ28 := by rw [eσ28]; exact hYσ.pJ
  have xσ28 : Ext σ σ28 := by rw [eσ28]; exact Ext.pJ
  have hc : CB n0 s0 σ28 := by rw [eσ28]; exact hc
  rw [show gc σ = gc σ28 by rw [eσ28]; try rfl, show gs σ = gs σ28 by rw [eσ28]; try rfl]
  obtain ⟨q4, h⟩ := h
  refine lv_iinc (k := 1) (v := i32 (v3 + (-1))) (lv' := [(3, .int (i32 (v3 + (-1)))), (1, va_rf v1)]) B.1 B.2.1 dX11_becomeRow_39 hl rfl (i32_add _ _) (by decide) rfl (fun ls hl => ?_)
  refine lv_goto (tgt := 21) B.1 B.2.1 dX11_becomeRow_42 (by decide) ?_
  exact hK21 _ _ _ (g1.up xσ28) q4 h hGσ28 hYσ28 (hE.trans xσ28) _ _ _ hH (lv_sub (l' := [(1, va_rf v1), (3, .int (i32 (v3 + (-1))))]) hl [1, 0] rfl) hc
set_option maxRecDepth 20000 in
theorem a_X11_becomeRow_21 {Q : Sg → Unit → Prop} {X : Sg → String → Prop} (K : MD l R p s m args c cX11_becomeRow 4 RX11 D cA tys A n0 s0 1 21 []) (hQ : CQV p l e R s m args below meth c cX11_becomeRow D cA A n0 s0 QM σi Q) (hX : CX p l e R s m args below meth c 4 D cA A n0 s0 QM σi X) (hTh : CT p l e R s m args below meth c cX11_becomeRow 4 D cA A n0 s0 QM σi RX11 X) {K21 : Sg → Option Nat → Int → Prop} (hK21 : ∀ (σ : Sg) (v1 : Option Nat) (v3 : Int) (g1 : tyV σ 0 v1) (g3 : rng v3), K21 σ v1 v3 → RG σ → TY σ → Ext σi σ → JJ p l e R s m args below meth c 4 D cA A n0 s0 QM σ 21 [(1, va_rf v1), (3, .int (i32 v3))] []) : ∀ (σ : Sg) (v1 : Option Nat) (v3 : Int) (g1 : tyV σ 0 v1) (g3 : rng v3), w_X11_becomeRow_21 K21 Q X σ v1 v3 → RG σ → TY σ → Ext σi σ → JJ p l e R s m args below meth c 4 D cA A n0 s0 QM σ 21 [(1, va_rf v1), (3, .int (i32 v3))] [] := by
  intro σ v1 v3 g1 g3 h hGσ hYσ hE H locs ls hH hl hc
  have B := K.1
  have hl9 := K.2.2.2.2.2.2
  unfold w_X11_becomeRow_21 at h
  refine lv_iload_n B.1 B.2.1 dX11_becomeRow_21 rfl (lv_at hl 1 rfl) ?_
  refine lv_if_le (tgt := 45) B.1 B.2.1 dX11_becomeRow_22 (by decide) (fun h9 => ?_) (fun h9 => ?_)
  · rw [if_pos ((z_le g3).mp h9)] at h
    exact a_X11_becomeRow_45 K hQ hX hTh _ _ g1 h hGσ hYσ hE _ _ _ hH (lv_sub (l' := [(1, va_rf v1)]) hl [0] rfl) hc
  · rw [if_neg (fun q => h9 ((z_le g3).mpr q))] at h
    exact a_X11_becomeRow_25 K hQ hX hTh hK21 _ _ _ g1 g3 h hGσ hYσ hE _ _ _ hH (lv_sub (l' := [(1, va_rf v1), (3, .int (i32 v3))]) hl [0, 1] rfl) hc
theorem al_X11_becomeRow_21 {Q : Sg → Unit → Prop} {X : Sg → String → Prop} (K : MD l R p s m args c cX11_becomeRow 4 RX11 D cA tys A n0 s0 1 21 []) (hQ : CQV p l e R s m args below meth c cX11_becomeRow D cA A n0 s0 QM σi Q) (hX : CX p l e R s m args below meth c 4 D cA A n0 s0 QM σi X) (hTh : CT p l e R s m args below meth c cX11_becomeRow 4 D cA A n0 s0 QM σi RX11 X) : ∀ (n : Nat), ∀ (σ : Sg) (v1 : Option Nat) (v3 : Int) (g1 : tyV σ 0 v1) (g3 : rng v3), wl_X11_becomeRow_21 Q X n σ v1 v3 → RG σ → TY σ → Ext σi σ → JJ p l e R s m args below meth c 4 D cA A n0 s0 QM σ 21 [(1, va_rf v1), (3, .int (i32 v3))] [] := by
  intro n
  induction n with
  | zero => intro σ v1 v3 g1 g3 h; exact h.elim
  | succ n ih => exact fun σ v1 v3 g1 g3 h => a_X11_becomeRow_21 K hQ hX hTh ih σ v1 v3 g1 g3 h
set_option maxRecDepth 20000 in
theorem a_X11_becomeRow_0 {Q : Sg → Unit → Prop} {X : Sg → String → Prop} (K : MD l R p s m args c cX11_becomeRow 4 RX11 D cA tys A n0 s0 1 21 []) (hQ : CQV p l e R s m args below meth c cX11_becomeRow D cA A n0 s0 QM σi Q) (hX : CX p l e R s m args below meth c 4 D cA A n0 s0 QM σi X) (hTh : CT p l e R s m args below meth c cX11_becomeRow 4 D cA A n0 s0 QM σi RX11 X) : ∀ (σ : Sg) (v0 : Option Nat) (v1 : Option Nat) (v2 : Int) (g0 : tyV σ 5 v0) (g1 : tyV σ 0 v1) (g2 : rng v2), w_X11_becomeRow_0 Q X σ v0 v1 v2 → RG σ → TY σ → Ext σi σ → JJ p l e R s m args below meth c 4 D cA A n0 s0 QM σ 0 [(0, va_rf v0), (1, va_rf v1), (2, .int (i32 v2))] [] := by
  intro σ v0 v1 v2 g0 g1 g2 h hGσ hYσ hE H locs ls hH hl hc
  have B := K.1
  have hl9 := K.2.2.2.2.2.2
  unfold w_X11_becomeRow_0 at h
  refine lv_aload_nQ B.1 B.2.1 dX11_becomeRow_0 rfl (lv_at hl 1 rfl) ?_
  refine lv_dup B.1 B.2.1 dX11_becomeRow_1 (rf_cat _) ?_
  obtain ⟨a29, ea29, h⟩ := h
  have ka29 : kO σ a29 0 := g1 a29 ea29
  have h := h ka29
  refine W.eq (g2 := F0 m 2 ls [.ref a29, va_rf v1]) (by rw [ea29]; rfl) ?_
  refine f_getl B hH ka29 (by decide) rfl wu_X0 5 (by decide) wf_X11_85 rfl rfl dX11_becomeRow_2 ?_
  refine lv_iload_n B.1 B.2.1 dX11_becomeRow_5 rfl (lv_at hl 2 rfl) ?_
  refine lv_i2l B.1 B.2.1 dX11_becomeRow_6 (i32_i64 g2) ?_
  refine lv_ladd B.1 B.2.1 dX11_becomeRow_7 ?_
  obtain ⟨σ30, eσ30⟩ : ∃ z, z = pJ σ a29 5 (gJ σ a29 5 + (Int64.ofInt v2)) := ⟨_, rfl⟩
  have h := h σ30 eσ30
  refine W.eq (g2 := F0 m 8 ls [.long (gJ σ a29 5 + (Int64.ofInt v2)), .ref a29]) (by rw [ea29]; rfl) ?_
  refine f_putl B hH ka29 (by decide) rfl wu_X0 tyX0 tyX0_ok nmX0 5 (by decide) wf_X11_85 rfl (ty := .long) rfl rfl rfl rfl rfl dX11_becomeRow_8 (fun H locs hH => ?_)
  have hH : Hd D cA A s (pJ σ a29 5 (gJ σ a29 5 + (Int64.ofInt v2))) H locs := hH
  rw [← eσ30] at hH
  have hGσ30 : RG σ30 := by rw [eσ30]; exact hGσ.pJ
  have hYσ30 : TY σ30 := by rw [eσ30]; exact hYσ.pJ
  have xσ30 : Ext σ σ30 := by rw [eσ30]; exact Ext.pJ
  have hc : CB n0 s0 σ30 := by rw [eσ30]; exact hc
  rw [show gc σ = gc σ30 by rw [eσ30]; try rfl, show gs σ = gs σ30 by rw [eσ30]; try rfl]
  refine lv_aload_nQ B.1 B.2.1 dX11_becomeRow_11 rfl (lv_at hl 0 rfl) ?_
  obtain ⟨a31, ea31, h⟩ := h
  have ka31 : kO σ30 a31 5 := (g0.up xσ30) a31 ea31
  have h := h ka31
  refine W.eq (g2 := F0 m 12 ls [.ref a31]) (by rw [ea31]; rfl) ?_
  refine f_geti B hH ka31 (by decide) rfl wu_X5 4 (by decide) wf_X11_198 rfl rfl dX11_becomeRow_12 ?_
  refine lv_bipush (v := i32 7) B.1 B.2.1 dX11_becomeRow_15 (by decide) ?_
  refine c_S B hH hl hc K.2.2.1 (As := [.int (i32 (gI σ30 a31 4)), .int (i32 7)]) (okC_J9_min_7cf53 hl9 K.2.1 σ30 (gI σ30 a31 4) 7 (hGσ30 _ _) (by unfold rng; omega) hGσ30 hYσ30 h) wc_X11_251 2 hdC_J9_min_7cf53 ⟨Nat.le_trans (Nat.le_of_ble_eq_true rfl) K.2.2.2.1, Nat.le_trans (Nat.le_of_ble_eq_true rfl) K.2.2.2.2.1⟩ rfl (rest := []) rfl (Nat.le_of_ble_eq_true rfl) dX11_becomeRow_17 (fun σ32 w hq => ?_) (fun σ9 E9 hx9 => hX σ9 E9 _ _ _ (tb_out K.2.2.2.2.2.1 rfl) hx9.1 hx9.2.1 hx9.2.2.1 ((hE.trans xσ30).trans hx9.2.2.2))
  obtain ⟨r33, rfl, gr33, h, hGσ32, hYσ32, xσ32⟩ := hq
  have h := h xσ32
  intro H locs ls hH hl hc
  refine W.eq (g2 := F0 m 20 ls [.int (i32 r33)]) (rfl) ?_
  try dsimp only at h
  refine lv_istore_n (lv' := [(3, .int (i32 r33)), (0, va_rf v0), (1, va_rf v1), (2, .int (i32 v2))]) B.1 B.2.1 dX11_becomeRow_20 rfl hl (by decide) rfl (fun ls hl => ?_)
  obtain ⟨n9, h⟩ := h
  exact al_X11_becomeRow_21 K hQ hX hTh n9 _ _ _ (g1.up (xσ30.trans xσ32)) gr33 h hGσ32 hYσ32 ((hE.trans xσ30).trans xσ32) _ _ _ hH (lv_sub (l' := [(1, va_rf v1), (3, .int (i32 r33))]) hl [2, 0] rfl) hc
theorem ok_X11_becomeRow (hl0 : l.stackTraces = false) (hT : TyC cA tys) {Q : Sg → Unit → Prop} {X : Sg → String → Prop} (σ : Sg) (v0 : Option Nat) (v1 : Option Nat) (v2 : Int) (g0 : tyV σ 5 v0) (g1 : tyV σ 0 v1) (g2 : rng v2) (hG : RG σ) (hY : TY σ) (h : wp_X11_becomeRow v0 v1 v2 σ Q X) : Ok l D cA tys A yX11_becomeRow (.code yX11_becomeRow cX11_becomeRow 4 none) 1 21 [va_rf v0, va_rf v1, .int (i32 v2)] σ (QcV σ Q) (QxC σ X) := by
  unfold wp_X11_becomeRow at h
  exact oc_V hl0 (by decide) (by cases v0 <;> cases v1 <;> exact Nat.le_of_ble_eq_true rfl) hT (fun p e R s m args below meth c K hQ hX hTh hin9 H locs ls hH hl hc => a_X11_becomeRow_0 K hQ hX hTh σ v0 v1 v2 g0 g1 g2 h hG hY (Ext.rfl' σ) H locs ls hH (lv_sub (l' := [(0, va_rf v0), (1, va_rf v1), (2, .int (i32 v2))]) hl [0, 1, 2] (by cases v0 <;> cases v1 <;> rfl)) hc)
theorem dX11_endFolds_0 : decode cX11_endFolds 0 = .ok (.aconst_null, 1) := by decide +kernel
theorem dX11_endFolds_1 : decode cX11_endFolds 1 = .ok (.astore 6, 2) := by decide +kernel
theorem dX11_endFolds_3 : decode cX11_endFolds 3 = .ok (.aload_n 2, 1) := by decide +kernel
theorem dX11_endFolds_4 : decode cX11_endFolds 4 = .ok (.getfield 105, 3) := by decide +kernel
theorem dX11_endFolds_7 : decode cX11_endFolds 7 = .ok (.getfield 225, 3) := by decide +kernel
theorem dX11_endFolds_10 : decode cX11_endFolds 10 = .ok (.astore 7, 2) := by decide +kernel
theorem dX11_endFolds_12 : decode cX11_endFolds 12 = .ok (.aload 7, 2) := by decide +kernel
theorem dX11_endFolds_14 : decode cX11_endFolds 14 = .ok (.ifnull 69, 3) := by decide +kernel
theorem dX11_endFolds_17 : decode cX11_endFolds 17 = .ok (.aload 7, 2) := by decide +kernel
theorem dX11_endFolds_19 : decode cX11_endFolds 19 = .ok (.getfield 235, 3) := by decide +kernel
theorem dX11_endFolds_22 : decode cX11_endFolds 22 = .ok (.astore 8, 2) := by decide +kernel
theorem dX11_endFolds_24 : decode cX11_endFolds 24 = .ok (.aload 7, 2) := by decide +kernel
theorem dX11_endFolds_26 : decode cX11_endFolds 26 = .ok (.getfield 85, 3) := by decide +kernel
theorem dX11_endFolds_29 : decode cX11_endFolds 29 = .ok (.iload 5, 2) := by decide +kernel
theorem dX11_endFolds_31 : decode cX11_endFolds 31 = .ok (.i2l, 1) := by decide +kernel
theorem dX11_endFolds_32 : decode cX11_endFolds 32 = .ok (.ladd, 1) := by decide +kernel
theorem dX11_endFolds_33 : decode cX11_endFolds 33 = .ok (.lload_n 3, 1) := by decide +kernel
theorem dX11_endFolds_34 : decode cX11_endFolds 34 = .ok (.lcmp, 1) := by decide +kernel
theorem dX11_endFolds_35 : decode cX11_endFolds 35 = .ok (.ifCond .gt 37, 3) := by decide +kernel
theorem dX11_endFolds_38 : decode cX11_endFolds 38 = .ok (.aload_n 2, 1) := by decide +kernel
theorem dX11_endFolds_39 : decode cX11_endFolds 39 = .ok (.getfield 105, 3) := by decide +kernel
theorem dX11_endFolds_42 : decode cX11_endFolds 42 = .ok (.aload 6, 2) := by decide +kernel
theorem dX11_endFolds_44 : decode cX11_endFolds 44 = .ok (.invokevirtual 238, 3) := by decide +kernel
theorem dX11_endFolds_47 : decode cX11_endFolds 47 = .ok (.pop, 1) := by decide +kernel
theorem dX11_endFolds_48 : decode cX11_endFolds 48 = .ok (.aload_n 0, 1) := by decide +kernel
theorem dX11_endFolds_49 : decode cX11_endFolds 49 = .ok (.dup, 1) := by decide +kernel
theorem dX11_endFolds_50 : decode cX11_endFolds 50 = .ok (.getfield 165, 3) := by decide +kernel
theorem dX11_endFolds_53 : decode cX11_endFolds 53 = .ok (.iconst 1, 1) := by decide +kernel
theorem dX11_endFolds_54 : decode cX11_endFolds 54 = .ok (.isub, 1) := by decide +kernel
theorem dX11_endFolds_55 : decode cX11_endFolds 55 = .ok (.putfield 165, 3) := by decide +kernel
theorem dX11_endFolds_58 : decode cX11_endFolds 58 = .ok (.aload_n 0, 1) := by decide +kernel
theorem dX11_endFolds_59 : decode cX11_endFolds 59 = .ok (.getfield 12, 3) := by decide +kernel
theorem dX11_endFolds_62 : decode cX11_endFolds 62 = .ok (.aload 7, 2) := by decide +kernel
theorem dX11_endFolds_64 : decode cX11_endFolds 64 = .ok (.iconst 2, 1) := by decide +kernel
theorem dX11_endFolds_65 : decode cX11_endFolds 65 = .ok (.iconst 0, 1) := by decide +kernel
theorem dX11_endFolds_66 : decode cX11_endFolds 66 = .ok (.invokevirtual 161, 3) := by decide +kernel
theorem dX11_endFolds_69 : decode cX11_endFolds 69 = .ok (.goto 7, 3) := by decide +kernel
theorem dX11_endFolds_72 : decode cX11_endFolds 72 = .ok (.aload 7, 2) := by decide +kernel
theorem dX11_endFolds_74 : decode cX11_endFolds 74 = .ok (.astore 6, 2) := by decide +kernel
theorem dX11_endFolds_76 : decode cX11_endFolds 76 = .ok (.aload 8, 2) := by decide +kernel
theorem dX11_endFolds_78 : decode cX11_endFolds 78 = .ok (.astore 7, 2) := by decide +kernel
theorem dX11_endFolds_80 : decode cX11_endFolds 80 = .ok (.goto (-68), 3) := by decide +kernel
theorem dX11_endFolds_83 : decode cX11_endFolds 83 = .ok (.aload_n 0, 1) := by decide +kernel
theorem dX11_endFolds_84 : decode cX11_endFolds 84 = .ok (.getfield 12, 3) := by decide +kernel
theorem dX11_endFolds_87 : decode cX11_endFolds 87 = .ok (.getfield 225, 3) := by decide +kernel
theorem dX11_endFolds_90 : decode cX11_endFolds 90 = .ok (.astore 8, 2) := by decide +kernel
theorem dX11_endFolds_92 : decode cX11_endFolds 92 = .ok (.aload 8, 2) := by decide +kernel
theorem dX11_endFolds_94 : decode cX11_endFolds 94 = .ok (.ifnull 21, 3) := by decide +kernel
theorem dX11_endFolds_97 : decode cX11_endFolds 97 = .ok (.aload_n 1, 1) := by decide +kernel
theorem dX11_endFolds_98 : decode cX11_endFolds 98 = .ok (.aload 8, 2) := by decide +kernel
theorem dX11_endFolds_100 : decode cX11_endFolds 100 = .ok (.iload 5, 2) := by decide +kernel
theorem dX11_endFolds_102 : decode cX11_endFolds 102 = .ok (.invokestatic 247, 3) := by decide +kernel
theorem dX11_endFolds_105 : decode cX11_endFolds 105 = .ok (.aload 8, 2) := by decide +kernel
theorem dX11_endFolds_107 : decode cX11_endFolds 107 = .ok (.getfield 235, 3) := by decide +kernel
theorem dX11_endFolds_110 : decode cX11_endFolds 110 = .ok (.astore 8, 2) := by decide +kernel
theorem dX11_endFolds_112 : decode cX11_endFolds 112 = .ok (.goto (-20), 3) := by decide +kernel
theorem dX11_endFolds_115 : decode cX11_endFolds 115 = .ok (.return_, 1) := by decide +kernel
set_option maxRecDepth 20000 in
theorem a_X11_endFolds_115 {Q : Sg → Unit → Prop} {X : Sg → String → Prop} {th : Nat} (K : MD l R p s m args c cX11_endFolds 9 RX11 D cA tys A n0 s0 3 73 []) (hQ : CQV p l e R s m args below meth c cX11_endFolds D cA A n0 s0 QM σi Q) (hX : CX p l e R s m args below meth c 9 D cA A n0 s0 QM σi X) (hTh : CT p l e R s m args below meth c cX11_endFolds 9 D cA A n0 s0 QM σi RX11 X) : ∀ (σ : Sg), w_X11_endFolds_115 th Q X σ → RG σ → TY σ → Ext σi σ → kO σ th 11 → JJ p l e R s m args below meth c 9 D cA A n0 s0 QM σ 115 [(0, .ref th)] [] := by
  intro σ h hGσ hYσ hE hth H locs ls hH hl hc
  have B := K.1
  have hl9 := K.2.2.2.2.2.2
  unfold w_X11_endFolds_115 at h
  exact hQ _ _ _ _ _ dX11_endFolds_115 hH hc h hGσ hYσ hE
set_option maxRecDepth 20000 in
theorem a_X11_endFolds_97 {Q : Sg → Unit → Prop} {X : Sg → String → Prop} {th : Nat} (K : MD l R p s m args c cX11_endFolds 9 RX11 D cA tys A n0 s0 3 73 []) (hQ : CQV p l e R s m args below meth c cX11_endFolds D cA A n0 s0 QM σi Q) (hX : CX p l e R s m args below meth c 9 D cA A n0 s0 QM σi X) (hTh : CT p l e R s m args below meth c cX11_endFolds 9 D cA A n0 s0 QM σi RX11 X) {K92 : Sg → Option Nat → Int → Option Nat → Prop} (hK92 : ∀ (σ : Sg) (v1 : Option Nat) (v5 : Int) (v8 : Option Nat) (g1 : tyV σ 5 v1) (g5 : rng v5) (g8 : tyV σ 0 v8), K92 σ v1 v5 v8 → RG σ → TY σ → Ext σi σ → kO σ th 11 → JJ p l e R s m args below meth c 9 D cA A n0 s0 QM σ 92 [(0, .ref th), (1, va_rf v1), (5, .int (i32 v5)), (8, va_rf v8)] []) : ∀ (σ : Sg) (v1 : Option Nat) (v5 : Int) (v8 : Option Nat) (g1 : tyV σ 5 v1) (g5 : rng v5) (g8 : tyV σ 0 v8), w_X11_endFolds_97 th K92 Q X σ v1 v5 v8 → RG σ → TY σ → Ext σi σ → kO σ th 11 → JJ p l e R s m args below meth c 9 D cA A n0 s0 QM σ 97 [(0, .ref th), (1, va_rf v1), (5, .int (i32 v5)), (8, va_rf v8)] [] := by
  intro σ v1 v5 v8 g1 g5 g8 h hGσ hYσ hE hth H locs ls hH hl hc
  have B := K.1
  have hl9 := K.2.2.2.2.2.2
  unfold w_X11_endFolds_97 at h
  refine lv_aload_nQ B.1 B.2.1 dX11_endFolds_97 rfl (lv_at hl 1 rfl) ?_
  refine lv_aloadQ B.1 B.2.1 dX11_endFolds_98 (lv_at hl 3 rfl) ?_
  refine lv_iload B.1 B.2.1 dX11_endFolds_100 (lv_at hl 2 rfl) ?_
  refine W.eq (g2 := F0 m 102 ls [.int (i32 v5), va_rf v8, va_rf v1]) (rfl) ?_
  refine c_S B hH hl hc K.2.2.1 (As := [va_rf v1, va_rf v8, .int (i32 v5)]) (ok_X11_becomeRow hl9 K.2.1 σ v1 v8 v5 g1 g8 g5 hGσ hYσ h) wc_X11_247 3 hd_X11_becomeRow ⟨Nat.le_trans (Nat.le_of_ble_eq_true rfl) K.2.2.2.1, Nat.le_trans (Nat.le_of_ble_eq_true rfl) K.2.2.2.2.1⟩ rfl (rest := []) rfl (Nat.le_of_ble_eq_true rfl) dX11_endFolds_102 (fun σ35 w hq => ?_) (fun σ9 E9 hx9 => hX σ9 E9 _ _ _ (tb_out K.2.2.2.2.2.1 rfl) hx9.1 hx9.2.1 hx9.2.2.1 (hE.trans hx9.2.2.2))
  obtain ⟨rfl, h, hGσ35, hYσ35, xσ35⟩ := hq
  have h := h xσ35
  intro H locs ls hH hl hc
  refine W.eq (g2 := F0 m 105 ls []) (rfl) ?_
  try dsimp only at h
  refine lv_aloadQ B.1 B.2.1 dX11_endFolds_105 (lv_at hl 3 rfl) ?_
  obtain ⟨a36, ea36, h⟩ := h
  have ka36 : kO σ35 a36 0 := (g8.up xσ35) a36 ea36
  have h := h ka36
  refine W.eq (g2 := F0 m 107 ls [.ref a36]) (by rw [ea36]; rfl) ?_
  refine f_getp B hH ka36 (by decide) rfl wu_X0 1 (by decide) wf_X11_235 rfl rfl dX11_endFolds_107 ?_
  refine lv_astoreQ (lv' := [(8, va_rf (gP σ35 a36 1)), (0, .ref th), (1, va_rf v1), (5, .int (i32 v5))]) B.1 B.2.1 dX11_endFolds_110 hl (by decide) rfl (fun ls hl => ?_)
  refine lv_goto (tgt := 92) B.1 B.2.1 dX11_endFolds_112 (by decide) ?_
  exact hK92 _ _ _ _ (g1.up xσ35) g5 (hYσ35.get ka36 (by decide)) h hGσ35 hYσ35 (hE.trans xσ35) (hth.up xσ35) _ _ _ hH (lv_sub (l' := [(0, .ref th), (1, va_rf v1), (5, .int (i32 v5)), (8, va_rf (gP σ35 a36 1))]) hl [1, 2, 3, 0] rfl) hc
set_option maxRecDepth 20000 in
theorem a_X11_endFolds_92 {Q : Sg → Unit → Prop} {X : Sg → String → Prop} {th : Nat} (K : MD l R p s m args c cX11_endFolds 9 RX11 D cA tys A n0 s0 3 73 []) (hQ : CQV p l e R s m args below meth c cX11_endFolds D cA A n0 s0 QM σi Q) (hX : CX p l e R s m args below meth c 9 D cA A n0 s0 QM σi X) (hTh : CT p l e R s m args below meth c cX11_endFolds 9 D cA A n0 s0 QM σi RX11 X) {K92 : Sg → Option Nat → Int → Option Nat → Prop} (hK92 : ∀ (σ : Sg) (v1 : Option Nat) (v5 : Int) (v8 : Option Nat) (g1 : tyV σ 5 v1) (g5 : rng v5) (g8 : tyV σ 0 v8), K92 σ v1 v5 v8 → RG σ → TY σ → Ext σi σ → kO σ th 11 → JJ p l e R s m args below meth c 9 D cA A n0 s0 QM σ 92 [(0, .ref th), (1, va_rf v1), (5, .int (i32 v5)), (8, va_rf v8)] []) : ∀ (σ : Sg) (v1 : Option Nat) (v5 : Int) (v8 : Option Nat) (g1 : tyV σ 5 v1) (g5 : rng v5) (g8 : tyV σ 0 v8), w_X11_endFolds_92 th K92 Q X σ v1 v5 v8 → RG σ → TY σ → Ext σi σ → kO σ th 11 → JJ p l e R s m args below meth c 9 D cA A n0 s0 QM σ 92 [(0, .ref th), (1, va_rf v1), (5, .int (i32 v5)), (8, va_rf v8)] [] := by
  intro σ v1 v5 v8 g1 g5 g8 h hGσ hYσ hE hth H locs ls hH hl hc
  have B := K.1
  have hl9 := K.2.2.2.2.2.2
  unfold w_X11_endFolds_92 at h
  refine lv_aloadQ B.1 B.2.1 dX11_endFolds_92 (lv_at hl 3 rfl) ?_
  refine lv_ifnullQ (tgt := 115) B.1 B.2.1 dX11_endFolds_94 (by decide) (fun h9 => ?_) (fun h9 => ?_)
  · rw [if_pos (h9)] at h
    exact a_X11_endFolds_115 K hQ hX hTh _ h hGσ hYσ hE hth _ _ _ hH (lv_sub (l' := [(0, .ref th)]) hl [0] rfl) hc
  · rw [if_neg (h9)] at h
    exact a_X11_endFolds_97 K hQ hX hTh hK92 _ _ _ _ g1 g5 g8 h hGσ hYσ hE hth _ _ _ hH (lv_sub (l' := [(0, .ref th), (1, va_rf v1), (5, .int (i32 v5)), (8, va_rf v8)]) hl [0, 1, 2, 3] rfl) hc
theorem al_X11_endFolds_92 {Q : Sg → Unit → Prop} {X : Sg → String → Prop} {th : Nat} (K : MD l R p s m args c cX11_endFolds 9 RX11 D cA tys A n0 s0 3 73 []) (hQ : CQV p l e R s m args below meth c cX11_endFolds D cA A n0 s0 QM σi Q) (hX : CX p l e R s m args below meth c 9 D cA A n0 s0 QM σi X) (hTh : CT p l e R s m args below meth c cX11_endFolds 9 D cA A n0 s0 QM σi RX11 X) : ∀ (n : Nat), ∀ (σ : Sg) (v1 : Option Nat) (v5 : Int) (v8 : Option Nat) (g1 : tyV σ 5 v1) (g5 : rng v5) (g8 : tyV σ 0 v8), wl_X11_endFolds_92 th Q X n σ v1 v5 v8 → RG σ → TY σ → Ext σi σ → kO σ th 11 → JJ p l e R s m args below meth c 9 D cA A n0 s0 QM σ 92 [(0, .ref th), (1, va_rf v1), (5, .int (i32 v5)), (8, va_rf v8)] [] := by
  intro n
  induction n with
  | zero => intro σ v1 v5 v8 g1 g5 g8 h; exact h.elim
  | succ n ih => exact fun σ v1 v5 v8 g1 g5 g8 h => a_X11_endFolds_92 K hQ hX hTh ih σ v1 v5 v8 g1 g5 g8 h
set_option maxRecDepth 20000 in
theorem a_X11_endFolds_83 {Q : Sg → Unit → Prop} {X : Sg → String → Prop} {th : Nat} (K : MD l R p s m args c cX11_endFolds 9 RX11 D cA tys A n0 s0 3 73 []) (hQ : CQV p l e R s m args below meth c cX11_endFolds D cA A n0 s0 QM σi Q) (hX : CX p l e R s m args below meth c 9 D cA A n0 s0 QM σi X) (hTh : CT p l e R s m args below meth c cX11_endFolds 9 D cA A n0 s0 QM σi RX11 X) : ∀ (σ : Sg) (v1 : Option Nat) (v5 : Int) (g1 : tyV σ 5 v1) (g5 : rng v5), w_X11_endFolds_83 th Q X σ v1 v5 → RG σ → TY σ → Ext σi σ → kO σ th 11 → JJ p l e R s m args below meth c 9 D cA A n0 s0 QM σ 83 [(0, .ref th), (1, va_rf v1), (5, .int (i32 v5))] [] := by
  intro σ v1 v5 g1 g5 h hGσ hYσ hE hth H locs ls hH hl hc
  have B := K.1
  have hl9 := K.2.2.2.2.2.2
  unfold w_X11_endFolds_83 at h
  refine lv_aload_n B.1 B.2.1 dX11_endFolds_83 rfl (lv_at hl 0 rfl) ?_
  refine f_getp B hH hth (by decide) rfl wu_X11 2 (by decide) wf_X11_12 rfl rfl dX11_endFolds_84 ?_
  obtain ⟨a37, ea37, h⟩ := h
  have ka37 : kO σ a37 1 := (hYσ.get hth (by decide)) a37 ea37
  have h := h ka37
  refine W.eq (g2 := F0 m 87 ls [.ref a37]) (by rw [ea37]; rfl) ?_
  refine f_getp B hH ka37 (by decide) rfl wu_X1 0 (by decide) wf_X11_225 rfl rfl dX11_endFolds_87 ?_
  refine lv_astoreQ (lv' := [(8, va_rf (gP σ a37 0)), (0, .ref th), (1, va_rf v1), (5, .int (i32 v5))]) B.1 B.2.1 dX11_endFolds_90 hl (by decide) rfl (fun ls hl => ?_)
  obtain ⟨n9, h⟩ := h
  exact al_X11_endFolds_92 K hQ hX hTh n9 _ _ _ _ g1 g5 (hYσ.get ka37 (by decide)) h hGσ hYσ hE hth _ _ _ hH (lv_sub (l' := [(0, .ref th), (1, va_rf v1), (5, .int (i32 v5)), (8, va_rf (gP σ a37 0))]) hl [1, 2, 3, 0] rfl) hc
set_option maxRecDepth 20000 in
theorem a_X11_endFolds_76 {Q : Sg → Unit → Prop} {X : Sg → String → Prop} {th : Nat} (K : MD l R p s m args c cX11_endFolds 9 RX11 D cA tys A n0 s0 3 73 []) (hQ : CQV p l e R s m args below meth c cX11_endFolds D cA A n0 s0 QM σi Q) (hX : CX p l e R s m args below meth c 9 D cA A n0 s0 QM σi X) (hTh : CT p l e R s m args below meth c cX11_endFolds 9 D cA A n0 s0 QM σi RX11 X) {K12 : Sg → Option Nat → Option Nat → Int64 → Int → Option Nat → Option Nat → Prop} (hK12 : ∀ (σ : Sg) (v1 : Option Nat) (v2 : Option Nat) (v3 : Int64) (v5 : Int) (v6 : Option Nat) (v7 : Option Nat) (g1 : tyV σ 5 v1) (g2 : tyV σ 10 v2) (g5 : rng v5) (g6 : tyV σ 0 v6) (g7 : tyV σ 0 v7), K12 σ v1 v2 v3 v5 v6 v7 → RG σ → TY σ → Ext σi σ → kO σ th 11 → JJ p l e R s m args below meth c 9 D cA A n0 s0 QM σ 12 [(0, .ref th), (1, va_rf v1), (2, va_rf v2), (3, .long v3), (5, .int (i32 v5)), (6, va_rf v6), (7, va_rf v7)] []) : ∀ (σ : Sg) (v1 : Option Nat) (v2 : Option Nat) (v3 : Int64) (v5 : Int) (v6 : Option Nat) (v8 : Option Nat) (g1 : tyV σ 5 v1) (g2 : tyV σ 10 v2) (g5 : rng v5) (g6 : tyV σ 0 v6) (g8 : tyV σ 0 v8), w_X11_endFolds_76 th K12 Q X σ v1 v2 v3 v5 v6 v8 → RG σ → TY σ → Ext σi σ → kO σ th 11 → JJ p l e R s m args below meth c 9 D cA A n0 s0 QM σ 76 [(0, .ref th), (1, va_rf v1), (2, va_rf v2), (3, .long v3), (5, .int (i32 v5)), (6, va_rf v6), (8, va_rf v8)] [] := by
  intro σ v1 v2 v3 v5 v6 v8 g1 g2 g5 g6 g8 h hGσ hYσ hE hth H locs ls hH hl hc
  have B := K.1
  have hl9 := K.2.2.2.2.2.2
  unfold w_X11_endFolds_76 at h
  refine lv_aloadQ B.1 B.2.1 dX11_endFolds_76 (lv_at hl 6 rfl) ?_
  refine lv_astoreQ (lv' := [(7, va_rf v8), (0, .ref th), (1, va_rf v1), (2, va_rf v2), (3, .long v3), (5, .int (i32 v5)), (6, va_rf v6), (8, va_rf v8)]) B.1 B.2.1 dX11_endFolds_78 hl (by decide) (by generalize v6 = w9; cases w9 <;> rfl) (fun ls hl => ?_)
  refine lv_goto (tgt := 12) B.1 B.2.1 dX11_endFolds_80 (by decide) ?_
  exact hK12 _ _ _ _ _ _ _ g1 g2 g5 g6 g8 h hGσ hYσ hE hth _ _ _ hH (lv_sub (l' := [(0, .ref th), (1, va_rf v1), (2, va_rf v2), (3, .long v3), (5, .int (i32 v5)), (6, va_rf v6), (7, va_rf v8)]) hl [1, 2, 3, 4, 5, 6, 0] rfl) hc
set_option maxRecDepth 20000 in
theorem a_X11_endFolds_72 {Q : Sg → Unit → Prop} {X : Sg → String → Prop} {th : Nat} (K : MD l R p s m args c cX11_endFolds 9 RX11 D cA tys A n0 s0 3 73 []) (hQ : CQV p l e R s m args below meth c cX11_endFolds D cA A n0 s0 QM σi Q) (hX : CX p l e R s m args below meth c 9 D cA A n0 s0 QM σi X) (hTh : CT p l e R s m args below meth c cX11_endFolds 9 D cA A n0 s0 QM σi RX11 X) {K12 : Sg → Option Nat → Option Nat → Int64 → Int → Option Nat → Option Nat → Prop} (hK12 : ∀ (σ : Sg) (v1 : Option Nat) (v2 : Option Nat) (v3 : Int64) (v5 : Int) (v6 : Option Nat) (v7 : Option Nat) (g1 : tyV σ 5 v1) (g2 : tyV σ 10 v2) (g5 : rng v5) (g6 : tyV σ 0 v6) (g7 : tyV σ 0 v7), K12 σ v1 v2 v3 v5 v6 v7 → RG σ → TY σ → Ext σi σ → kO σ th 11 → JJ p l e R s m args below meth c 9 D cA A n0 s0 QM σ 12 [(0, .ref th), (1, va_rf v1), (2, va_rf v2), (3, .long v3), (5, .int (i32 v5)), (6, va_rf v6), (7, va_rf v7)] []) : ∀ (σ : Sg) (v1 : Option Nat) (v2 : Option Nat) (v3 : Int64) (v5 : Int) (v7 : Option Nat) (v8 : Option Nat) (g1 : tyV σ 5 v1) (g2 : tyV σ 10 v2) (g5 : rng v5) (g7 : tyV σ 0 v7) (g8 : tyV σ 0 v8), w_X11_endFolds_72 th K12 Q X σ v1 v2 v3 v5 v7 v8 → RG σ → TY σ → Ext σi σ → kO σ th 11 → JJ p l e R s m args below meth c 9 D cA A n0 s0 QM σ 72 [(0, .ref th), (1, va_rf v1), (2, va_rf v2), (3, .long v3), (5, .int (i32 v5)), (7, va_rf v7), (8, va_rf v8)] [] := by
  intro σ v1 v2 v3 v5 v7 v8 g1 g2 g5 g7 g8 h hGσ hYσ hE hth H locs ls hH hl hc
  have B := K.1
  have hl9 := K.2.2.2.2.2.2
  unfold w_X11_endFolds_72 at h
  refine lv_aloadQ B.1 B.2.1 dX11_endFolds_72 (lv_at hl 5 rfl) ?_
  refine lv_astoreQ (lv' := [(6, va_rf v7), (0, .ref th), (1, va_rf v1), (2, va_rf v2), (3, .long v3), (5, .int (i32 v5)), (7, va_rf v7), (8, va_rf v8)]) B.1 B.2.1 dX11_endFolds_74 hl (by decide) rfl (fun ls hl => ?_)
  exact a_X11_endFolds_76 K hQ hX hTh hK12 _ _ _ _ _ _ _ g1 g2 g5 g7 g8 h hGσ hYσ hE hth _ _ _ hH (lv_sub (l' := [(0, .ref th), (1, va_rf v1), (2, va_rf v2), (3, .long v3), (5, .int (i32 v5)), (6, va_rf v7), (8, va_rf v8)]) hl [1, 2, 3, 4, 5, 0, 7] rfl) hc
set_option maxRecDepth 20000 in
theorem a_X11_endFolds_38 {Q : Sg → Unit → Prop} {X : Sg → String → Prop} {th : Nat} (K : MD l R p s m args c cX11_endFolds 9 RX11 D cA tys A n0 s0 3 73 []) (hQ : CQV p l e R s m args below meth c cX11_endFolds D cA A n0 s0 QM σi Q) (hX : CX p l e R s m args below meth c 9 D cA A n0 s0 QM σi X) (hTh : CT p l e R s m args below meth c cX11_endFolds 9 D cA A n0 s0 QM σi RX11 X) {K12 : Sg → Option Nat → Option Nat → Int64 → Int → Option Nat → Option Nat → Prop} (hK12 : ∀ (σ : Sg) (v1 : Option Nat) (v2 : Option Nat) (v3 : Int64) (v5 : Int) (v6 : Option Nat) (v7 : Option Nat) (g1 : tyV σ 5 v1) (g2 : tyV σ 10 v2) (g5 : rng v5) (g6 : tyV σ 0 v6) (g7 : tyV σ 0 v7), K12 σ v1 v2 v3 v5 v6 v7 → RG σ → TY σ → Ext σi σ → kO σ th 11 → JJ p l e R s m args below meth c 9 D cA A n0 s0 QM σ 12 [(0, .ref th), (1, va_rf v1), (2, va_rf v2), (3, .long v3), (5, .int (i32 v5)), (6, va_rf v6), (7, va_rf v7)] []) : ∀ (σ : Sg) (v1 : Option Nat) (v2 : Option Nat) (v3 : Int64) (v5 : Int) (v6 : Option Nat) (v7 : Option Nat) (v8 : Option Nat) (g1 : tyV σ 5 v1) (g2 : tyV σ 10 v2) (g5 : rng v5) (g6 : tyV σ 0 v6) (g7 : tyV σ 0 v7) (g8 : tyV σ 0 v8), w_X11_endFolds_38 th K12 Q X σ v1 v2 v3 v5 v6 v7 v8 → RG σ → TY σ → Ext σi σ → kO σ th 11 → JJ p l e R s m args below meth c 9 D cA A n0 s0 QM σ 38 [(0, .ref th), (1, va_rf v1), (2, va_rf v2), (3, .long v3), (5, .int (i32 v5)), (6, va_rf v6), (7, va_rf v7), (8, va_rf v8)] [] := by
  intro σ v1 v2 v3 v5 v6 v7 v8 g1 g2 g5 g6 g7 g8 h hGσ hYσ hE hth H locs ls hH hl hc
  have B := K.1
  have hl9 := K.2.2.2.2.2.2
  unfold w_X11_endFolds_38 at h
  refine lv_aload_nQ B.1 B.2.1 dX11_endFolds_38 rfl (lv_at hl 2 rfl) ?_
  obtain ⟨a38, ea38, h⟩ := h
  have ka38 : kO σ a38 10 := g2 a38 ea38
  have h := h ka38
  refine W.eq (g2 := F0 m 39 ls [.ref a38]) (by rw [ea38]; rfl) ?_
  refine f_getp B hH ka38 (by decide) rfl wu_X10 2 (by decide) wf_X11_105 rfl rfl dX11_endFolds_39 ?_
  refine lv_aloadQ B.1 B.2.1 dX11_endFolds_42 (lv_at hl 5 rfl) ?_
  obtain ⟨a41, ea41, h⟩ := h
  have ka41 : kO σ a41 1 := (hYσ.get ka38 (by decide)) a41 ea41
  have h := h ka41
  refine W.eq (g2 := F0 m 44 ls [va_rf v6, .ref a41]) (by rw [ea41]; rfl) ?_
  refine c_V B hH hl hc K.2.2.1 (C := RX1) (T := TX1) (N := 3) (ci := 1) (As := [va_rf v6]) (ok_X1_cutBehind hl9 K.2.1 σ a41 v6 g6 ka41 hGσ hYσ h) wc_X11_238 1 hd_X1_cutBehind ⟨Nat.le_trans (Nat.le_of_ble_eq_true rfl) K.2.2.2.1, Nat.le_trans (Nat.le_of_ble_eq_true rfl) K.2.2.2.2.1⟩ ka41.1 ka41.2 (by decide) rfl rfl (rest := []) rfl (Nat.le_of_ble_eq_true rfl) dX11_endFolds_44 (fun σ39 w hq => ?_) (fun σ9 E9 hx9 => hX σ9 E9 _ _ _ (tb_out K.2.2.2.2.2.1 rfl) hx9.1 hx9.2.1 hx9.2.2.1 (hE.trans hx9.2.2.2))
  obtain ⟨r40, rfl, tr40, h, hGσ39, hYσ39, xσ39⟩ := hq
  have h := h xσ39 tr40
  intro H locs ls hH hl hc
  refine W.eq (g2 := F0 m 47 ls [va_rf r40]) (rfl) ?_
  try dsimp only at h
  refine lv_pop B.1 B.2.1 dX11_endFolds_47 (rf_cat _) ?_
  refine lv_aload_n B.1 B.2.1 dX11_endFolds_48 rfl (lv_at hl 0 rfl) ?_
  refine lv_dup B.1 B.2.1 dX11_endFolds_49 rfl ?_
  refine f_geti B hH (hth.up xσ39) (by decide) rfl wu_X11 4 (by decide) wf_X11_165 rfl rfl dX11_endFolds_50 ?_
  refine lv_iconst (v := i32 1) B.1 B.2.1 dX11_endFolds_53 (by decide) ?_
  obtain ⟨q1, h⟩ := h
  refine lv_isub B.1 B.2.1 dX11_endFolds_54 ?_
  rw [i32_sub]
  obtain ⟨σ42, eσ42⟩ : ∃ z, z = pI σ39 th 4 (gI σ39 th 4 - 1) := ⟨_, rfl⟩
  have h := h σ42 eσ42
  refine f_puti B hH (hth.up xσ39) (by decide) rfl wu_X11 tyX11 tyX11_ok nmX11 4 (by decide) wf_X11_165 rfl (ty := .int) rfl rfl rfl rfl rfl dX11_endFolds_55 (fun H locs hH => ?_)
  have hH : Hd D cA A s (pI σ39 th 4 (gI σ39 th 4 - 1)) H locs := hH
  rw [← eσ42] at hH
  have hGσ42 : RG σ42 := by rw [eσ42]; exact hGσ39.pI q1
  have hYσ42 : TY σ42 := by rw [eσ42]; exact hYσ39.pI
  have xσ42 : Ext σ39 σ42 := by rw [eσ42]; exact Ext.pI
  have hc : CB n0 s0 σ42 := by rw [eσ42]; exact hc
  rw [show gc σ39 = gc σ42 by rw [eσ42]; try rfl, show gs σ39 = gs σ42 by rw [eσ42]; try rfl]
  refine lv_aload_n B.1 B.2.1 dX11_endFolds_58 rfl (lv_at hl 0 rfl) ?_
  refine f_getp B hH (hth.up (xσ39.trans xσ42)) (by decide) rfl wu_X11 2 (by decide) wf_X11_12 rfl rfl dX11_endFolds_59 ?_
  refine lv_aloadQ B.1 B.2.1 dX11_endFolds_62 (lv_at hl 6 rfl) ?_
  refine lv_iconst (v := i32 2) B.1 B.2.1 dX11_endFolds_64 (by decide) ?_
  refine lv_iconst (v := i32 0) B.1 B.2.1 dX11_endFolds_65 (by decide) ?_
  obtain ⟨a44, ea44, h⟩ := h
  have ka44 : kO σ42 a44 1 := (hYσ42.get (hth.up (xσ39.trans xσ42)) (by decide)) a44 ea44
  have h := h ka44
  refine W.eq (g2 := F0 m 66 ls [.int (i32 0), .int (i32 2), va_rf v7, .ref a44]) (by rw [ea44]; rfl) ?_
  refine c_V B hH hl hc K.2.2.1 (C := RX1) (T := TX1) (N := 3) (ci := 1) (As := [va_rf v7, .int (i32 2), .int (i32 0)]) (ok_X1_insert hl9 K.2.1 σ42 a44 v7 2 0 (g7.up (xσ39.trans xσ42)) (by unfold rng; omega) (by unfold rng; omega) ka44 hGσ42 hYσ42 h) wc_X11_161 3 hd_X1_insert ⟨Nat.le_trans (Nat.le_of_ble_eq_true rfl) K.2.2.2.1, Nat.le_trans (Nat.le_of_ble_eq_true rfl) K.2.2.2.2.1⟩ ka44.1 ka44.2 (by decide) rfl rfl (rest := []) rfl (Nat.le_of_ble_eq_true rfl) dX11_endFolds_66 (fun σ43 w hq => ?_) (fun σ9 E9 hx9 => hX σ9 E9 _ _ _ (tb_out K.2.2.2.2.2.1 rfl) hx9.1 hx9.2.1 hx9.2.2.1 (((hE.trans xσ39).trans xσ42).trans hx9.2.2.2))
  obtain ⟨rfl, h, hGσ43, hYσ43, xσ43⟩ := hq
  have h := h xσ43
  intro H locs ls hH hl hc
  refine W.eq (g2 := F0 m 69 ls []) (rfl) ?_
  try dsimp only at h
  refine lv_goto (tgt := 76) B.1 B.2.1 dX11_endFolds_69 (by decide) ?_
  exact a_X11_endFolds_76 K hQ hX hTh hK12 _ _ _ _ _ _ _ (g1.up (xσ39.trans (xσ42.trans xσ43))) (g2.up (xσ39.trans (xσ42.trans xσ43))) g5 (g6.up (xσ39.trans (xσ42.trans xσ43))) (g8.up (xσ39.trans (xσ42.trans xσ43))) h hGσ43 hYσ43 (((hE.trans xσ39).trans xσ42).trans xσ43) (hth.up (xσ39.trans (xσ42.trans xσ43))) _ _ _ hH (lv_sub (l' := [(0, .ref th), (1, va_rf v1), (2, va_rf v2), (3, .long v3), (5, .int (i32 v5)), (6, va_rf v6), (8, va_rf v8)]) hl [0, 1, 2, 3, 4, 5, 7] rfl) hc
set_option maxRecDepth 20000 in
theorem a_X11_endFolds_17 {Q : Sg → Unit → Prop} {X : Sg → String → Prop} {th : Nat} (K : MD l R p s m args c cX11_endFolds 9 RX11 D cA tys A n0 s0 3 73 []) (hQ : CQV p l e R s m args below meth c cX11_endFolds D cA A n0 s0 QM σi Q) (hX : CX p l e R s m args below meth c 9 D cA A n0 s0 QM σi X) (hTh : CT p l e R s m args below meth c cX11_endFolds 9 D cA A n0 s0 QM σi RX11 X) {K12 : Sg → Option Nat → Option Nat → Int64 → Int → Option Nat → Option Nat → Prop} (hK12 : ∀ (σ : Sg) (v1 : Option Nat) (v2 : Option Nat) (v3 : Int64) (v5 : Int) (v6 : Option Nat) (v7 : Option Nat) (g1 : tyV σ 5 v1) (g2 : tyV σ 10 v2) (g5 : rng v5) (g6 : tyV σ 0 v6) (g7 : tyV σ 0 v7), K12 σ v1 v2 v3 v5 v6 v7 → RG σ → TY σ → Ext σi σ → kO σ th 11 → JJ p l e R s m args below meth c 9 D cA A n0 s0 QM σ 12 [(0, .ref th), (1, va_rf v1), (2, va_rf v2), (3, .long v3), (5, .int (i32 v5)), (6, va_rf v6), (7, va_rf v7)] []) : ∀ (σ : Sg) (v1 : Option Nat) (v2 : Option Nat) (v3 : Int64) (v5 : Int) (v6 : Option Nat) (v7 : Option Nat) (g1 : tyV σ 5 v1) (g2 : tyV σ 10 v2) (g5 : rng v5) (g6 : tyV σ 0 v6) (g7 : tyV σ 0 v7), w_X11_endFolds_17 th K12 Q X σ v1 v2 v3 v5 v6 v7 → RG σ → TY σ → Ext σi σ → kO σ th 11 → JJ p l e R s m args below meth c 9 D cA A n0 s0 QM σ 17 [(0, .ref th), (1, va_rf v1), (2, va_rf v2), (3, .long v3), (5, .int (i32 v5)), (6, va_rf v6), (7, va_rf v7)] [] := by
  intro σ v1 v2 v3 v5 v6 v7 g1 g2 g5 g6 g7 h hGσ hYσ hE hth H locs ls hH hl hc
  have B := K.1
  have hl9 := K.2.2.2.2.2.2
  unfold w_X11_endFolds_17 at h
  refine lv_aloadQ B.1 B.2.1 dX11_endFolds_17 (lv_at hl 6 rfl) ?_
  obtain ⟨a45, ea45, h⟩ := h
  have ka45 : kO σ a45 0 := g7 a45 ea45
  have h := h ka45
  refine W.eq (g2 := F0 m 19 ls [.ref a45]) (by rw [ea45]; rfl) ?_
  refine f_getp B hH ka45 (by decide) rfl wu_X0 1 (by decide) wf_X11_235 rfl rfl dX11_endFolds_19 ?_
  refine lv_astoreQ (lv' := [(8, va_rf (gP σ a45 1)), (0, .ref th), (1, va_rf v1), (2, va_rf v2), (3, .long v3), (5, .int (i32 v5)), (6, va_rf v6), (7, va_rf v7)]) B.1 B.2.1 dX11_endFolds_22 hl (by decide) (by generalize v7 = w9; cases w9 <;> rfl) (fun ls hl => ?_)
  refine lv_aloadQ B.1 B.2.1 dX11_endFolds_24 (lv_at hl 7 rfl) ?_
  refine W.eq (g2 := F0 m 26 ls [.ref a45]) (by rw [ea45]; rfl) ?_
  refine f_getl B hH ka45 (by decide) rfl wu_X0 5 (by decide) wf_X11_85 rfl rfl dX11_endFolds_26 ?_
  refine lv_iload B.1 B.2.1 dX11_endFolds_29 (lv_at hl 5 rfl) ?_
  refine lv_i2l B.1 B.2.1 dX11_endFolds_31 (i32_i64 g5) ?_
  refine lv_ladd B.1 B.2.1 dX11_endFolds_32 ?_
  refine lv_lload_n B.1 B.2.1 dX11_endFolds_33 rfl (lv_at hl 4 rfl) ?_
  refine W.lcmp B.1 B.2.1 dX11_endFolds_34 ?_
  refine lv_if_gt (tgt := 72) B.1 B.2.1 dX11_endFolds_35 (by decide) (fun h9 => ?_) (fun h9 => ?_)
  · rw [if_pos ((lg_cmp_gt _ _).mp h9)] at h
    exact a_X11_endFolds_72 K hQ hX hTh hK12 _ _ _ _ _ _ _ g1 g2 g5 g7 (hYσ.get ka45 (by decide)) h hGσ hYσ hE hth _ _ _ hH (lv_sub (l' := [(0, .ref th), (1, va_rf v1), (2, va_rf v2), (3, .long v3), (5, .int (i32 v5)), (7, va_rf v7), (8, va_rf (gP σ a45 1))]) hl [1, 2, 3, 4, 5, 7, 0] rfl) hc
  · rw [if_neg (fun q => h9 ((lg_cmp_gt _ _).mpr q))] at h
    exact a_X11_endFolds_38 K hQ hX hTh hK12 _ _ _ _ _ _ _ _ g1 g2 g5 g6 g7 (hYσ.get ka45 (by decide)) h hGσ hYσ hE hth _ _ _ hH (lv_sub (l' := [(0, .ref th), (1, va_rf v1), (2, va_rf v2), (3, .long v3), (5, .int (i32 v5)), (6, va_rf v6), (7, va_rf v7), (8, va_rf (gP σ a45 1))]) hl [1, 2, 3, 4, 5, 6, 7, 0] rfl) hc
set_option maxRecDepth 20000 in
theorem a_X11_endFolds_12 {Q : Sg → Unit → Prop} {X : Sg → String → Prop} {th : Nat} (K : MD l R p s m args c cX11_endFolds 9 RX11 D cA tys A n0 s0 3 73 []) (hQ : CQV p l e R s m args below meth c cX11_endFolds D cA A n0 s0 QM σi Q) (hX : CX p l e R s m args below meth c 9 D cA A n0 s0 QM σi X) (hTh : CT p l e R s m args below meth c cX11_endFolds 9 D cA A n0 s0 QM σi RX11 X) {K12 : Sg → Option Nat → Option Nat → Int64 → Int → Option Nat → Option Nat → Prop} (hK12 : ∀ (σ : Sg) (v1 : Option Nat) (v2 : Option Nat) (v3 : Int64) (v5 : Int) (v6 : Option Nat) (v7 : Option Nat) (g1 : tyV σ 5 v1) (g2 : tyV σ 10 v2) (g5 : rng v5) (g6 : tyV σ 0 v6) (g7 : tyV σ 0 v7), K12 σ v1 v2 v3 v5 v6 v7 → RG σ → TY σ → Ext σi σ → kO σ th 11 → JJ p l e R s m args below meth c 9 D cA A n0 s0 QM σ 12 [(0, .ref th), (1, va_rf v1), (2, va_rf v2), (3, .long v3), (5, .int (i32 v5)), (6, va_rf v6), (7, va_rf v7)] []) : ∀ (σ : Sg) (v1 : Option Nat) (v2 : Option Nat) (v3 : Int64) (v5 : Int) (v6 : Option Nat) (v7 : Option Nat) (g1 : tyV σ 5 v1) (g2 : tyV σ 10 v2) (g5 : rng v5) (g6 : tyV σ 0 v6) (g7 : tyV σ 0 v7), w_X11_endFolds_12 th K12 Q X σ v1 v2 v3 v5 v6 v7 → RG σ → TY σ → Ext σi σ → kO σ th 11 → JJ p l e R s m args below meth c 9 D cA A n0 s0 QM σ 12 [(0, .ref th), (1, va_rf v1), (2, va_rf v2), (3, .long v3), (5, .int (i32 v5)), (6, va_rf v6), (7, va_rf v7)] [] := by
  intro σ v1 v2 v3 v5 v6 v7 g1 g2 g5 g6 g7 h hGσ hYσ hE hth H locs ls hH hl hc
  have B := K.1
  have hl9 := K.2.2.2.2.2.2
  unfold w_X11_endFolds_12 at h
  refine lv_aloadQ B.1 B.2.1 dX11_endFolds_12 (lv_at hl 6 rfl) ?_
  refine lv_ifnullQ (tgt := 83) B.1 B.2.1 dX11_endFolds_14 (by decide) (fun h9 => ?_) (fun h9 => ?_)
  · rw [if_pos (h9)] at h
    exact a_X11_endFolds_83 K hQ hX hTh _ _ _ g1 g5 h hGσ hYσ hE hth _ _ _ hH (lv_sub (l' := [(0, .ref th), (1, va_rf v1), (5, .int (i32 v5))]) hl [0, 1, 4] rfl) hc
  · rw [if_neg (h9)] at h
    exact a_X11_endFolds_17 K hQ hX hTh hK12 _ _ _ _ _ _ _ g1 g2 g5 g6 g7 h hGσ hYσ hE hth _ _ _ hH (lv_sub (l' := [(0, .ref th), (1, va_rf v1), (2, va_rf v2), (3, .long v3), (5, .int (i32 v5)), (6, va_rf v6), (7, va_rf v7)]) hl [0, 1, 2, 3, 4, 5, 6] rfl) hc
theorem al_X11_endFolds_12 {Q : Sg → Unit → Prop} {X : Sg → String → Prop} {th : Nat} (K : MD l R p s m args c cX11_endFolds 9 RX11 D cA tys A n0 s0 3 73 []) (hQ : CQV p l e R s m args below meth c cX11_endFolds D cA A n0 s0 QM σi Q) (hX : CX p l e R s m args below meth c 9 D cA A n0 s0 QM σi X) (hTh : CT p l e R s m args below meth c cX11_endFolds 9 D cA A n0 s0 QM σi RX11 X) : ∀ (n : Nat), ∀ (σ : Sg) (v1 : Option Nat) (v2 : Option Nat) (v3 : Int64) (v5 : Int) (v6 : Option Nat) (v7 : Option Nat) (g1 : tyV σ 5 v1) (g2 : tyV σ 10 v2) (g5 : rng v5) (g6 : tyV σ 0 v6) (g7 : tyV σ 0 v7), wl_X11_endFolds_12 th Q X n σ v1 v2 v3 v5 v6 v7 → RG σ → TY σ → Ext σi σ → kO σ th 11 → JJ p l e R s m args below meth c 9 D cA A n0 s0 QM σ 12 [(0, .ref th), (1, va_rf v1), (2, va_rf v2), (3, .long v3), (5, .int (i32 v5)), (6, va_rf v6), (7, va_rf v7)] [] := by
  intro n
  induction n with
  | zero => intro σ v1 v2 v3 v5 v6 v7 g1 g2 g5 g6 g7 h; exact h.elim
  | succ n ih => exact fun σ v1 v2 v3 v5 v6 v7 g1 g2 g5 g6 g7 h => a_X11_endFolds_12 K hQ hX hTh ih σ v1 v2 v3 v5 v6 v7 g1 g2 g5 g6 g7 h
set_option maxRecDepth 20000 in
theorem a_X11_endFolds_0 {Q : Sg → Unit → Prop} {X : Sg → String → Prop} {th : Nat} (K : MD l R p s m args c cX11_endFolds 9 RX11 D cA tys A n0 s0 3 73 []) (hQ : CQV p l e R s m args below meth c cX11_endFolds D cA A n0 s0 QM σi Q) (hX : CX p l e R s m args below meth c 9 D cA A n0 s0 QM σi X) (hTh : CT p l e R s m args below meth c cX11_endFolds 9 D cA A n0 s0 QM σi RX11 X) : ∀ (σ : Sg) (v1 : Option Nat) (v2 : Option Nat) (v3 : Int64) (v5 : Int) (g1 : tyV σ 5 v1) (g2 : tyV σ 10 v2) (g5 : rng v5), w_X11_endFolds_0 th Q X σ v1 v2 v3 v5 → RG σ → TY σ → Ext σi σ → kO σ th 11 → JJ p l e R s m args below meth c 9 D cA A n0 s0 QM σ 0 [(0, .ref th), (1, va_rf v1), (2, va_rf v2), (3, .long v3), (5, .int (i32 v5))] [] := by
  intro σ v1 v2 v3 v5 g1 g2 g5 h hGσ hYσ hE hth H locs ls hH hl hc
  have B := K.1
  have hl9 := K.2.2.2.2.2.2
  unfold w_X11_endFolds_0 at h
  refine lv_null B.1 B.2.1 dX11_endFolds_0 ?_
  refine W.eq (g2 := F0 m 1 ls [va_rf none]) (rfl) ?_
  refine lv_astoreQ (lv' := [(6, va_rf none), (0, .ref th), (1, va_rf v1), (2, va_rf v2), (3, .long v3), (5, .int (i32 v5))]) B.1 B.2.1 dX11_endFolds_1 hl (by decide) rfl (fun ls hl => ?_)
  refine lv_aload_nQ B.1 B.2.1 dX11_endFolds_3 rfl (lv_at hl 3 rfl) ?_
  obtain ⟨a46, ea46, h⟩ := h
  have ka46 : kO σ a46 10 := g2 a46 ea46
  have h := h ka46
  refine W.eq (g2 := F0 m 4 ls [.ref a46]) (by rw [ea46]; rfl) ?_
  refine f_getp B hH ka46 (by decide) rfl wu_X10 2 (by decide) wf_X11_105 rfl rfl dX11_endFolds_4 ?_
  obtain ⟨a47, ea47, h⟩ := h
  have ka47 : kO σ a47 1 := (hYσ.get ka46 (by decide)) a47 ea47
  have h := h ka47
  refine W.eq (g2 := F0 m 7 ls [.ref a47]) (by rw [ea47]; rfl) ?_
  refine f_getp B hH ka47 (by decide) rfl wu_X1 0 (by decide) wf_X11_225 rfl rfl dX11_endFolds_7 ?_
  refine lv_astoreQ (lv' := [(7, va_rf (gP σ a47 0)), (6, va_rf none), (0, .ref th), (1, va_rf v1), (2, va_rf v2), (3, .long v3), (5, .int (i32 v5))]) B.1 B.2.1 dX11_endFolds_10 hl (by decide) rfl (fun ls hl => ?_)
  obtain ⟨n9, h⟩ := h
  exact al_X11_endFolds_12 K hQ hX hTh n9 _ _ _ _ _ _ _ g1 g2 g5 (tyn _ _) (hYσ.get ka47 (by decide)) h hGσ hYσ hE hth _ _ _ hH (lv_sub (l' := [(0, .ref th), (1, va_rf v1), (2, va_rf v2), (3, .long v3), (5, .int (i32 v5)), (6, va_rf none), (7, va_rf (gP σ a47 0))]) hl [2, 3, 4, 5, 6, 1, 0] rfl) hc
theorem ok_X11_endFolds (hl0 : l.stackTraces = false) (hT : TyC cA tys) {Q : Sg → Unit → Prop} {X : Sg → String → Prop} (σ : Sg) (th : Nat) (v1 : Option Nat) (v2 : Option Nat) (v3 : Int64) (v5 : Int) (g1 : tyV σ 5 v1) (g2 : tyV σ 10 v2) (g5 : rng v5) (hth : kO σ th 11) (hG : RG σ) (hY : TY σ) (h : wp_X11_endFolds th v1 v2 v3 v5 σ Q X) : Ok l D cA tys A yX11_endFolds (.code yX11_endFolds cX11_endFolds 9 none) 3 73 [.ref th, va_rf v1, va_rf v2, .long v3, .int (i32 v5)] σ (QcV σ Q) (QxC σ X) := by
  unfold wp_X11_endFolds at h
  exact oc_V hl0 (by decide) (by cases v1 <;> cases v2 <;> exact Nat.le_of_ble_eq_true rfl) hT (fun p e R s m args below meth c K hQ hX hTh hin9 H locs ls hH hl hc => a_X11_endFolds_0 K hQ hX hTh σ v1 v2 v3 v5 g1 g2 g5 h hG hY (Ext.rfl' σ) hth H locs ls hH (lv_sub (l' := [(0, .ref th), (1, va_rf v1), (2, va_rf v2), (3, .long v3), (5, .int (i32 v5))]) hl [0, 1, 2, 3, 4] (by cases v1 <;> cases v2 <;> rfl)) hc)
theorem dX11_isOutdone_0 : decode cX11_isOutdone 0 = .ok (.iconst 0, 1) := by decide +kernel
theorem dX11_isOutdone_1 : decode cX11_isOutdone 1 = .ok (.istore 5, 2) := by decide +kernel
theorem dX11_isOutdone_3 : decode cX11_isOutdone 3 = .ok (.aload_n 0, 1) := by decide +kernel
theorem dX11_isOutdone_4 : decode cX11_isOutdone 4 = .ok (.getfield 225, 3) := by decide +kernel
theorem dX11_isOutdone_7 : decode cX11_isOutdone 7 = .ok (.astore 6, 2) := by decide +kernel
theorem dX11_isOutdone_9 : decode cX11_isOutdone 9 = .ok (.aload 6, 2) := by decide +kernel
theorem dX11_isOutdone_11 : decode cX11_isOutdone 11 = .ok (.ifnull 76, 3) := by decide +kernel
theorem dX11_isOutdone_14 : decode cX11_isOutdone 14 = .ok (.aload 6, 2) := by decide +kernel
theorem dX11_isOutdone_16 : decode cX11_isOutdone 16 = .ok (.getfield 85, 3) := by decide +kernel
theorem dX11_isOutdone_19 : decode cX11_isOutdone 19 = .ok (.lload_n 2, 1) := by decide +kernel
theorem dX11_isOutdone_20 : decode cX11_isOutdone 20 = .ok (.lcmp, 1) := by decide +kernel
theorem dX11_isOutdone_21 : decode cX11_isOutdone 21 = .ok (.ifCond .gt 66, 3) := by decide +kernel
theorem dX11_isOutdone_24 : decode cX11_isOutdone 24 = .ok (.aload 6, 2) := by decide +kernel
theorem dX11_isOutdone_26 : decode cX11_isOutdone 26 = .ok (.aload_n 1, 1) := by decide +kernel
theorem dX11_isOutdone_27 : decode cX11_isOutdone 27 = .ok (.if_acmp .ne 9, 3) := by decide +kernel
theorem dX11_isOutdone_30 : decode cX11_isOutdone 30 = .ok (.iconst 1, 1) := by decide +kernel
theorem dX11_isOutdone_31 : decode cX11_isOutdone 31 = .ok (.istore 5, 2) := by decide +kernel
theorem dX11_isOutdone_33 : decode cX11_isOutdone 33 = .ok (.goto 44, 3) := by decide +kernel
theorem dX11_isOutdone_36 : decode cX11_isOutdone 36 = .ok (.aload 6, 2) := by decide +kernel
theorem dX11_isOutdone_38 : decode cX11_isOutdone 38 = .ok (.getfield 72, 3) := by decide +kernel
theorem dX11_isOutdone_41 : decode cX11_isOutdone 41 = .ok (.aload_n 1, 1) := by decide +kernel
theorem dX11_isOutdone_42 : decode cX11_isOutdone 42 = .ok (.getfield 72, 3) := by decide +kernel
theorem dX11_isOutdone_45 : decode cX11_isOutdone 45 = .ok (.lcmp, 1) := by decide +kernel
theorem dX11_isOutdone_46 : decode cX11_isOutdone 46 = .ok (.ifCond .ne 31, 3) := by decide +kernel
theorem dX11_isOutdone_49 : decode cX11_isOutdone 49 = .ok (.aload 6, 2) := by decide +kernel
theorem dX11_isOutdone_51 : decode cX11_isOutdone 51 = .ok (.aload_n 1, 1) := by decide +kernel
theorem dX11_isOutdone_52 : decode cX11_isOutdone 52 = .ok (.iconst 1, 1) := by decide +kernel
theorem dX11_isOutdone_53 : decode cX11_isOutdone 53 = .ok (.iload 4, 2) := by decide +kernel
theorem dX11_isOutdone_55 : decode cX11_isOutdone 55 = .ok (.invokestatic 264, 3) := by decide +kernel
theorem dX11_isOutdone_58 : decode cX11_isOutdone 58 = .ok (.istore 7, 2) := by decide +kernel
theorem dX11_isOutdone_60 : decode cX11_isOutdone 60 = .ok (.iload 7, 2) := by decide +kernel
theorem dX11_isOutdone_62 : decode cX11_isOutdone 62 = .ok (.ifCond .gt 13, 3) := by decide +kernel
theorem dX11_isOutdone_65 : decode cX11_isOutdone 65 = .ok (.iload 7, 2) := by decide +kernel
theorem dX11_isOutdone_67 : decode cX11_isOutdone 67 = .ok (.ifCond .ne 10, 3) := by decide +kernel
theorem dX11_isOutdone_70 : decode cX11_isOutdone 70 = .ok (.iload 5, 2) := by decide +kernel
theorem dX11_isOutdone_72 : decode cX11_isOutdone 72 = .ok (.ifCond .ne 5, 3) := by decide +kernel
theorem dX11_isOutdone_75 : decode cX11_isOutdone 75 = .ok (.iconst 1, 1) := by decide +kernel
theorem dX11_isOutdone_76 : decode cX11_isOutdone 76 = .ok (.ireturn, 1) := by decide +kernel
theorem dX11_isOutdone_77 : decode cX11_isOutdone 77 = .ok (.aload 6, 2) := by decide +kernel
theorem dX11_isOutdone_79 : decode cX11_isOutdone 79 = .ok (.getfield 235, 3) := by decide +kernel
theorem dX11_isOutdone_82 : decode cX11_isOutdone 82 = .ok (.astore 6, 2) := by decide +kernel
theorem dX11_isOutdone_84 : decode cX11_isOutdone 84 = .ok (.goto (-75), 3) := by decide +kernel
theorem dX11_isOutdone_87 : decode cX11_isOutdone 87 = .ok (.iconst 0, 1) := by decide +kernel
theorem dX11_isOutdone_88 : decode cX11_isOutdone 88 = .ok (.ireturn, 1) := by decide +kernel
set_option maxRecDepth 20000 in
theorem a_X11_isOutdone_87 {Q : Sg → Int → Prop} {X : Sg → String → Prop} (K : MD l R p s m args c cX11_isOutdone 8 RX11 D cA tys A n0 s0 2 48 []) (hQ : CQZ p l e R s m args below meth c cX11_isOutdone D cA A n0 s0 QM σi Q) (hX : CX p l e R s m args below meth c 8 D cA A n0 s0 QM σi X) (hTh : CT p l e R s m args below meth c cX11_isOutdone 8 D cA A n0 s0 QM σi RX11 X) : ∀ (σ : Sg), w_X11_isOutdone_87 Q X σ → RG σ → TY σ → Ext σi σ → JJ p l e R s m args below meth c 8 D cA A n0 s0 QM σ 87 [] [] := by
  intro σ h hGσ hYσ hE H locs ls hH hl hc
  have B := K.1
  have hl9 := K.2.2.2.2.2.2
  unfold w_X11_isOutdone_87 at h
  refine lv_iconst (v := i32 0) B.1 B.2.1 dX11_isOutdone_87 (by decide) ?_
  exact hQ _ _ _ _ _ _ (by unfold rng; omega) (Or.inl rfl) dX11_isOutdone_88 hH hc h hGσ hYσ hE
set_option maxRecDepth 20000 in
theorem a_X11_isOutdone_77 {Q : Sg → Int → Prop} {X : Sg → String → Prop} (K : MD l R p s m args c cX11_isOutdone 8 RX11 D cA tys A n0 s0 2 48 []) (hQ : CQZ p l e R s m args below meth c cX11_isOutdone D cA A n0 s0 QM σi Q) (hX : CX p l e R s m args below meth c 8 D cA A n0 s0 QM σi X) (hTh : CT p l e R s m args below meth c cX11_isOutdone 8 D cA A n0 s0 QM σi RX11 X) {K9 : Sg → Option Nat → Int64 → Int → Int → Option Nat → Prop} (hK9 : ∀ (σ : Sg) (v1 : Option Nat) (v2 : Int64) (v4 : Int) (v5 : Int) (v6 : Option Nat) (g1 : tyV σ 0 v1) (g4 : rng v4) (g5 : rng v5) (g6 : tyV σ 0 v6), K9 σ v1 v2 v4 v5 v6 → RG σ → TY σ → Ext σi σ → JJ p l e R s m args below meth c 8 D cA A n0 s0 QM σ 9 [(1, va_rf v1), (2, .long v2), (4, .int (i32 v4)), (5, .int (i32 v5)), (6, va_rf v6)] []) : ∀ (σ : Sg) (v1 : Option Nat) (v2 : Int64) (v4 : Int) (v5 : Int) (v6 : Option Nat) (g1 : tyV σ 0 v1) (g4 : rng v4) (g5 : rng v5) (g6 : tyV σ 0 v6), w_X11_isOutdone_77 K9 Q X σ v1 v2 v4 v5 v6 → RG σ → TY σ → Ext σi σ → JJ p l e R s m args below meth c 8 D cA A n0 s0 QM σ 77 [(1, va_rf v1), (2, .long v2), (4, .int (i32 v4)), (5, .int (i32 v5)), (6, va_rf v6)] [] := by
  intro σ v1 v2 v4 v5 v6 g1 g4 g5 g6 h hGσ hYσ hE H locs ls hH hl hc
  have B := K.1
  have hl9 := K.2.2.2.2.2.2
  unfold w_X11_isOutdone_77 at h
  refine lv_aloadQ B.1 B.2.1 dX11_isOutdone_77 (lv_at hl 4 rfl) ?_
  obtain ⟨a15, ea15, h⟩ := h
  have ka15 : kO σ a15 0 := g6 a15 ea15
  have h := h ka15
  refine W.eq (g2 := F0 m 79 ls [.ref a15]) (by rw [ea15]; rfl) ?_
  refine f_getp B hH ka15 (by decide) rfl wu_X0 1 (by decide) wf_X11_235 rfl rfl dX11_isOutdone_79 ?_
  refine lv_astoreQ (lv' := [(6, va_rf (gP σ a15 1)), (1, va_rf v1), (2, .long v2), (4, .int (i32 v4)), (5, .int (i32 v5))]) B.1 B.2.1 dX11_isOutdone_82 hl (by decide) rfl (fun ls hl => ?_)
  refine lv_goto (tgt := 9) B.1 B.2.1 dX11_isOutdone_84 (by decide) ?_
  exact hK9 _ _ _ _ _ _ g1 g4 g5 (hYσ.get ka15 (by decide)) h hGσ hYσ hE _ _ _ hH (lv_sub (l' := [(1, va_rf v1), (2, .long v2), (4, .int (i32 v4)), (5, .int (i32 v5)), (6, va_rf (gP σ a15 1))]) hl [1, 2, 3, 4, 0] rfl) hc
set_option maxRecDepth 20000 in
theorem a_X11_isOutdone_75 {Q : Sg → Int → Prop} {X : Sg → String → Prop} (K : MD l R p s m args c cX11_isOutdone 8 RX11 D cA tys A n0 s0 2 48 []) (hQ : CQZ p l e R s m args below meth c cX11_isOutdone D cA A n0 s0 QM σi Q) (hX : CX p l e R s m args below meth c 8 D cA A n0 s0 QM σi X) (hTh : CT p l e R s m args below meth c cX11_isOutdone 8 D cA A n0 s0 QM σi RX11 X) : ∀ (σ : Sg), w_X11_isOutdone_75 Q X σ → RG σ → TY σ → Ext σi σ → JJ p l e R s m args below meth c 8 D cA A n0 s0 QM σ 75 [] [] := by
  intro σ h hGσ hYσ hE H locs ls hH hl hc
  have B := K.1
  have hl9 := K.2.2.2.2.2.2
  unfold w_X11_isOutdone_75 at h
  refine lv_iconst (v := i32 1) B.1 B.2.1 dX11_isOutdone_75 (by decide) ?_
  exact hQ _ _ _ _ _ _ (by unfold rng; omega) (Or.inr rfl) dX11_isOutdone_76 hH hc h hGσ hYσ hE
set_option maxRecDepth 20000 in
theorem a_X11_isOutdone_70 {Q : Sg → Int → Prop} {X : Sg → String → Prop} (K : MD l R p s m args c cX11_isOutdone 8 RX11 D cA tys A n0 s0 2 48 []) (hQ : CQZ p l e R s m args below meth c cX11_isOutdone D cA A n0 s0 QM σi Q) (hX : CX p l e R s m args below meth c 8 D cA A n0 s0 QM σi X) (hTh : CT p l e R s m args below meth c cX11_isOutdone 8 D cA A n0 s0 QM σi RX11 X) {K9 : Sg → Option Nat → Int64 → Int → Int → Option Nat → Prop} (hK9 : ∀ (σ : Sg) (v1 : Option Nat) (v2 : Int64) (v4 : Int) (v5 : Int) (v6 : Option Nat) (g1 : tyV σ 0 v1) (g4 : rng v4) (g5 : rng v5) (g6 : tyV σ 0 v6), K9 σ v1 v2 v4 v5 v6 → RG σ → TY σ → Ext σi σ → JJ p l e R s m args below meth c 8 D cA A n0 s0 QM σ 9 [(1, va_rf v1), (2, .long v2), (4, .int (i32 v4)), (5, .int (i32 v5)), (6, va_rf v6)] []) : ∀ (σ : Sg) (v1 : Option Nat) (v2 : Int64) (v4 : Int) (v5 : Int) (v6 : Option Nat) (g1 : tyV σ 0 v1) (g4 : rng v4) (g5 : rng v5) (g6 : tyV σ 0 v6), w_X11_isOutdone_70 K9 Q X σ v1 v2 v4 v5 v6 → RG σ → TY σ → Ext σi σ → JJ p l e R s m args below meth c 8 D cA A n0 s0 QM σ 70 [(1, va_rf v1), (2, .long v2), (4, .int (i32 v4)), (5, .int (i32 v5)), (6, va_rf v6)] [] := by
  intro σ v1 v2 v4 v5 v6 g1 g4 g5 g6 h hGσ hYσ hE H locs ls hH hl hc
  have B := K.1
  have hl9 := K.2.2.2.2.2.2
  unfold w_X11_isOutdone_70 at h
  refine lv_iload B.1 B.2.1 dX11_isOutdone_70 (lv_at hl 3 rfl) ?_
  refine lv_if_ne (tgt := 77) B.1 B.2.1 dX11_isOutdone_72 (by decide) (fun h9 => ?_) (fun h9 => ?_)
  · rw [if_pos (fun q => h9 ((z_eq g5).mpr q))] at h
    exact a_X11_isOutdone_77 K hQ hX hTh hK9 _ _ _ _ _ _ g1 g4 g5 g6 h hGσ hYσ hE _ _ _ hH (lv_sub (l' := [(1, va_rf v1), (2, .long v2), (4, .int (i32 v4)), (5, .int (i32 v5)), (6, va_rf v6)]) hl [0, 1, 2, 3, 4] rfl) hc
  · rw [if_neg (fun q => q ((z_eq g5).mp h9))] at h
    exact a_X11_isOutdone_75 K hQ hX hTh _ h hGσ hYσ hE _ _ _ hH (lv_sub (l' := []) hl [] rfl) hc
set_option maxRecDepth 20000 in
theorem a_X11_isOutdone_65 {Q : Sg → Int → Prop} {X : Sg → String → Prop} (K : MD l R p s m args c cX11_isOutdone 8 RX11 D cA tys A n0 s0 2 48 []) (hQ : CQZ p l e R s m args below meth c cX11_isOutdone D cA A n0 s0 QM σi Q) (hX : CX p l e R s m args below meth c 8 D cA A n0 s0 QM σi X) (hTh : CT p l e R s m args below meth c cX11_isOutdone 8 D cA A n0 s0 QM σi RX11 X) {K9 : Sg → Option Nat → Int64 → Int → Int → Option Nat → Prop} (hK9 : ∀ (σ : Sg) (v1 : Option Nat) (v2 : Int64) (v4 : Int) (v5 : Int) (v6 : Option Nat) (g1 : tyV σ 0 v1) (g4 : rng v4) (g5 : rng v5) (g6 : tyV σ 0 v6), K9 σ v1 v2 v4 v5 v6 → RG σ → TY σ → Ext σi σ → JJ p l e R s m args below meth c 8 D cA A n0 s0 QM σ 9 [(1, va_rf v1), (2, .long v2), (4, .int (i32 v4)), (5, .int (i32 v5)), (6, va_rf v6)] []) : ∀ (σ : Sg) (v1 : Option Nat) (v2 : Int64) (v4 : Int) (v5 : Int) (v6 : Option Nat) (v7 : Int) (g1 : tyV σ 0 v1) (g4 : rng v4) (g5 : rng v5) (g6 : tyV σ 0 v6) (g7 : rng v7), w_X11_isOutdone_65 K9 Q X σ v1 v2 v4 v5 v6 v7 → RG σ → TY σ → Ext σi σ → JJ p l e R s m args below meth c 8 D cA A n0 s0 QM σ 65 [(1, va_rf v1), (2, .long v2), (4, .int (i32 v4)), (5, .int (i32 v5)), (6, va_rf v6), (7, .int (i32 v7))] [] := by
  intro σ v1 v2 v4 v5 v6 v7 g1 g4 g5 g6 g7 h hGσ hYσ hE H locs ls hH hl hc
  have B := K.1
  have hl9 := K.2.2.2.2.2.2
  unfold w_X11_isOutdone_65 at h
  refine lv_iload B.1 B.2.1 dX11_isOutdone_65 (lv_at hl 5 rfl) ?_
  refine lv_if_ne (tgt := 77) B.1 B.2.1 dX11_isOutdone_67 (by decide) (fun h9 => ?_) (fun h9 => ?_)
  · rw [if_pos (fun q => h9 ((z_eq g7).mpr q))] at h
    exact a_X11_isOutdone_77 K hQ hX hTh hK9 _ _ _ _ _ _ g1 g4 g5 g6 h hGσ hYσ hE _ _ _ hH (lv_sub (l' := [(1, va_rf v1), (2, .long v2), (4, .int (i32 v4)), (5, .int (i32 v5)), (6, va_rf v6)]) hl [0, 1, 2, 3, 4] rfl) hc
  · rw [if_neg (fun q => q ((z_eq g7).mp h9))] at h
    exact a_X11_isOutdone_70 K hQ hX hTh hK9 _ _ _ _ _ _ g1 g4 g5 g6 h hGσ hYσ hE _ _ _ hH (lv_sub (l' := [(1, va_rf v1), (2, .long v2), (4, .int (i32 v4)), (5, .int (i32 v5)), (6, va_rf v6)]) hl [0, 1, 2, 3, 4] rfl) hc
set_option maxRecDepth 20000 in
theorem a_X11_isOutdone_49 {Q : Sg → Int → Prop} {X : Sg → String → Prop} (K : MD l R p s m args c cX11_isOutdone 8 RX11 D cA tys A n0 s0 2 48 []) (hQ : CQZ p l e R s m args below meth c cX11_isOutdone D cA A n0 s0 QM σi Q) (hX : CX p l e R s m args below meth c 8 D cA A n0 s0 QM σi X) (hTh : CT p l e R s m args below meth c cX11_isOutdone 8 D cA A n0 s0 QM σi RX11 X) {K9 : Sg → Option Nat → Int64 → Int → Int → Option Nat → Prop} (hK9 : ∀ (σ : Sg) (v1 : Option Nat) (v2 : Int64) (v4 : Int) (v5 : Int) (v6 : Option Nat) (g1 : tyV σ 0 v1) (g4 : rng v4) (g5 : rng v5) (g6 : tyV σ 0 v6), K9 σ v1 v2 v4 v5 v6 → RG σ → TY σ → Ext σi σ → JJ p l e R s m args below meth c 8 D cA A n0 s0 QM σ 9 [(1, va_rf v1), (2, .long v2), (4, .int (i32 v4)), (5, .int (i32 v5)), (6, va_rf v6)] []) : ∀ (σ : Sg) (v1 : Option Nat) (v2 : Int64) (v4 : Int) (v5 : Int) (v6 : Option Nat) (g1 : tyV σ 0 v1) (g4 : rng v4) (g5 : rng v5) (g6 : tyV σ 0 v6), w_X11_isOutdone_49 K9 Q X σ v1 v2 v4 v5 v6 → RG σ → TY σ → Ext σi σ → JJ p l e R s m args below meth c 8 D cA A n0 s0 QM σ 49 [(1, va_rf v1), (2, .long v2), (4, .int (i32 v4)), (5, .int (i32 v5)), (6, va_rf v6)] [] := by
  intro σ v1 v2 v4 v5 v6 g1 g4 g5 g6 h hGσ hYσ hE H locs ls hH hl hc
  have B := K.1
  have hl9 := K.2.2.2.2.2.2
  unfold w_X11_isOutdone_49 at h
  refine lv_aloadQ B.1 B.2.1 dX11_isOutdone_49 (lv_at hl 4 rfl) ?_
  refine lv_aload_nQ B.1 B.2.1 dX11_isOutdone_51 rfl (lv_at hl 0 rfl) ?_
  refine lv_iconst (v := i32 1) B.1 B.2.1 dX11_isOutdone_52 (by decide) ?_
  refine lv_iload B.1 B.2.1 dX11_isOutdone_53 (lv_at hl 2 rfl) ?_
  refine W.eq (g2 := F0 m 55 ls [.int (i32 v4), .int (i32 1), va_rf v1, va_rf v6]) (rfl) ?_
  refine c_S B hH hl hc K.2.2.1 (As := [va_rf v6, va_rf v1, .int (i32 1), .int (i32 v4)]) (ok_X1_compare hl9 K.2.1 σ v6 v1 1 v4 g6 g1 (by unfold rng; omega) g4 hGσ hYσ h) wc_X11_264 4 hd_X1_compare ⟨Nat.le_trans (Nat.le_of_ble_eq_true rfl) K.2.2.2.1, Nat.le_trans (Nat.le_of_ble_eq_true rfl) K.2.2.2.2.1⟩ rfl (rest := []) rfl (Nat.le_of_ble_eq_true rfl) dX11_isOutdone_55 (fun σ16 w hq => ?_) (fun σ9 E9 hx9 => hX σ9 E9 _ _ _ (tb_out K.2.2.2.2.2.1 rfl) hx9.1 hx9.2.1 hx9.2.2.1 (hE.trans hx9.2.2.2))
  obtain ⟨r17, rfl, gr17, h, hGσ16, hYσ16, xσ16⟩ := hq
  have h := h xσ16
  intro H locs ls hH hl hc
  refine W.eq (g2 := F0 m 58 ls [.int (i32 r17)]) (rfl) ?_
  try dsimp only at h
  refine lv_istore (lv' := [(7, .int (i32 r17)), (1, va_rf v1), (2, .long v2), (4, .int (i32 v4)), (5, .int (i32 v5)), (6, va_rf v6)]) B.1 B.2.1 dX11_isOutdone_58 hl (by decide) (by generalize v6 = w9; cases w9 <;> rfl) (fun ls hl => ?_)
  refine lv_iload B.1 B.2.1 dX11_isOutdone_60 (lv_at hl 0 rfl) ?_
  refine lv_if_gt (tgt := 75) B.1 B.2.1 dX11_isOutdone_62 (by decide) (fun h9 => ?_) (fun h9 => ?_)
  · rw [if_pos ((z_gt gr17).mp h9)] at h
    exact a_X11_isOutdone_75 K hQ hX hTh _ h hGσ16 hYσ16 (hE.trans xσ16) _ _ _ hH (lv_sub (l' := []) hl [] rfl) hc
  · rw [if_neg (fun q => h9 ((z_gt gr17).mpr q))] at h
    exact a_X11_isOutdone_65 K hQ hX hTh hK9 _ _ _ _ _ _ _ (g1.up xσ16) g4 g5 (g6.up xσ16) gr17 h hGσ16 hYσ16 (hE.trans xσ16) _ _ _ hH (lv_sub (l' := [(1, va_rf v1), (2, .long v2), (4, .int (i32 v4)), (5, .int (i32 v5)), (6, va_rf v6), (7, .int (i32 r17))]) hl [1, 2, 3, 4, 5, 0] rfl) hc
set_option maxRecDepth 20000 in
theorem a_X11_isOutdone_36 {Q : Sg → Int → Prop} {X : Sg → String → Prop} (K : MD l R p s m args c cX11_isOutdone 8 RX11 D cA tys A n0 s0 2 48 []) (hQ : CQZ p l e R s m args below meth c cX11_isOutdone D cA A n0 s0 QM σi Q) (hX : CX p l e R s m args below meth c 8 D cA A n0 s0 QM σi X) (hTh : CT p l e R s m args below meth c cX11_isOutdone 8 D cA A n0 s0 QM σi RX11 X) {K9 : Sg → Option Nat → Int64 → Int → Int → Option Nat → Prop} (hK9 : ∀ (σ : Sg) (v1 : Option Nat) (v2 : Int64) (v4 : Int) (v5 : Int) (v6 : Option Nat) (g1 : tyV σ 0 v1) (g4 : rng v4) (g5 : rng v5) (g6 : tyV σ 0 v6), K9 σ v1 v2 v4 v5 v6 → RG σ → TY σ → Ext σi σ → JJ p l e R s m args below meth c 8 D cA A n0 s0 QM σ 9 [(1, va_rf v1), (2, .long v2), (4, .int (i32 v4)), (5, .int (i32 v5)), (6, va_rf v6)] []) : ∀ (σ : Sg) (v1 : Option Nat) (v2 : Int64) (v4 : Int) (v5 : Int) (v6 : Option Nat) (g1 : tyV σ 0 v1) (g4 : rng v4) (g5 : rng v5) (g6 : tyV σ 0 v6), w_X11_isOutdone_36 K9 Q X σ v1 v2 v4 v5 v6 → RG σ → TY σ → Ext σi σ → JJ p l e R s m args below meth c 8 D cA A n0 s0 QM σ 36 [(1, va_rf v1), (2, .long v2), (4, .int (i32 v4)), (5, .int (i32 v5)), (6, va_rf v6)] [] := by
  intro σ v1 v2 v4 v5 v6 g1 g4 g5 g6 h hGσ hYσ hE H locs ls hH hl hc
  have B := K.1
  have hl9 := K.2.2.2.2.2.2
  unfold w_X11_isOutdone_36 at h
  refine lv_aloadQ B.1 B.2.1 dX11_isOutdone_36 (lv_at hl 4 rfl) ?_
  obtain ⟨a18, ea18, h⟩ := h
  have ka18 : kO σ a18 0 := g6 a18 ea18
  have h := h ka18
  refine W.eq (g2 := F0 m 38 ls [.ref a18]) (by rw [ea18]; rfl) ?_
  refine f_getl B hH ka18 (by decide) rfl wu_X0 7 (by decide) wf_X11_72 rfl rfl dX11_isOutdone_38 ?_
  refine lv_aload_nQ B.1 B.2.1 dX11_isOutdone_41 rfl (lv_at hl 0 rfl) ?_
  obtain ⟨a19, ea19, h⟩ := h
  have ka19 : kO σ a19 0 := g1 a19 ea19
  have h := h ka19
  refine W.eq (g2 := F0 m 42 ls [.ref a19, .long (gJ σ a18 7)]) (by rw [ea19]; rfl) ?_
  refine f_getl B hH ka19 (by decide) rfl wu_X0 7 (by decide) wf_X11_72 rfl rfl dX11_isOutdone_42 ?_
  refine W.lcmp B.1 B.2.1 dX11_isOutdone_45 ?_
  refine lv_if_ne (tgt := 77) B.1 B.2.1 dX11_isOutdone_46 (by decide) (fun h9 => ?_) (fun h9 => ?_)
  · rw [if_pos (fun q => h9 ((lg_cmp_eq _ _).mpr q))] at h
    exact a_X11_isOutdone_77 K hQ hX hTh hK9 _ _ _ _ _ _ g1 g4 g5 g6 h hGσ hYσ hE _ _ _ hH (lv_sub (l' := [(1, va_rf v1), (2, .long v2), (4, .int (i32 v4)), (5, .int (i32 v5)), (6, va_rf v6)]) hl [0, 1, 2, 3, 4] rfl) hc
  · rw [if_neg (fun q => q ((lg_cmp_eq _ _).mp h9))] at h
    exact a_X11_isOutdone_49 K hQ hX hTh hK9 _ _ _ _ _ _ g1 g4 g5 g6 h hGσ hYσ hE _ _ _ hH (lv_sub (l' := [(1, va_rf v1), (2, .long v2), (4, .int (i32 v4)), (5, .int (i32 v5)), (6, va_rf v6)]) hl [0, 1, 2, 3, 4] rfl) hc
set_option maxRecDepth 20000 in
theorem a_X11_isOutdone_30 {Q : Sg → Int → Prop} {X : Sg → String → Prop} (K : MD l R p s m args c cX11_isOutdone 8 RX11 D cA tys A n0 s0 2 48 []) (hQ : CQZ p l e R s m args below meth c cX11_isOutdone D cA A n0 s0 QM σi Q) (hX : CX p l e R s m args below meth c 8 D cA A n0 s0 QM σi X) (hTh : CT p l e R s m args below meth c cX11_isOutdone 8 D cA A n0 s0 QM σi RX11 X) {K9 : Sg → Option Nat → Int64 → Int → Int → Option Nat → Prop} (hK9 : ∀ (σ : Sg) (v1 : Option Nat) (v2 : Int64) (v4 : Int) (v5 : Int) (v6 : Option Nat) (g1 : tyV σ 0 v1) (g4 : rng v4) (g5 : rng v5) (g6 : tyV σ 0 v6), K9 σ v1 v2 v4 v5 v6 → RG σ → TY σ → Ext σi σ → JJ p l e R s m args below meth c 8 D cA A n0 s0 QM σ 9 [(1, va_rf v1), (2, .long v2), (4, .int (i32 v4)), (5, .int (i32 v5)), (6, va_rf v6)] []) : ∀ (σ : Sg) (v1 : Option Nat) (v2 : Int64) (v4 : Int) (v6 : Option Nat) (g1 : tyV σ 0 v1) (g4 : rng v4) (g6 : tyV σ 0 v6), w_X11_isOutdone_30 K9 Q X σ v1 v2 v4 v6 → RG σ → TY σ → Ext σi σ → JJ p l e R s m args below meth c 8 D cA A n0 s0 QM σ 30 [(1, va_rf v1), (2, .long v2), (4, .int (i32 v4)), (6, va_rf v6)] [] := by
  intro σ v1 v2 v4 v6 g1 g4 g6 h hGσ hYσ hE H locs ls hH hl hc
  have B := K.1
  have hl9 := K.2.2.2.2.2.2
  unfold w_X11_isOutdone_30 at h
  refine lv_iconst (v := i32 1) B.1 B.2.1 dX11_isOutdone_30 (by decide) ?_
  refine lv_istore (lv' := [(5, .int (i32 1)), (1, va_rf v1), (2, .long v2), (4, .int (i32 v4)), (6, va_rf v6)]) B.1 B.2.1 dX11_isOutdone_31 hl (by decide) rfl (fun ls hl => ?_)
  refine lv_goto (tgt := 77) B.1 B.2.1 dX11_isOutdone_33 (by decide) ?_
  exact a_X11_isOutdone_77 K hQ hX hTh hK9 _ _ _ _ _ _ g1 g4 (by unfold rng; omega) g6 h hGσ hYσ hE _ _ _ hH (lv_sub (l' := [(1, va_rf v1), (2, .long v2), (4, .int (i32 v4)), (5, .int (i32 1)), (6, va_rf v6)]) hl [1, 2, 3, 0, 4] rfl) hc
set_option maxRecDepth 20000 in
theorem a_X11_isOutdone_24 {Q : Sg → Int → Prop} {X : Sg → String → Prop} (K : MD l R p s m args c cX11_isOutdone 8 RX11 D cA tys A n0 s0 2 48 []) (hQ : CQZ p l e R s m args below meth c cX11_isOutdone D cA A n0 s0 QM σi Q) (hX : CX p l e R s m args below meth c 8 D cA A n0 s0 QM σi X) (hTh : CT p l e R s m args below meth c cX11_isOutdone 8 D cA A n0 s0 QM σi RX11 X) {K9 : Sg → Option Nat → Int64 → Int → Int → Option Nat → Prop} (hK9 : ∀ (σ : Sg) (v1 : Option Nat) (v2 : Int64) (v4 : Int) (v5 : Int) (v6 : Option Nat) (g1 : tyV σ 0 v1) (g4 : rng v4) (g5 : rng v5) (g6 : tyV σ 0 v6), K9 σ v1 v2 v4 v5 v6 → RG σ → TY σ → Ext σi σ → JJ p l e R s m args below meth c 8 D cA A n0 s0 QM σ 9 [(1, va_rf v1), (2, .long v2), (4, .int (i32 v4)), (5, .int (i32 v5)), (6, va_rf v6)] []) : ∀ (σ : Sg) (v1 : Option Nat) (v2 : Int64) (v4 : Int) (v5 : Int) (v6 : Option Nat) (g1 : tyV σ 0 v1) (g4 : rng v4) (g5 : rng v5) (g6 : tyV σ 0 v6), w_X11_isOutdone_24 K9 Q X σ v1 v2 v4 v5 v6 → RG σ → TY σ → Ext σi σ → JJ p l e R s m args below meth c 8 D cA A n0 s0 QM σ 24 [(1, va_rf v1), (2, .long v2), (4, .int (i32 v4)), (5, .int (i32 v5)), (6, va_rf v6)] [] := by
  intro σ v1 v2 v4 v5 v6 g1 g4 g5 g6 h hGσ hYσ hE H locs ls hH hl hc
  have B := K.1
  have hl9 := K.2.2.2.2.2.2
  unfold w_X11_isOutdone_24 at h
  refine lv_aloadQ B.1 B.2.1 dX11_isOutdone_24 (lv_at hl 4 rfl) ?_
  refine lv_aload_nQ B.1 B.2.1 dX11_isOutdone_26 rfl (lv_at hl 0 rfl) ?_
  refine W.eq (g2 := F0 m 27 ls [va_rf v1, va_rf v6]) (rfl) ?_
  refine lv_acmp_ne (tgt := 36) B.1 B.2.1 dX11_isOutdone_27 (by decide) (fun h9 => ?_) (fun h9 => ?_)
  · rw [if_pos (h9)] at h
    exact a_X11_isOutdone_36 K hQ hX hTh hK9 _ _ _ _ _ _ g1 g4 g5 g6 h hGσ hYσ hE _ _ _ hH (lv_sub (l' := [(1, va_rf v1), (2, .long v2), (4, .int (i32 v4)), (5, .int (i32 v5)), (6, va_rf v6)]) hl [0, 1, 2, 3, 4] rfl) hc
  · rw [if_neg (fun q => q h9)] at h
    exact a_X11_isOutdone_30 K hQ hX hTh hK9 _ _ _ _ _ g1 g4 g6 h hGσ hYσ hE _ _ _ hH (lv_sub (l' := [(1, va_rf v1), (2, .long v2), (4, .int (i32 v4)), (6, va_rf v6)]) hl [0, 1, 2, 4] rfl) hc
set_option maxRecDepth 20000 in
theorem a_X11_isOutdone_14 {Q : Sg → Int → Prop} {X : Sg → String → Prop} (K : MD l R p s m args c cX11_isOutdone 8 RX11 D cA tys A n0 s0 2 48 []) (hQ : CQZ p l e R s m args below meth c cX11_isOutdone D cA A n0 s0 QM σi Q) (hX : CX p l e R s m args below meth c 8 D cA A n0 s0 QM σi X) (hTh : CT p l e R s m args below meth c cX11_isOutdone 8 D cA A n0 s0 QM σi RX11 X) {K9 : Sg → Option Nat → Int64 → Int → Int → Option Nat → Prop} (hK9 : ∀ (σ : Sg) (v1 : Option Nat) (v2 : Int64) (v4 : Int) (v5 : Int) (v6 : Option Nat) (g1 : tyV σ 0 v1) (g4 : rng v4) (g5 : rng v5) (g6 : tyV σ 0 v6), K9 σ v1 v2 v4 v5 v6 → RG σ → TY σ → Ext σi σ → JJ p l e R s m args below meth c 8 D cA A n0 s0 QM σ 9 [(1, va_rf v1), (2, .long v2), (4, .int (i32 v4)), (5, .int (i32 v5)), (6, va_rf v6)] []) : ∀ (σ : Sg) (v1 : Option Nat) (v2 : Int64) (v4 : Int) (v5 : Int) (v6 : Option Nat) (g1 : tyV σ 0 v1) (g4 : rng v4) (g5 : rng v5) (g6 : tyV σ 0 v6), w_X11_isOutdone_14 K9 Q X σ v1 v2 v4 v5 v6 → RG σ → TY σ → Ext σi σ → JJ p l e R s m args below meth c 8 D cA A n0 s0 QM σ 14 [(1, va_rf v1), (2, .long v2), (4, .int (i32 v4)), (5, .int (i32 v5)), (6, va_rf v6)] [] := by
  intro σ v1 v2 v4 v5 v6 g1 g4 g5 g6 h hGσ hYσ hE H locs ls hH hl hc
  have B := K.1
  have hl9 := K.2.2.2.2.2.2
  unfold w_X11_isOutdone_14 at h
  refine lv_aloadQ B.1 B.2.1 dX11_isOutdone_14 (lv_at hl 4 rfl) ?_
  obtain ⟨a20, ea20, h⟩ := h
  have ka20 : kO σ a20 0 := g6 a20 ea20
  have h := h ka20
  refine W.eq (g2 := F0 m 16 ls [.ref a20]) (by rw [ea20]; rfl) ?_
  refine f_getl B hH ka20 (by decide) rfl wu_X0 5 (by decide) wf_X11_85 rfl rfl dX11_isOutdone_16 ?_
  refine lv_lload_n B.1 B.2.1 dX11_isOutdone_19 rfl (lv_at hl 1 rfl) ?_
  refine W.lcmp B.1 B.2.1 dX11_isOutdone_20 ?_
  refine lv_if_gt (tgt := 87) B.1 B.2.1 dX11_isOutdone_21 (by decide) (fun h9 => ?_) (fun h9 => ?_)
  · rw [if_pos ((lg_cmp_gt _ _).mp h9)] at h
    exact a_X11_isOutdone_87 K hQ hX hTh _ h hGσ hYσ hE _ _ _ hH (lv_sub (l' := []) hl [] rfl) hc
  · rw [if_neg (fun q => h9 ((lg_cmp_gt _ _).mpr q))] at h
    exact a_X11_isOutdone_24 K hQ hX hTh hK9 _ _ _ _ _ _ g1 g4 g5 g6 h hGσ hYσ hE _ _ _ hH (lv_sub (l' := [(1, va_rf v1), (2, .long v2), (4, .int (i32 v4)), (5, .int (i32 v5)), (6, va_rf v6)]) hl [0, 1, 2, 3, 4] rfl) hc
set_option maxRecDepth 20000 in
theorem a_X11_isOutdone_9 {Q : Sg → Int → Prop} {X : Sg → String → Prop} (K : MD l R p s m args c cX11_isOutdone 8 RX11 D cA tys A n0 s0 2 48 []) (hQ : CQZ p l e R s m args below meth c cX11_isOutdone D cA A n0 s0 QM σi Q) (hX : CX p l e R s m args below meth c 8 D cA A n0 s0 QM σi X) (hTh : CT p l e R s m args below meth c cX11_isOutdone 8 D cA A n0 s0 QM σi RX11 X) {K9 : Sg → Option Nat → Int64 → Int → Int → Option Nat → Prop} (hK9 : ∀ (σ : Sg) (v1 : Option Nat) (v2 : Int64) (v4 : Int) (v5 : Int) (v6 : Option Nat) (g1 : tyV σ 0 v1) (g4 : rng v4) (g5 : rng v5) (g6 : tyV σ 0 v6), K9 σ v1 v2 v4 v5 v6 → RG σ → TY σ → Ext σi σ → JJ p l e R s m args below meth c 8 D cA A n0 s0 QM σ 9 [(1, va_rf v1), (2, .long v2), (4, .int (i32 v4)), (5, .int (i32 v5)), (6, va_rf v6)] []) : ∀ (σ : Sg) (v1 : Option Nat) (v2 : Int64) (v4 : Int) (v5 : Int) (v6 : Option Nat) (g1 : tyV σ 0 v1) (g4 : rng v4) (g5 : rng v5) (g6 : tyV σ 0 v6), w_X11_isOutdone_9 K9 Q X σ v1 v2 v4 v5 v6 → RG σ → TY σ → Ext σi σ → JJ p l e R s m args below meth c 8 D cA A n0 s0 QM σ 9 [(1, va_rf v1), (2, .long v2), (4, .int (i32 v4)), (5, .int (i32 v5)), (6, va_rf v6)] [] := by
  intro σ v1 v2 v4 v5 v6 g1 g4 g5 g6 h hGσ hYσ hE H locs ls hH hl hc
  have B := K.1
  have hl9 := K.2.2.2.2.2.2
  unfold w_X11_isOutdone_9 at h
  refine lv_aloadQ B.1 B.2.1 dX11_isOutdone_9 (lv_at hl 4 rfl) ?_
  refine lv_ifnullQ (tgt := 87) B.1 B.2.1 dX11_isOutdone_11 (by decide) (fun h9 => ?_) (fun h9 => ?_)
  · rw [if_pos (h9)] at h
    exact a_X11_isOutdone_87 K hQ hX hTh _ h hGσ hYσ hE _ _ _ hH (lv_sub (l' := []) hl [] rfl) hc
  · rw [if_neg (h9)] at h
    exact a_X11_isOutdone_14 K hQ hX hTh hK9 _ _ _ _ _ _ g1 g4 g5 g6 h hGσ hYσ hE _ _ _ hH (lv_sub (l' := [(1, va_rf v1), (2, .long v2), (4, .int (i32 v4)), (5, .int (i32 v5)), (6, va_rf v6)]) hl [0, 1, 2, 3, 4] rfl) hc
theorem al_X11_isOutdone_9 {Q : Sg → Int → Prop} {X : Sg → String → Prop} (K : MD l R p s m args c cX11_isOutdone 8 RX11 D cA tys A n0 s0 2 48 []) (hQ : CQZ p l e R s m args below meth c cX11_isOutdone D cA A n0 s0 QM σi Q) (hX : CX p l e R s m args below meth c 8 D cA A n0 s0 QM σi X) (hTh : CT p l e R s m args below meth c cX11_isOutdone 8 D cA A n0 s0 QM σi RX11 X) : ∀ (n : Nat), ∀ (σ : Sg) (v1 : Option Nat) (v2 : Int64) (v4 : Int) (v5 : Int) (v6 : Option Nat) (g1 : tyV σ 0 v1) (g4 : rng v4) (g5 : rng v5) (g6 : tyV σ 0 v6), wl_X11_isOutdone_9 Q X n σ v1 v2 v4 v5 v6 → RG σ → TY σ → Ext σi σ → JJ p l e R s m args below meth c 8 D cA A n0 s0 QM σ 9 [(1, va_rf v1), (2, .long v2), (4, .int (i32 v4)), (5, .int (i32 v5)), (6, va_rf v6)] [] := by
  intro n
  induction n with
  | zero => intro σ v1 v2 v4 v5 v6 g1 g4 g5 g6 h; exact h.elim
  | succ n ih => exact fun σ v1 v2 v4 v5 v6 g1 g4 g5 g6 h => a_X11_isOutdone_9 K hQ hX hTh ih σ v1 v2 v4 v5 v6 g1 g4 g5 g6 h
set_option maxRecDepth 20000 in
theorem a_X11_isOutdone_0 {Q : Sg → Int → Prop} {X : Sg → String → Prop} (K : MD l R p s m args c cX11_isOutdone 8 RX11 D cA tys A n0 s0 2 48 []) (hQ : CQZ p l e R s m args below meth c cX11_isOutdone D cA A n0 s0 QM σi Q) (hX : CX p l e R s m args below meth c 8 D cA A n0 s0 QM σi X) (hTh : CT p l e R s m args below meth c cX11_isOutdone 8 D cA A n0 s0 QM σi RX11 X) : ∀ (σ : Sg) (v0 : Option Nat) (v1 : Option Nat) (v2 : Int64) (v4 : Int) (g0 : tyV σ 1 v0) (g1 : tyV σ 0 v1) (g4 : rng v4), w_X11_isOutdone_0 Q X σ v0 v1 v2 v4 → RG σ → TY σ → Ext σi σ → JJ p l e R s m args below meth c 8 D cA A n0 s0 QM σ 0 [(0, va_rf v0), (1, va_rf v1), (2, .long v2), (4, .int (i32 v4))] [] := by
  intro σ v0 v1 v2 v4 g0 g1 g4 h hGσ hYσ hE H locs ls hH hl hc
  have B := K.1
  have hl9 := K.2.2.2.2.2.2
  unfold w_X11_isOutdone_0 at h
  refine lv_iconst (v := i32 0) B.1 B.2.1 dX11_isOutdone_0 (by decide) ?_
  refine lv_istore (lv' := [(5, .int (i32 0)), (0, va_rf v0), (1, va_rf v1), (2, .long v2), (4, .int (i32 v4))]) B.1 B.2.1 dX11_isOutdone_1 hl (by decide) rfl (fun ls hl => ?_)
  refine lv_aload_nQ B.1 B.2.1 dX11_isOutdone_3 rfl (lv_at hl 1 rfl) ?_
  obtain ⟨a21, ea21, h⟩ := h
  have ka21 : kO σ a21 1 := g0 a21 ea21
  have h := h ka21
  refine W.eq (g2 := F0 m 4 ls [.ref a21]) (by rw [ea21]; rfl) ?_
  refine f_getp B hH ka21 (by decide) rfl wu_X1 0 (by decide) wf_X11_225 rfl rfl dX11_isOutdone_4 ?_
  refine lv_astoreQ (lv' := [(6, va_rf (gP σ a21 0)), (5, .int (i32 0)), (0, va_rf v0), (1, va_rf v1), (2, .long v2), (4, .int (i32 v4))]) B.1 B.2.1 dX11_isOutdone_7 hl (by decide) rfl (fun ls hl => ?_)
  obtain ⟨n9, h⟩ := h
  exact al_X11_isOutdone_9 K hQ hX hTh n9 _ _ _ _ _ _ g1 g4 (by unfold rng; omega) (hYσ.get ka21 (by decide)) h hGσ hYσ hE _ _ _ hH (lv_sub (l' := [(1, va_rf v1), (2, .long v2), (4, .int (i32 v4)), (5, .int (i32 0)), (6, va_rf (gP σ a21 0))]) hl [3, 4, 5, 1, 0] rfl) hc
theorem ok_X11_isOutdone (hl0 : l.stackTraces = false) (hT : TyC cA tys) {Q : Sg → Int → Prop} {X : Sg → String → Prop} (σ : Sg) (v0 : Option Nat) (v1 : Option Nat) (v2 : Int64) (v4 : Int) (g0 : tyV σ 1 v0) (g1 : tyV σ 0 v1) (g4 : rng v4) (hG : RG σ) (hY : TY σ) (h : wp_X11_isOutdone v0 v1 v2 v4 σ Q X) : Ok l D cA tys A yX11_isOutdone (.code yX11_isOutdone cX11_isOutdone 8 (some .boolean)) 2 48 [va_rf v0, va_rf v1, .long v2, .int (i32 v4)] σ (QcZ σ Q) (QxC σ X) := by
  unfold wp_X11_isOutdone at h
  exact oc_Z hl0 (by decide) (by cases v0 <;> cases v1 <;> exact Nat.le_of_ble_eq_true rfl) hT (fun p e R s m args below meth c K hQ hX hTh H locs ls hH hl hc => a_X11_isOutdone_0 K hQ hX hTh σ v0 v1 v2 v4 g0 g1 g4 h hG hY (Ext.rfl' σ) H locs ls hH (lv_sub (l' := [(0, va_rf v0), (1, va_rf v1), (2, .long v2), (4, .int (i32 v4))]) hl [0, 1, 2, 3] (by cases v0 <;> cases v1 <;> rfl)) hc)
theorem dX11_dropOutdone_0 : decode cX11_dropOutdone 0 = .ok (.aconst_null, 1) := by decide +kernel
theorem dX11_dropOutdone_1 : decode cX11_dropOutdone 1 = .ok (.astore 5, 2) := by decide +kernel
theorem dX11_dropOutdone_3 : decode cX11_dropOutdone 3 = .ok (.aload_n 1, 1) := by decide +kernel
theorem dX11_dropOutdone_4 : decode cX11_dropOutdone 4 = .ok (.getfield 225, 3) := by decide +kernel
theorem dX11_dropOutdone_7 : decode cX11_dropOutdone 7 = .ok (.astore 6, 2) := by decide +kernel
theorem dX11_dropOutdone_9 : decode cX11_dropOutdone 9 = .ok (.aload 6, 2) := by decide +kernel
theorem dX11_dropOutdone_11 : decode cX11_dropOutdone 11 = .ok (.ifnull 53, 3) := by decide +kernel
theorem dX11_dropOutdone_14 : decode cX11_dropOutdone 14 = .ok (.aload 6, 2) := by decide +kernel
theorem dX11_dropOutdone_16 : decode cX11_dropOutdone 16 = .ok (.getfield 85, 3) := by decide +kernel
theorem dX11_dropOutdone_19 : decode cX11_dropOutdone 19 = .ok (.lload_n 2, 1) := by decide +kernel
theorem dX11_dropOutdone_20 : decode cX11_dropOutdone 20 = .ok (.lcmp, 1) := by decide +kernel
theorem dX11_dropOutdone_21 : decode cX11_dropOutdone 21 = .ok (.ifCond .gt 43, 3) := by decide +kernel
theorem dX11_dropOutdone_24 : decode cX11_dropOutdone 24 = .ok (.aload 6, 2) := by decide +kernel
theorem dX11_dropOutdone_26 : decode cX11_dropOutdone 26 = .ok (.getfield 235, 3) := by decide +kernel
theorem dX11_dropOutdone_29 : decode cX11_dropOutdone 29 = .ok (.astore 7, 2) := by decide +kernel
theorem dX11_dropOutdone_31 : decode cX11_dropOutdone 31 = .ok (.aload_n 1, 1) := by decide +kernel
theorem dX11_dropOutdone_32 : decode cX11_dropOutdone 32 = .ok (.aload 6, 2) := by decide +kernel
theorem dX11_dropOutdone_34 : decode cX11_dropOutdone 34 = .ok (.lload_n 2, 1) := by decide +kernel
theorem dX11_dropOutdone_35 : decode cX11_dropOutdone 35 = .ok (.iload 4, 2) := by decide +kernel
theorem dX11_dropOutdone_37 : decode cX11_dropOutdone 37 = .ok (.invokestatic 272, 3) := by decide +kernel
theorem dX11_dropOutdone_40 : decode cX11_dropOutdone 40 = .ok (.ifCond .eq 13, 3) := by decide +kernel
theorem dX11_dropOutdone_43 : decode cX11_dropOutdone 43 = .ok (.aload_n 0, 1) := by decide +kernel
theorem dX11_dropOutdone_44 : decode cX11_dropOutdone 44 = .ok (.aload_n 1, 1) := by decide +kernel
theorem dX11_dropOutdone_45 : decode cX11_dropOutdone 45 = .ok (.aload 5, 2) := by decide +kernel
theorem dX11_dropOutdone_47 : decode cX11_dropOutdone 47 = .ok (.invokevirtual 257, 3) := by decide +kernel
theorem dX11_dropOutdone_50 : decode cX11_dropOutdone 50 = .ok (.goto 7, 3) := by decide +kernel
theorem dX11_dropOutdone_53 : decode cX11_dropOutdone 53 = .ok (.aload 6, 2) := by decide +kernel
theorem dX11_dropOutdone_55 : decode cX11_dropOutdone 55 = .ok (.astore 5, 2) := by decide +kernel
theorem dX11_dropOutdone_57 : decode cX11_dropOutdone 57 = .ok (.aload 7, 2) := by decide +kernel
theorem dX11_dropOutdone_59 : decode cX11_dropOutdone 59 = .ok (.astore 6, 2) := by decide +kernel
theorem dX11_dropOutdone_61 : decode cX11_dropOutdone 61 = .ok (.goto (-52), 3) := by decide +kernel
theorem dX11_dropOutdone_64 : decode cX11_dropOutdone 64 = .ok (.return_, 1) := by decide +kernel
set_option maxRecDepth 20000 in
theorem a_X11_dropOutdone_64 {Q : Sg → Unit → Prop} {X : Sg → String → Prop} {th : Nat} (K : MD l R p s m args c cX11_dropOutdone 8 RX11 D cA tys A n0 s0 3 75 []) (hQ : CQV p l e R s m args below meth c cX11_dropOutdone D cA A n0 s0 QM σi Q) (hX : CX p l e R s m args below meth c 8 D cA A n0 s0 QM σi X) (hTh : CT p l e R s m args below meth c cX11_dropOutdone 8 D cA A n0 s0 QM σi RX11 X) : ∀ (σ : Sg), w_X11_dropOutdone_64 th Q X σ → RG σ → TY σ → Ext σi σ → kO σ th 11 → JJ p l e R s m args below meth c 8 D cA A n0 s0 QM σ 64 [(0, .ref th)] [] := by
  intro σ h hGσ hYσ hE hth H locs ls hH hl hc
  have B := K.1
  have hl9 := K.2.2.2.2.2.2
  unfold w_X11_dropOutdone_64 at h
  exact hQ _ _ _ _ _ dX11_dropOutdone_64 hH hc h hGσ hYσ hE
set_option maxRecDepth 20000 in
theorem a_X11_dropOutdone_57 {Q : Sg → Unit → Prop} {X : Sg → String → Prop} {th : Nat} (K : MD l R p s m args c cX11_dropOutdone 8 RX11 D cA tys A n0 s0 3 75 []) (hQ : CQV p l e R s m args below meth c cX11_dropOutdone D cA A n0 s0 QM σi Q) (hX : CX p l e R s m args below meth c 8 D cA A n0 s0 QM σi X) (hTh : CT p l e R s m args below meth c cX11_dropOutdone 8 D cA A n0 s0 QM σi RX11 X) {K9 : Sg → Option Nat → Int64 → Int → Option Nat → Option Nat → Prop} (hK9 : ∀ (σ : Sg) (v1 : Option Nat) (v2 : Int64) (v4 : Int) (v5 : Option Nat) (v6 : Option Nat) (g1 : tyV σ 1 v1) (g4 : rng v4) (g5 : tyV σ 0 v5) (g6 : tyV σ 0 v6), K9 σ v1 v2 v4 v5 v6 → RG σ → TY σ → Ext σi σ → kO σ th 11 → JJ p l e R s m args below meth c 8 D cA A n0 s0 QM σ 9 [(0, .ref th), (1, va_rf v1), (2, .long v2), (4, .int (i32 v4)), (5, va_rf v5), (6, va_rf v6)] []) : ∀ (σ : Sg) (v1 : Option Nat) (v2 : Int64) (v4 : Int) (v5 : Option Nat) (v7 : Option Nat) (g1 : tyV σ 1 v1) (g4 : rng v4) (g5 : tyV σ 0 v5) (g7 : tyV σ 0 v7), w_X11_dropOutdone_57 th K9 Q X σ v1 v2 v4 v5 v7 → RG σ → TY σ → Ext σi σ → kO σ th 11 → JJ p l e R s m args below meth c 8 D cA A n0 s0 QM σ 57 [(0, .ref th), (1, va_rf v1), (2, .long v2), (4, .int (i32 v4)), (5, va_rf v5), (7, va_rf v7)] [] := by
  intro σ v1 v2 v4 v5 v7 g1 g4 g5 g7 h hGσ hYσ hE hth H locs ls hH hl hc
  have B := K.1
  have hl9 := K.2.2.2.2.2.2
  unfold w_X11_dropOutdone_57 at h
  refine lv_aloadQ B.1 B.2.1 dX11_dropOutdone_57 (lv_at hl 5 rfl) ?_
  refine lv_astoreQ (lv' := [(6, va_rf v7), (0, .ref th), (1, va_rf v1), (2, .long v2), (4, .int (i32 v4)), (5, va_rf v5), (7, va_rf v7)]) B.1 B.2.1 dX11_dropOutdone_59 hl (by decide) (by generalize v5 = w9; cases w9 <;> rfl) (fun ls hl => ?_)
  refine lv_goto (tgt := 9) B.1 B.2.1 dX11_dropOutdone_61 (by decide) ?_
  exact hK9 _ _ _ _ _ _ g1 g4 g5 g7 h hGσ hYσ hE hth _ _ _ hH (lv_sub (l' := [(0, .ref th), (1, va_rf v1), (2, .long v2), (4, .int (i32 v4)), (5, va_rf v5), (6, va_rf v7)]) hl [1, 2, 3, 4, 5, 0] rfl) hc
set_option maxRecDepth 20000 in
theorem a_X11_dropOutdone_53 {Q : Sg → Unit → Prop} {X : Sg → String → Prop} {th : Nat} (K : MD l R p s m args c cX11_dropOutdone 8 RX11 D cA tys A n0 s0 3 75 []) (hQ : CQV p l e R s m args below meth c cX11_dropOutdone D cA A n0 s0 QM σi Q) (hX : CX p l e R s m args below meth c 8 D cA A n0 s0 QM σi X) (hTh : CT p l e R s m args below meth c cX11_dropOutdone 8 D cA A n0 s0 QM σi RX11 X) {K9 : Sg → Option Nat → Int64 → Int → Option Nat → Option Nat → Prop} (hK9 : ∀ (σ : Sg) (v1 : Option Nat) (v2 : Int64) (v4 : Int) (v5 : Option Nat) (v6 : Option Nat) (g1 : tyV σ 1 v1) (g4 : rng v4) (g5 : tyV σ 0 v5) (g6 : tyV σ 0 v6), K9 σ v1 v2 v4 v5 v6 → RG σ → TY σ → Ext σi σ → kO σ th 11 → JJ p l e R s m args below meth c 8 D cA A n0 s0 QM σ 9 [(0, .ref th), (1, va_rf v1), (2, .long v2), (4, .int (i32 v4)), (5, va_rf v5), (6, va_rf v6)] []) : ∀ (σ : Sg) (v1 : Option Nat) (v2 : Int64) (v4 : Int) (v6 : Option Nat) (v7 : Option Nat) (g1 : tyV σ 1 v1) (g4 : rng v4) (g6 : tyV σ 0 v6) (g7 : tyV σ 0 v7), w_X11_dropOutdone_53 th K9 Q X σ v1 v2 v4 v6 v7 → RG σ → TY σ → Ext σi σ → kO σ th 11 → JJ p l e R s m args below meth c 8 D cA A n0 s0 QM σ 53 [(0, .ref th), (1, va_rf v1), (2, .long v2), (4, .int (i32 v4)), (6, va_rf v6), (7, va_rf v7)] [] := by
  intro σ v1 v2 v4 v6 v7 g1 g4 g6 g7 h hGσ hYσ hE hth H locs ls hH hl hc
  have B := K.1
  have hl9 := K.2.2.2.2.2.2
  unfold w_X11_dropOutdone_53 at h
  refine lv_aloadQ B.1 B.2.1 dX11_dropOutdone_53 (lv_at hl 4 rfl) ?_
  refine lv_astoreQ (lv' := [(5, va_rf v6), (0, .ref th), (1, va_rf v1), (2, .long v2), (4, .int (i32 v4)), (6, va_rf v6), (7, va_rf v7)]) B.1 B.2.1 dX11_dropOutdone_55 hl (by decide) rfl (fun ls hl => ?_)
  exact a_X11_dropOutdone_57 K hQ hX hTh hK9 _ _ _ _ _ _ g1 g4 g6 g7 h hGσ hYσ hE hth _ _ _ hH (lv_sub (l' := [(0, .ref th), (1, va_rf v1), (2, .long v2), (4, .int (i32 v4)), (5, va_rf v6), (7, va_rf v7)]) hl [1, 2, 3, 4, 0, 6] rfl) hc
set_option maxRecDepth 20000 in
theorem a_X11_dropOutdone_43 {Q : Sg → Unit → Prop} {X : Sg → String → Prop} {th : Nat} (K : MD l R p s m args c cX11_dropOutdone 8 RX11 D cA tys A n0 s0 3 75 []) (hQ : CQV p l e R s m args below meth c cX11_dropOutdone D cA A n0 s0 QM σi Q) (hX : CX p l e R s m args below meth c 8 D cA A n0 s0 QM σi X) (hTh : CT p l e R s m args below meth c cX11_dropOutdone 8 D cA A n0 s0 QM σi RX11 X) {K9 : Sg → Option Nat → Int64 → Int → Option Nat → Option Nat → Prop} (hK9 : ∀ (σ : Sg) (v1 : Option Nat) (v2 : Int64) (v4 : Int) (v5 : Option Nat) (v6 : Option Nat) (g1 : tyV σ 1 v1) (g4 : rng v4) (g5 : tyV σ 0 v5) (g6 : tyV σ 0 v6), K9 σ v1 v2 v4 v5 v6 → RG σ → TY σ → Ext σi σ → kO σ th 11 → JJ p l e R s m args below meth c 8 D cA A n0 s0 QM σ 9 [(0, .ref th), (1, va_rf v1), (2, .long v2), (4, .int (i32 v4)), (5, va_rf v5), (6, va_rf v6)] []) : ∀ (σ : Sg) (v1 : Option Nat) (v2 : Int64) (v4 : Int) (v5 : Option Nat) (v7 : Option Nat) (g1 : tyV σ 1 v1) (g4 : rng v4) (g5 : tyV σ 0 v5) (g7 : tyV σ 0 v7), w_X11_dropOutdone_43 th K9 Q X σ v1 v2 v4 v5 v7 → RG σ → TY σ → Ext σi σ → kO σ th 11 → JJ p l e R s m args below meth c 8 D cA A n0 s0 QM σ 43 [(0, .ref th), (1, va_rf v1), (2, .long v2), (4, .int (i32 v4)), (5, va_rf v5), (7, va_rf v7)] [] := by
  intro σ v1 v2 v4 v5 v7 g1 g4 g5 g7 h hGσ hYσ hE hth H locs ls hH hl hc
  have B := K.1
  have hl9 := K.2.2.2.2.2.2
  unfold w_X11_dropOutdone_43 at h
  refine lv_aload_n B.1 B.2.1 dX11_dropOutdone_43 rfl (lv_at hl 0 rfl) ?_
  refine lv_aload_nQ B.1 B.2.1 dX11_dropOutdone_44 rfl (lv_at hl 1 rfl) ?_
  refine lv_aloadQ B.1 B.2.1 dX11_dropOutdone_45 (lv_at hl 4 rfl) ?_
  refine W.eq (g2 := F0 m 47 ls [va_rf v5, va_rf v1, .ref th]) (rfl) ?_
  refine c_V B hH hl hc K.2.2.1 (C := RX11) (T := TX11) (N := 6) (ci := 11) (As := [va_rf v1, va_rf v5]) (ok_X11_drop hl9 K.2.1 σ th v1 v5 g1 g5 hth hGσ hYσ h) wc_X11_257 2 hd_X11_drop ⟨Nat.le_trans (Nat.le_of_ble_eq_true rfl) K.2.2.2.1, Nat.le_trans (Nat.le_of_ble_eq_true rfl) K.2.2.2.2.1⟩ hth.1 hth.2 (by decide) rfl rfl (rest := []) rfl (Nat.le_of_ble_eq_true rfl) dX11_dropOutdone_47 (fun σ18 w hq => ?_) (fun σ9 E9 hx9 => hX σ9 E9 _ _ _ (tb_out K.2.2.2.2.2.1 rfl) hx9.1 hx9.2.1 hx9.2.2.1 (hE.trans hx9.2.2.2))
  obtain ⟨rfl, h, hGσ18, hYσ18, xσ18⟩ := hq
  have h := h xσ18
  intro H locs ls hH hl hc
  refine W.eq (g2 := F0 m 50 ls []) (rfl) ?_
  try dsimp only at h
  refine lv_goto (tgt := 57) B.1 B.2.1 dX11_dropOutdone_50 (by decide) ?_
  exact a_X11_dropOutdone_57 K hQ hX hTh hK9 _ _ _ _ _ _ (g1.up xσ18) g4 (g5.up xσ18) (g7.up xσ18) h hGσ18 hYσ18 (hE.trans xσ18) (hth.up xσ18) _ _ _ hH (lv_sub (l' := [(0, .ref th), (1, va_rf v1), (2, .long v2), (4, .int (i32 v4)), (5, va_rf v5), (7, va_rf v7)]) hl [0, 1, 2, 3, 4, 5] rfl) hc
set_option maxRecDepth 20000 in
theorem a_X11_dropOutdone_24 {Q : Sg → Unit → Prop} {X : Sg → String → Prop} {th : Nat} (K : MD l R p s m args c cX11_dropOutdone 8 RX11 D cA tys A n0 s0 3 75 []) (hQ : CQV p l e R s m args below meth c cX11_dropOutdone D cA A n0 s0 QM σi Q) (hX : CX p l e R s m args below meth c 8 D cA A n0 s0 QM σi X) (hTh : CT p l e R s m args below meth c cX11_dropOutdone 8 D cA A n0 s0 QM σi RX11 X) {K9 : Sg → Option Nat → Int64 → Int → Option Nat → Option Nat → Prop} (hK9 : ∀ (σ : Sg) (v1 : Option Nat) (v2 : Int64) (v4 : Int) (v5 : Option Nat) (v6 : Option Nat) (g1 : tyV σ 1 v1) (g4 : rng v4) (g5 : tyV σ 0 v5) (g6 : tyV σ 0 v6), K9 σ v1 v2 v4 v5 v6 → RG σ → TY σ → Ext σi σ → kO σ th 11 → JJ p l e R s m args below meth c 8 D cA A n0 s0 QM σ 9 [(0, .ref th), (1, va_rf v1), (2, .long v2), (4, .int (i32 v4)), (5, va_rf v5), (6, va_rf v6)] []) : ∀ (σ : Sg) (v1 : Option Nat) (v2 : Int64) (v4 : Int) (v5 : Option Nat) (v6 : Option Nat) (g1 : tyV σ 1 v1) (g4 : rng v4) (g5 : tyV σ 0 v5) (g6 : tyV σ 0 v6), w_X11_dropOutdone_24 th K9 Q X σ v1 v2 v4 v5 v6 → RG σ → TY σ → Ext σi σ → kO σ th 11 → JJ p l e R s m args below meth c 8 D cA A n0 s0 QM σ 24 [(0, .ref th), (1, va_rf v1), (2, .long v2), (4, .int (i32 v4)), (5, va_rf v5), (6, va_rf v6)] [] := by
  intro σ v1 v2 v4 v5 v6 g1 g4 g5 g6 h hGσ hYσ hE hth H locs ls hH hl hc
  have B := K.1
  have hl9 := K.2.2.2.2.2.2
  unfold w_X11_dropOutdone_24 at h
  refine lv_aloadQ B.1 B.2.1 dX11_dropOutdone_24 (lv_at hl 5 rfl) ?_
  obtain ⟨a19, ea19, h⟩ := h
  have ka19 : kO σ a19 0 := g6 a19 ea19
  have h := h ka19
  refine W.eq (g2 := F0 m 26 ls [.ref a19]) (by rw [ea19]; rfl) ?_
  refine f_getp B hH ka19 (by decide) rfl wu_X0 1 (by decide) wf_X11_235 rfl rfl dX11_dropOutdone_26 ?_
  refine lv_astoreQ (lv' := [(7, va_rf (gP σ a19 1)), (0, .ref th), (1, va_rf v1), (2, .long v2), (4, .int (i32 v4)), (5, va_rf v5), (6, va_rf v6)]) B.1 B.2.1 dX11_dropOutdone_29 hl (by decide) (by generalize v6 = w9; cases w9 <;> rfl) (fun ls hl => ?_)
  refine lv_aload_nQ B.1 B.2.1 dX11_dropOutdone_31 rfl (lv_at hl 2 rfl) ?_
  refine lv_aloadQ B.1 B.2.1 dX11_dropOutdone_32 (lv_at hl 6 rfl) ?_
  refine lv_lload_n B.1 B.2.1 dX11_dropOutdone_34 rfl (lv_at hl 3 rfl) ?_
  refine lv_iload B.1 B.2.1 dX11_dropOutdone_35 (lv_at hl 4 rfl) ?_
  refine W.eq (g2 := F0 m 37 ls [.int (i32 v4), .long v2, va_rf v6, va_rf v1]) (rfl) ?_
  refine c_S B hH hl hc K.2.2.1 (As := [va_rf v1, va_rf v6, .long v2, .int (i32 v4)]) (ok_X11_isOutdone hl9 K.2.1 σ v1 v6 v2 v4 g1 g6 g4 hGσ hYσ h) wc_X11_272 4 hd_X11_isOutdone ⟨Nat.le_trans (Nat.le_of_ble_eq_true rfl) K.2.2.2.1, Nat.le_trans (Nat.le_of_ble_eq_true rfl) K.2.2.2.2.1⟩ rfl (rest := []) rfl (Nat.le_of_ble_eq_true rfl) dX11_dropOutdone_37 (fun σ20 w hq => ?_) (fun σ9 E9 hx9 => hX σ9 E9 _ _ _ (tb_out K.2.2.2.2.2.1 rfl) hx9.1 hx9.2.1 hx9.2.2.1 (hE.trans hx9.2.2.2))
  obtain ⟨r21, rfl, ⟨gr21, gzr21⟩, h, hGσ20, hYσ20, xσ20⟩ := hq
  have h := h xσ20
  intro H locs ls hH hl hc
  refine W.eq (g2 := F0 m 40 ls [.int (i32 r21)]) (rfl) ?_
  try dsimp only at h
  refine lv_if_eq (tgt := 53) B.1 B.2.1 dX11_dropOutdone_40 (by decide) (fun h9 => ?_) (fun h9 => ?_)
  · rw [if_pos ((z_eq gr21).mp h9)] at h
    exact a_X11_dropOutdone_53 K hQ hX hTh hK9 _ _ _ _ _ _ (g1.up xσ20) g4 (g6.up xσ20) ((hYσ.get ka19 (by decide)).up xσ20) h hGσ20 hYσ20 (hE.trans xσ20) (hth.up xσ20) _ _ _ hH (lv_sub (l' := [(0, .ref th), (1, va_rf v1), (2, .long v2), (4, .int (i32 v4)), (6, va_rf v6), (7, va_rf (gP σ a19 1))]) hl [1, 2, 3, 4, 6, 0] rfl) hc
  · rw [if_neg (fun q => h9 ((z_eq gr21).mpr q))] at h
    exact a_X11_dropOutdone_43 K hQ hX hTh hK9 _ _ _ _ _ _ (g1.up xσ20) g4 (g5.up xσ20) ((hYσ.get ka19 (by decide)).up xσ20) h hGσ20 hYσ20 (hE.trans xσ20) (hth.up xσ20) _ _ _ hH (lv_sub (l' := [(0, .ref th), (1, va_rf v1), (2, .long v2), (4, .int (i32 v4)), (5, va_rf v5), (7, va_rf (gP σ a19 1))]) hl [1, 2, 3, 4, 5, 0] rfl) hc
set_option maxRecDepth 20000 in
theorem a_X11_dropOutdone_14 {Q : Sg → Unit → Prop} {X : Sg → String → Prop} {th : Nat} (K : MD l R p s m args c cX11_dropOutdone 8 RX11 D cA tys A n0 s0 3 75 []) (hQ : CQV p l e R s m args below meth c cX11_dropOutdone D cA A n0 s0 QM σi Q) (hX : CX p l e R s m args below meth c 8 D cA A n0 s0 QM σi X) (hTh : CT p l e R s m args below meth c cX11_dropOutdone 8 D cA A n0 s0 QM σi RX11 X) {K9 : Sg → Option Nat → Int64 → Int → Option Nat → Option Nat → Prop} (hK9 : ∀ (σ : Sg) (v1 : Option Nat) (v2 : Int64) (v4 : Int) (v5 : Option Nat) (v6 : Option Nat) (g1 : tyV σ 1 v1) (g4 : rng v4) (g5 : tyV σ 0 v5) (g6 : tyV σ 0 v6), K9 σ v1 v2 v4 v5 v6 → RG σ → TY σ → Ext σi σ → kO σ th 11 → JJ p l e R s m args below meth c 8 D cA A n0 s0 QM σ 9 [(0, .ref th), (1, va_rf v1), (2, .long v2), (4, .int (i32 v4)), (5, va_rf v5), (6, va_rf v6)] []) : ∀ (σ : Sg) (v1 : Option Nat) (v2 : Int64) (v4 : Int) (v5 : Option Nat) (v6 : Option Nat) (g1 : tyV σ 1 v1) (g4 : rng v4) (g5 : tyV σ 0 v5) (g6 : tyV σ 0 v6), w_X11_dropOutdone_14 th K9 Q X σ v1 v2 v4 v5 v6 → RG σ → TY σ → Ext σi σ → kO σ th 11 → JJ p l e R s m args below meth c 8 D cA A n0 s0 QM σ 14 [(0, .ref th), (1, va_rf v1), (2, .long v2), (4, .int (i32 v4)), (5, va_rf v5), (6, va_rf v6)] [] := by
  intro σ v1 v2 v4 v5 v6 g1 g4 g5 g6 h hGσ hYσ hE hth H locs ls hH hl hc
  have B := K.1
  have hl9 := K.2.2.2.2.2.2
  unfold w_X11_dropOutdone_14 at h
  refine lv_aloadQ B.1 B.2.1 dX11_dropOutdone_14 (lv_at hl 5 rfl) ?_
  obtain ⟨a22, ea22, h⟩ := h
  have ka22 : kO σ a22 0 := g6 a22 ea22
  have h := h ka22
  refine W.eq (g2 := F0 m 16 ls [.ref a22]) (by rw [ea22]; rfl) ?_
  refine f_getl B hH ka22 (by decide) rfl wu_X0 5 (by decide) wf_X11_85 rfl rfl dX11_dropOutdone_16 ?_
  refine lv_lload_n B.1 B.2.1 dX11_dropOutdone_19 rfl (lv_at hl 2 rfl) ?_
  refine W.lcmp B.1 B.2.1 dX11_dropOutdone_20 ?_
  refine lv_if_gt (tgt := 64) B.1 B.2.1 dX11_dropOutdone_21 (by decide) (fun h9 => ?_) (fun h9 => ?_)
  · rw [if_pos ((lg_cmp_gt _ _).mp h9)] at h
    exact a_X11_dropOutdone_64 K hQ hX hTh _ h hGσ hYσ hE hth _ _ _ hH (lv_sub (l' := [(0, .ref th)]) hl [0] rfl) hc
  · rw [if_neg (fun q => h9 ((lg_cmp_gt _ _).mpr q))] at h
    exact a_X11_dropOutdone_24 K hQ hX hTh hK9 _ _ _ _ _ _ g1 g4 g5 g6 h hGσ hYσ hE hth _ _ _ hH (lv_sub (l' := [(0, .ref th), (1, va_rf v1), (2, .long v2), (4, .int (i32 v4)), (5, va_rf v5), (6, va_rf v6)]) hl [0, 1, 2, 3, 4, 5] rfl) hc
set_option maxRecDepth 20000 in
theorem a_X11_dropOutdone_9 {Q : Sg → Unit → Prop} {X : Sg → String → Prop} {th : Nat} (K : MD l R p s m args c cX11_dropOutdone 8 RX11 D cA tys A n0 s0 3 75 []) (hQ : CQV p l e R s m args below meth c cX11_dropOutdone D cA A n0 s0 QM σi Q) (hX : CX p l e R s m args below meth c 8 D cA A n0 s0 QM σi X) (hTh : CT p l e R s m args below meth c cX11_dropOutdone 8 D cA A n0 s0 QM σi RX11 X) {K9 : Sg → Option Nat → Int64 → Int → Option Nat → Option Nat → Prop} (hK9 : ∀ (σ : Sg) (v1 : Option Nat) (v2 : Int64) (v4 : Int) (v5 : Option Nat) (v6 : Option Nat) (g1 : tyV σ 1 v1) (g4 : rng v4) (g5 : tyV σ 0 v5) (g6 : tyV σ 0 v6), K9 σ v1 v2 v4 v5 v6 → RG σ → TY σ → Ext σi σ → kO σ th 11 → JJ p l e R s m args below meth c 8 D cA A n0 s0 QM σ 9 [(0, .ref th), (1, va_rf v1), (2, .long v2), (4, .int (i32 v4)), (5, va_rf v5), (6, va_rf v6)] []) : ∀ (σ : Sg) (v1 : Option Nat) (v2 : Int64) (v4 : Int) (v5 : Option Nat) (v6 : Option Nat) (g1 : tyV σ 1 v1) (g4 : rng v4) (g5 : tyV σ 0 v5) (g6 : tyV σ 0 v6), w_X11_dropOutdone_9 th K9 Q X σ v1 v2 v4 v5 v6 → RG σ → TY σ → Ext σi σ → kO σ th 11 → JJ p l e R s m args below meth c 8 D cA A n0 s0 QM σ 9 [(0, .ref th), (1, va_rf v1), (2, .long v2), (4, .int (i32 v4)), (5, va_rf v5), (6, va_rf v6)] [] := by
  intro σ v1 v2 v4 v5 v6 g1 g4 g5 g6 h hGσ hYσ hE hth H locs ls hH hl hc
  have B := K.1
  have hl9 := K.2.2.2.2.2.2
  unfold w_X11_dropOutdone_9 at h
  refine lv_aloadQ B.1 B.2.1 dX11_dropOutdone_9 (lv_at hl 5 rfl) ?_
  refine lv_ifnullQ (tgt := 64) B.1 B.2.1 dX11_dropOutdone_11 (by decide) (fun h9 => ?_) (fun h9 => ?_)
  · rw [if_pos (h9)] at h
    exact a_X11_dropOutdone_64 K hQ hX hTh _ h hGσ hYσ hE hth _ _ _ hH (lv_sub (l' := [(0, .ref th)]) hl [0] rfl) hc
  · rw [if_neg (h9)] at h
    exact a_X11_dropOutdone_14 K hQ hX hTh hK9 _ _ _ _ _ _ g1 g4 g5 g6 h hGσ hYσ hE hth _ _ _ hH (lv_sub (l' := [(0, .ref th), (1, va_rf v1), (2, .long v2), (4, .int (i32 v4)), (5, va_rf v5), (6, va_rf v6)]) hl [0, 1, 2, 3, 4, 5] rfl) hc
theorem al_X11_dropOutdone_9 {Q : Sg → Unit → Prop} {X : Sg → String → Prop} {th : Nat} (K : MD l R p s m args c cX11_dropOutdone 8 RX11 D cA tys A n0 s0 3 75 []) (hQ : CQV p l e R s m args below meth c cX11_dropOutdone D cA A n0 s0 QM σi Q) (hX : CX p l e R s m args below meth c 8 D cA A n0 s0 QM σi X) (hTh : CT p l e R s m args below meth c cX11_dropOutdone 8 D cA A n0 s0 QM σi RX11 X) : ∀ (n : Nat), ∀ (σ : Sg) (v1 : Option Nat) (v2 : Int64) (v4 : Int) (v5 : Option Nat) (v6 : Option Nat) (g1 : tyV σ 1 v1) (g4 : rng v4) (g5 : tyV σ 0 v5) (g6 : tyV σ 0 v6), wl_X11_dropOutdone_9 th Q X n σ v1 v2 v4 v5 v6 → RG σ → TY σ → Ext σi σ → kO σ th 11 → JJ p l e R s m args below meth c 8 D cA A n0 s0 QM σ 9 [(0, .ref th), (1, va_rf v1), (2, .long v2), (4, .int (i32 v4)), (5, va_rf v5), (6, va_rf v6)] [] := by
  intro n
  induction n with
  | zero => intro σ v1 v2 v4 v5 v6 g1 g4 g5 g6 h; exact h.elim
  | succ n ih => exact fun σ v1 v2 v4 v5 v6 g1 g4 g5 g6 h => a_X11_dropOutdone_9 K hQ hX hTh ih σ v1 v2 v4 v5 v6 g1 g4 g5 g6 h
set_option maxRecDepth 20000 in
theorem a_X11_dropOutdone_0 {Q : Sg → Unit → Prop} {X : Sg → String → Prop} {th : Nat} (K : MD l R p s m args c cX11_dropOutdone 8 RX11 D cA tys A n0 s0 3 75 []) (hQ : CQV p l e R s m args below meth c cX11_dropOutdone D cA A n0 s0 QM σi Q) (hX : CX p l e R s m args below meth c 8 D cA A n0 s0 QM σi X) (hTh : CT p l e R s m args below meth c cX11_dropOutdone 8 D cA A n0 s0 QM σi RX11 X) : ∀ (σ : Sg) (v1 : Option Nat) (v2 : Int64) (v4 : Int) (g1 : tyV σ 1 v1) (g4 : rng v4), w_X11_dropOutdone_0 th Q X σ v1 v2 v4 → RG σ → TY σ → Ext σi σ → kO σ th 11 → JJ p l e R s m args below meth c 8 D cA A n0 s0 QM σ 0 [(0, .ref th), (1, va_rf v1), (2, .long v2), (4, .int (i32 v4))] [] := by
  intro σ v1 v2 v4 g1 g4 h hGσ hYσ hE hth H locs ls hH hl hc
  have B := K.1
  have hl9 := K.2.2.2.2.2.2
  unfold w_X11_dropOutdone_0 at h
  refine lv_null B.1 B.2.1 dX11_dropOutdone_0 ?_
  refine W.eq (g2 := F0 m 1 ls [va_rf none]) (rfl) ?_
  refine lv_astoreQ (lv' := [(5, va_rf none), (0, .ref th), (1, va_rf v1), (2, .long v2), (4, .int (i32 v4))]) B.1 B.2.1 dX11_dropOutdone_1 hl (by decide) rfl (fun ls hl => ?_)
  refine lv_aload_nQ B.1 B.2.1 dX11_dropOutdone_3 rfl (lv_at hl 2 rfl) ?_
  obtain ⟨a23, ea23, h⟩ := h
  have ka23 : kO σ a23 1 := g1 a23 ea23
  have h := h ka23
  refine W.eq (g2 := F0 m 4 ls [.ref a23]) (by rw [ea23]; rfl) ?_
  refine f_getp B hH ka23 (by decide) rfl wu_X1 0 (by decide) wf_X11_225 rfl rfl dX11_dropOutdone_4 ?_
  refine lv_astoreQ (lv' := [(6, va_rf (gP σ a23 0)), (5, va_rf none), (0, .ref th), (1, va_rf v1), (2, .long v2), (4, .int (i32 v4))]) B.1 B.2.1 dX11_dropOutdone_7 hl (by decide) rfl (fun ls hl => ?_)
  obtain ⟨n9, h⟩ := h
  exact al_X11_dropOutdone_9 K hQ hX hTh n9 _ _ _ _ _ _ g1 g4 (tyn _ _) (hYσ.get ka23 (by decide)) h hGσ hYσ hE hth _ _ _ hH (lv_sub (l' := [(0, .ref th), (1, va_rf v1), (2, .long v2), (4, .int (i32 v4)), (5, va_rf none), (6, va_rf (gP σ a23 0))]) hl [2, 3, 4, 5, 1, 0] rfl) hc
theorem ok_X11_dropOutdone (hl0 : l.stackTraces = false) (hT : TyC cA tys) {Q : Sg → Unit → Prop} {X : Sg → String → Prop} (σ : Sg) (th : Nat) (v1 : Option Nat) (v2 : Int64) (v4 : Int) (g1 : tyV σ 1 v1) (g4 : rng v4) (hth : kO σ th 11) (hG : RG σ) (hY : TY σ) (h : wp_X11_dropOutdone th v1 v2 v4 σ Q X) : Ok l D cA tys A yX11_dropOutdone (.code yX11_dropOutdone cX11_dropOutdone 8 none) 3 75 [.ref th, va_rf v1, .long v2, .int (i32 v4)] σ (QcV σ Q) (QxC σ X) := by
  unfold wp_X11_dropOutdone at h
  exact oc_V hl0 (by decide) (by cases v1 <;> exact Nat.le_of_ble_eq_true rfl) hT (fun p e R s m args below meth c K hQ hX hTh hin9 H locs ls hH hl hc => a_X11_dropOutdone_0 K hQ hX hTh σ v1 v2 v4 g1 g4 h hG hY (Ext.rfl' σ) hth H locs ls hH (lv_sub (l' := [(0, .ref th), (1, va_rf v1), (2, .long v2), (4, .int (i32 v4))]) hl [0, 1, 2, 3] (by cases v1 <;> rfl)) hc)
theorem dX1_takeFirst_0 : decode cX1_takeFirst 0 = .ok (.aload_n 0, 1) := by decide +kernel
theorem dX1_takeFirst_1 : decode cX1_takeFirst 1 = .ok (.getfield 20, 3) := by decide +kernel
theorem dX1_takeFirst_4 : decode cX1_takeFirst 4 = .ok (.ifnonnull 7, 3) := by decide +kernel
theorem dX1_takeFirst_7 : decode cX1_takeFirst 7 = .ok (.aconst_null, 1) := by decide +kernel
theorem dX1_takeFirst_8 : decode cX1_takeFirst 8 = .ok (.goto 8, 3) := by decide +kernel
theorem dX1_takeFirst_11 : decode cX1_takeFirst 11 = .ok (.aload_n 0, 1) := by decide +kernel
theorem dX1_takeFirst_12 : decode cX1_takeFirst 12 = .ok (.aconst_null, 1) := by decide +kernel
theorem dX1_takeFirst_13 : decode cX1_takeFirst 13 = .ok (.invokevirtual 27, 3) := by decide +kernel
theorem dX1_takeFirst_16 : decode cX1_takeFirst 16 = .ok (.areturn, 1) := by decide +kernel
set_option maxRecDepth 20000 in
theorem a_X1_takeFirst_16 {Q : Sg → Option Nat → Prop} {X : Sg → String → Prop} {th : Nat} (K : MD l R p s m args c cX1_takeFirst 1 RX1 D cA tys A n0 s0 1 22 []) (hQ : CQA p l e R s m args below meth c cX1_takeFirst D cA A n0 s0 QM σi 0 Q) (hX : CX p l e R s m args below meth c 1 D cA A n0 s0 QM σi X) (hTh : CT p l e R s m args below meth c cX1_takeFirst 1 D cA A n0 s0 QM σi RX1 X) : ∀ (σ : Sg) (u0 : Option Nat) (gu0 : tyV σ 0 u0), w_X1_takeFirst_16 th Q X σ u0 → RG σ → TY σ → Ext σi σ → kO σ th 1 → JJ p l e R s m args below meth c 1 D cA A n0 s0 QM σ 16 [(0, .ref th)] [va_rf u0] := by
  intro σ u0 gu0 h hGσ hYσ hE hth H locs ls hH hl hc
  have B := K.1
  have hl9 := K.2.2.2.2.2.2
  unfold w_X1_takeFirst_16 at h
  exact hQ _ _ _ _ _ _ gu0 dX1_takeFirst_16 hH hc h hGσ hYσ hE
set_option maxRecDepth 20000 in
theorem a_X1_takeFirst_11 {Q : Sg → Option Nat → Prop} {X : Sg → String → Prop} {th : Nat} (K : MD l R p s m args c cX1_takeFirst 1 RX1 D cA tys A n0 s0 1 22 []) (hQ : CQA p l e R s m args below meth c cX1_takeFirst D cA A n0 s0 QM σi 0 Q) (hX : CX p l e R s m args below meth c 1 D cA A n0 s0 QM σi X) (hTh : CT p l e R s m args below meth c cX1_takeFirst 1 D cA A n0 s0 QM σi RX1 X) : ∀ (σ : Sg), w_X1_takeFirst_11 th Q X σ → RG σ → TY σ → Ext σi σ → kO σ th 1 → JJ p l e R s m args below meth c 1 D cA A n0 s0 QM σ 11 [(0, .ref th)] [] := by
  intro σ h hGσ hYσ hE hth H locs ls hH hl hc
  have B := K.1
  have hl9 := K.2.2.2.2.2.2
  unfold w_X1_takeFirst_11 at h
  refine lv_aload_n B.1 B.2.1 dX1_takeFirst_11 rfl (lv_at hl 0 rfl) ?_
  refine lv_null B.1 B.2.1 dX1_takeFirst_12 ?_
  refine W.eq (g2 := F0 m 13 ls [va_rf none, .ref th]) (rfl) ?_
  refine c_V B hH hl hc K.2.2.1 (C := RX1) (T := TX1) (N := 3) (ci := 1) (As := [va_rf none]) (ok_X1_cutBehind hl9 K.2.1 σ th none (tyn _ _) hth hGσ hYσ h) wc_X1_27 1 hd_X1_cutBehind ⟨Nat.le_trans (Nat.le_of_ble_eq_true rfl) K.2.2.2.1, Nat.le_trans (Nat.le_of_ble_eq_true rfl) K.2.2.2.2.1⟩ hth.1 hth.2 (by decide) rfl rfl (rest := []) rfl (Nat.le_of_ble_eq_true rfl) dX1_takeFirst_13 (fun σ5 w hq => ?_) (fun σ9 E9 hx9 => hX σ9 E9 _ _ _ (tb_out K.2.2.2.2.2.1 rfl) hx9.1 hx9.2.1 hx9.2.2.1 (hE.trans hx9.2.2.2))
  obtain ⟨r6, rfl, tr6, h, hGσ5, hYσ5, xσ5⟩ := hq
  have h := h xσ5 tr6
  intro H locs ls hH hl hc
  refine W.eq (g2 := F0 m 16 ls [va_rf r6]) (rfl) ?_
  try dsimp only at h
  exact a_X1_takeFirst_16 K hQ hX hTh _ _ tr6 h hGσ5 hYσ5 (hE.trans xσ5) (hth.up xσ5) _ _ _ hH (lv_sub (l' := [(0, .ref th)]) hl [0] rfl) hc
set_option maxRecDepth 20000 in
theorem a_X1_takeFirst_7 {Q : Sg → Option Nat → Prop} {X : Sg → String → Prop} {th : Nat} (K : MD l R p s m args c cX1_takeFirst 1 RX1 D cA tys A n0 s0 1 22 []) (hQ : CQA p l e R s m args below meth c cX1_takeFirst D cA A n0 s0 QM σi 0 Q) (hX : CX p l e R s m args below meth c 1 D cA A n0 s0 QM σi X) (hTh : CT p l e R s m args below meth c cX1_takeFirst 1 D cA A n0 s0 QM σi RX1 X) : ∀ (σ : Sg), w_X1_takeFirst_7 th Q X σ → RG σ → TY σ → Ext σi σ → kO σ th 1 → JJ p l e R s m args below meth c 1 D cA A n0 s0 QM σ 7 [(0, .ref th)] [] := by
  intro σ h hGσ hYσ hE hth H locs ls hH hl hc
  have B := K.1
  have hl9 := K.2.2.2.2.2.2
  unfold w_X1_takeFirst_7 at h
  refine lv_null B.1 B.2.1 dX1_takeFirst_7 ?_
  refine lv_goto (tgt := 16) B.1 B.2.1 dX1_takeFirst_8 (by decide) ?_
  exact a_X1_takeFirst_16 K hQ hX hTh _ _ (tyn _ _) h hGσ hYσ hE hth _ _ _ hH (lv_sub (l' := [(0, .ref th)]) hl [0] rfl) hc
set_option maxRecDepth 20000 in
theorem a_X1_takeFirst_0 {Q : Sg → Option Nat → Prop} {X : Sg → String → Prop} {th : Nat} (K : MD l R p s m args c cX1_takeFirst 1 RX1 D cA tys A n0 s0 1 22 []) (hQ : CQA p l e R s m args below meth c cX1_takeFirst D cA A n0 s0 QM σi 0 Q) (hX : CX p l e R s m args below meth c 1 D cA A n0 s0 QM σi X) (hTh : CT p l e R s m args below meth c cX1_takeFirst 1 D cA A n0 s0 QM σi RX1 X) : ∀ (σ : Sg), w_X1_takeFirst_0 th Q X σ → RG σ → TY σ → Ext σi σ → kO σ th 1 → JJ p l e R s m args below meth c 1 D cA A n0 s0 QM σ 0 [(0, .ref th)] [] := by
  intro σ h hGσ hYσ hE hth H locs ls hH hl hc
  have B := K.1
  have hl9 := K.2.2.2.2.2.2
  unfold w_X1_takeFirst_0 at h
  refine lv_aload_n B.1 B.2.1 dX1_takeFirst_0 rfl (lv_at hl 0 rfl) ?_
  refine f_getp B hH hth (by decide) rfl wu_X1 0 (by decide) wf_X1_20 rfl rfl dX1_takeFirst_1 ?_
  refine lv_ifnonnullQ (tgt := 11) B.1 B.2.1 dX1_takeFirst_4 (by decide) (fun h9 => ?_) (fun h9 => ?_)
  · rw [if_pos (h9)] at h
    exact a_X1_takeFirst_11 K hQ hX hTh _ h hGσ hYσ hE hth _ _ _ hH (lv_sub (l' := [(0, .ref th)]) hl [0] rfl) hc
  · rw [if_neg (h9)] at h
    exact a_X1_takeFirst_7 K hQ hX hTh _ h hGσ hYσ hE hth _ _ _ hH (lv_sub (l' := [(0, .ref th)]) hl [0] rfl) hc
theorem ok_X1_takeFirst (hl0 : l.stackTraces = false) (hT : TyC cA tys) {Q : Sg → Option Nat → Prop} {X : Sg → String → Prop} (σ : Sg) (th : Nat) (hth : kO σ th 1) (hG : RG σ) (hY : TY σ) (h : wp_X1_takeFirst th σ Q X) : Ok l D cA tys A yX1_takeFirst (.code yX1_takeFirst cX1_takeFirst 1 (some (.object "StreamHouse$Cell"))) 1 22 [.ref th] σ (QcA σ 0 Q) (QxC σ X) := by
  unfold wp_X1_takeFirst at h
  exact oc_A hl0 (by decide) (by exact Nat.le_of_ble_eq_true rfl) hT (fun p e R s m args below meth c K hQ hX hTh H locs ls hH hl hc => a_X1_takeFirst_0 K hQ hX hTh σ h hG hY (Ext.rfl' σ) hth H locs ls hH (lv_sub (l' := [(0, .ref th)]) hl [0] rfl) hc)
theorem dX11_lookUpTo_0 : decode cX11_lookUpTo 0 = .ok (.aload_n 0, 1) := by decide +kernel
theorem dX11_lookUpTo_1 : decode cX11_lookUpTo 1 = .ok (.getfield 136, 3) := by decide +kernel
theorem dX11_lookUpTo_4 : decode cX11_lookUpTo 4 = .ok (.getfield 140, 3) := by decide +kernel
theorem dX11_lookUpTo_7 : decode cX11_lookUpTo 7 = .ok (.aload_n 1, 1) := by decide +kernel
theorem dX11_lookUpTo_8 : decode cX11_lookUpTo 8 = .ok (.getfield 146, 3) := by decide +kernel
theorem dX11_lookUpTo_11 : decode cX11_lookUpTo 11 = .ok (.aaload, 1) := by decide +kernel
theorem dX11_lookUpTo_12 : decode cX11_lookUpTo 12 = .ok (.getfield 152, 3) := by decide +kernel
theorem dX11_lookUpTo_15 : decode cX11_lookUpTo 15 = .ok (.istore 5, 2) := by decide +kernel
theorem dX11_lookUpTo_17 : decode cX11_lookUpTo 17 = .ok (.aload_n 2, 1) := by decide +kernel
theorem dX11_lookUpTo_18 : decode cX11_lookUpTo 18 = .ok (.getfield 105, 3) := by decide +kernel
theorem dX11_lookUpTo_21 : decode cX11_lookUpTo 21 = .ok (.getfield 225, 3) := by decide +kernel
theorem dX11_lookUpTo_24 : decode cX11_lookUpTo 24 = .ok (.astore 6, 2) := by decide +kernel
theorem dX11_lookUpTo_26 : decode cX11_lookUpTo 26 = .ok (.aload 6, 2) := by decide +kernel
theorem dX11_lookUpTo_28 : decode cX11_lookUpTo 28 = .ok (.ifnull 148, 3) := by decide +kernel
theorem dX11_lookUpTo_31 : decode cX11_lookUpTo 31 = .ok (.aload 6, 2) := by decide +kernel
theorem dX11_lookUpTo_33 : decode cX11_lookUpTo 33 = .ok (.getfield 85, 3) := by decide +kernel
theorem dX11_lookUpTo_36 : decode cX11_lookUpTo 36 = .ok (.lload_n 3, 1) := by decide +kernel
theorem dX11_lookUpTo_37 : decode cX11_lookUpTo 37 = .ok (.lcmp, 1) := by decide +kernel
theorem dX11_lookUpTo_38 : decode cX11_lookUpTo 38 = .ok (.ifCond .gt 138, 3) := by decide +kernel
theorem dX11_lookUpTo_41 : decode cX11_lookUpTo 41 = .ok (.aload_n 2, 1) := by decide +kernel
theorem dX11_lookUpTo_42 : decode cX11_lookUpTo 42 = .ok (.getfield 105, 3) := by decide +kernel
theorem dX11_lookUpTo_45 : decode cX11_lookUpTo 45 = .ok (.invokevirtual 261, 3) := by decide +kernel
theorem dX11_lookUpTo_48 : decode cX11_lookUpTo 48 = .ok (.pop, 1) := by decide +kernel
theorem dX11_lookUpTo_49 : decode cX11_lookUpTo 49 = .ok (.aload_n 0, 1) := by decide +kernel
theorem dX11_lookUpTo_50 : decode cX11_lookUpTo 50 = .ok (.dup, 1) := by decide +kernel
theorem dX11_lookUpTo_51 : decode cX11_lookUpTo 51 = .ok (.getfield 165, 3) := by decide +kernel
theorem dX11_lookUpTo_54 : decode cX11_lookUpTo 54 = .ok (.iconst 1, 1) := by decide +kernel
theorem dX11_lookUpTo_55 : decode cX11_lookUpTo 55 = .ok (.isub, 1) := by decide +kernel
theorem dX11_lookUpTo_56 : decode cX11_lookUpTo 56 = .ok (.putfield 165, 3) := by decide +kernel
theorem dX11_lookUpTo_59 : decode cX11_lookUpTo 59 = .ok (.aconst_null, 1) := by decide +kernel
theorem dX11_lookUpTo_60 : decode cX11_lookUpTo 60 = .ok (.astore 7, 2) := by decide +kernel
theorem dX11_lookUpTo_62 : decode cX11_lookUpTo 62 = .ok (.aload_n 2, 1) := by decide +kernel
theorem dX11_lookUpTo_63 : decode cX11_lookUpTo 63 = .ok (.getfield 117, 3) := by decide +kernel
theorem dX11_lookUpTo_66 : decode cX11_lookUpTo 66 = .ok (.getfield 225, 3) := by decide +kernel
theorem dX11_lookUpTo_69 : decode cX11_lookUpTo 69 = .ok (.astore 8, 2) := by decide +kernel
theorem dX11_lookUpTo_71 : decode cX11_lookUpTo 71 = .ok (.aload 8, 2) := by decide +kernel
theorem dX11_lookUpTo_73 : decode cX11_lookUpTo 73 = .ok (.ifnull 63, 3) := by decide +kernel
theorem dX11_lookUpTo_76 : decode cX11_lookUpTo 76 = .ok (.aload 8, 2) := by decide +kernel
theorem dX11_lookUpTo_78 : decode cX11_lookUpTo 78 = .ok (.getfield 85, 3) := by decide +kernel
theorem dX11_lookUpTo_81 : decode cX11_lookUpTo 81 = .ok (.aload 6, 2) := by decide +kernel
theorem dX11_lookUpTo_83 : decode cX11_lookUpTo 83 = .ok (.getfield 85, 3) := by decide +kernel
theorem dX11_lookUpTo_86 : decode cX11_lookUpTo 86 = .ok (.lcmp, 1) := by decide +kernel
theorem dX11_lookUpTo_87 : decode cX11_lookUpTo 87 = .ok (.ifCond .gt 49, 3) := by decide +kernel
theorem dX11_lookUpTo_90 : decode cX11_lookUpTo 90 = .ok (.aload 8, 2) := by decide +kernel
theorem dX11_lookUpTo_92 : decode cX11_lookUpTo 92 = .ok (.getfield 72, 3) := by decide +kernel
theorem dX11_lookUpTo_95 : decode cX11_lookUpTo 95 = .ok (.aload 6, 2) := by decide +kernel
theorem dX11_lookUpTo_97 : decode cX11_lookUpTo 97 = .ok (.getfield 72, 3) := by decide +kernel
theorem dX11_lookUpTo_100 : decode cX11_lookUpTo 100 = .ok (.lcmp, 1) := by decide +kernel
theorem dX11_lookUpTo_101 : decode cX11_lookUpTo 101 = .ok (.ifCond .ne 25, 3) := by decide +kernel
theorem dX11_lookUpTo_104 : decode cX11_lookUpTo 104 = .ok (.aload 7, 2) := by decide +kernel
theorem dX11_lookUpTo_106 : decode cX11_lookUpTo 106 = .ok (.ifnull 16, 3) := by decide +kernel
theorem dX11_lookUpTo_109 : decode cX11_lookUpTo 109 = .ok (.aload 8, 2) := by decide +kernel
theorem dX11_lookUpTo_111 : decode cX11_lookUpTo 111 = .ok (.aload 7, 2) := by decide +kernel
theorem dX11_lookUpTo_113 : decode cX11_lookUpTo 113 = .ok (.iconst 1, 1) := by decide +kernel
theorem dX11_lookUpTo_114 : decode cX11_lookUpTo 114 = .ok (.iload 5, 2) := by decide +kernel
theorem dX11_lookUpTo_116 : decode cX11_lookUpTo 116 = .ok (.invokestatic 264, 3) := by decide +kernel
theorem dX11_lookUpTo_119 : decode cX11_lookUpTo 119 = .ok (.ifCond .le 7, 3) := by decide +kernel
theorem dX11_lookUpTo_122 : decode cX11_lookUpTo 122 = .ok (.aload 8, 2) := by decide +kernel
theorem dX11_lookUpTo_124 : decode cX11_lookUpTo 124 = .ok (.astore 7, 2) := by decide +kernel
theorem dX11_lookUpTo_126 : decode cX11_lookUpTo 126 = .ok (.aload 8, 2) := by decide +kernel
theorem dX11_lookUpTo_128 : decode cX11_lookUpTo 128 = .ok (.getfield 235, 3) := by decide +kernel
theorem dX11_lookUpTo_131 : decode cX11_lookUpTo 131 = .ok (.astore 8, 2) := by decide +kernel
theorem dX11_lookUpTo_133 : decode cX11_lookUpTo 133 = .ok (.goto (-62), 3) := by decide +kernel
theorem dX11_lookUpTo_136 : decode cX11_lookUpTo 136 = .ok (.aload 7, 2) := by decide +kernel
theorem dX11_lookUpTo_138 : decode cX11_lookUpTo 138 = .ok (.ifnull 17, 3) := by decide +kernel
theorem dX11_lookUpTo_141 : decode cX11_lookUpTo 141 = .ok (.aload_n 0, 1) := by decide +kernel
theorem dX11_lookUpTo_142 : decode cX11_lookUpTo 142 = .ok (.aload_n 1, 1) := by decide +kernel
theorem dX11_lookUpTo_143 : decode cX11_lookUpTo 143 = .ok (.aload 6, 2) := by decide +kernel
theorem dX11_lookUpTo_145 : decode cX11_lookUpTo 145 = .ok (.aload 7, 2) := by decide +kernel
theorem dX11_lookUpTo_147 : decode cX11_lookUpTo 147 = .ok (.aload 6, 2) := by decide +kernel
theorem dX11_lookUpTo_149 : decode cX11_lookUpTo 149 = .ok (.getfield 85, 3) := by decide +kernel
theorem dX11_lookUpTo_152 : decode cX11_lookUpTo 152 = .ok (.invokevirtual 253, 3) := by decide +kernel
theorem dX11_lookUpTo_155 : decode cX11_lookUpTo 155 = .ok (.aload_n 0, 1) := by decide +kernel
theorem dX11_lookUpTo_156 : decode cX11_lookUpTo 156 = .ok (.getfield 22, 3) := by decide +kernel
theorem dX11_lookUpTo_159 : decode cX11_lookUpTo 159 = .ok (.aload 6, 2) := by decide +kernel
theorem dX11_lookUpTo_161 : decode cX11_lookUpTo 161 = .ok (.invokevirtual 174, 3) := by decide +kernel
theorem dX11_lookUpTo_164 : decode cX11_lookUpTo 164 = .ok (.aload_n 2, 1) := by decide +kernel
theorem dX11_lookUpTo_165 : decode cX11_lookUpTo 165 = .ok (.getfield 105, 3) := by decide +kernel
theorem dX11_lookUpTo_168 : decode cX11_lookUpTo 168 = .ok (.getfield 225, 3) := by decide +kernel
theorem dX11_lookUpTo_171 : decode cX11_lookUpTo 171 = .ok (.astore 6, 2) := by decide +kernel
theorem dX11_lookUpTo_173 : decode cX11_lookUpTo 173 = .ok (.goto (-147), 3) := by decide +kernel
theorem dX11_lookUpTo_176 : decode cX11_lookUpTo 176 = .ok (.aload_n 0, 1) := by decide +kernel
theorem dX11_lookUpTo_177 : decode cX11_lookUpTo 177 = .ok (.aload_n 2, 1) := by decide +kernel
theorem dX11_lookUpTo_178 : decode cX11_lookUpTo 178 = .ok (.getfield 117, 3) := by decide +kernel
theorem dX11_lookUpTo_181 : decode cX11_lookUpTo 181 = .ok (.lload_n 3, 1) := by decide +kernel
theorem dX11_lookUpTo_182 : decode cX11_lookUpTo 182 = .ok (.iload 5, 2) := by decide +kernel
theorem dX11_lookUpTo_184 : decode cX11_lookUpTo 184 = .ok (.invokevirtual 268, 3) := by decide +kernel
theorem dX11_lookUpTo_187 : decode cX11_lookUpTo 187 = .ok (.return_, 1) := by decide +kernel
set_option maxRecDepth 20000 in
theorem a_X11_lookUpTo_176 {Q : Sg → Unit → Prop} {X : Sg → String → Prop} {th : Nat} (K : MD l R p s m args c cX11_lookUpTo 9 RX11 D cA tys A n0 s0 9 164 []) (hQ : CQV p l e R s m args below meth c cX11_lookUpTo D cA A n0 s0 QM σi Q) (hX : CX p l e R s m args below meth c 9 D cA A n0 s0 QM σi X) (hTh : CT p l e R s m args below meth c cX11_lookUpTo 9 D cA A n0 s0 QM σi RX11 X) : ∀ (σ : Sg) (v2 : Option Nat) (v3 : Int64) (v5 : Int) (g2 : tyV σ 10 v2) (g5 : rng v5), w_X11_lookUpTo_176 th Q X σ v2 v3 v5 → RG σ → TY σ → Ext σi σ → kO σ th 11 → JJ p l e R s m args below meth c 9 D cA A n0 s0 QM σ 176 [(0, .ref th), (2, va_rf v2), (3, .long v3), (5, .int (i32 v5))] [] := by
  intro σ v2 v3 v5 g2 g5 h hGσ hYσ hE hth H locs ls hH hl hc
  have B := K.1
  have hl9 := K.2.2.2.2.2.2
  unfold w_X11_lookUpTo_176 at h
  refine lv_aload_n B.1 B.2.1 dX11_lookUpTo_176 rfl (lv_at hl 0 rfl) ?_
  refine lv_aload_nQ B.1 B.2.1 dX11_lookUpTo_177 rfl (lv_at hl 1 rfl) ?_
  obtain ⟨a63, ea63, h⟩ := h
  have ka63 : kO σ a63 10 := g2 a63 ea63
  have h := h ka63
  refine W.eq (g2 := F0 m 178 ls [.ref a63, .ref th]) (by rw [ea63]; rfl) ?_
  refine f_getp B hH ka63 (by decide) rfl wu_X10 3 (by decide) wf_X11_117 rfl rfl dX11_lookUpTo_178 ?_
  refine lv_lload_n B.1 B.2.1 dX11_lookUpTo_181 rfl (lv_at hl 2 rfl) ?_
  refine lv_iload B.1 B.2.1 dX11_lookUpTo_182 (lv_at hl 3 rfl) ?_
  refine W.eq (g2 := F0 m 184 ls [.int (i32 v5), .long v3, va_rf (gP σ a63 3), .ref th]) (rfl) ?_
  refine c_V B hH hl hc K.2.2.1 (C := RX11) (T := TX11) (N := 6) (ci := 11) (As := [va_rf (gP σ a63 3), .long v3, .int (i32 v5)]) (ok_X11_dropOutdone hl9 K.2.1 σ th (gP σ a63 3) v3 v5 (hYσ.get ka63 (by decide)) g5 hth hGσ hYσ h) wc_X11_268 3 hd_X11_dropOutdone ⟨Nat.le_trans (Nat.le_of_ble_eq_true rfl) K.2.2.2.1, Nat.le_trans (Nat.le_of_ble_eq_true rfl) K.2.2.2.2.1⟩ hth.1 hth.2 (by decide) rfl rfl (rest := []) rfl (Nat.le_of_ble_eq_true rfl) dX11_lookUpTo_184 (fun σ64 w hq => ?_) (fun σ9 E9 hx9 => hX σ9 E9 _ _ _ (tb_out K.2.2.2.2.2.1 rfl) hx9.1 hx9.2.1 hx9.2.2.1 (hE.trans hx9.2.2.2))
  obtain ⟨rfl, h, hGσ64, hYσ64, xσ64⟩ := hq
  have h := h xσ64
  intro H locs ls hH hl hc
  refine W.eq (g2 := F0 m 187 ls []) (rfl) ?_
  try dsimp only at h
  exact hQ _ _ _ _ _ dX11_lookUpTo_187 hH hc h hGσ64 hYσ64 (hE.trans xσ64)
set_option maxRecDepth 20000 in
theorem a_X11_lookUpTo_155 {Q : Sg → Unit → Prop} {X : Sg → String → Prop} {th : Nat} (K : MD l R p s m args c cX11_lookUpTo 9 RX11 D cA tys A n0 s0 9 164 []) (hQ : CQV p l e R s m args below meth c cX11_lookUpTo D cA A n0 s0 QM σi Q) (hX : CX p l e R s m args below meth c 9 D cA A n0 s0 QM σi X) (hTh : CT p l e R s m args below meth c cX11_lookUpTo 9 D cA A n0 s0 QM σi RX11 X) {K26 : Sg → Option Nat → Option Nat → Int64 → Int → Option Nat → Prop} (hK26 : ∀ (σ : Sg) (v1 : Option Nat) (v2 : Option Nat) (v3 : Int64) (v5 : Int) (v6 : Option Nat) (g1 : tyV σ 5 v1) (g2 : tyV σ 10 v2) (g5 : rng v5) (g6 : tyV σ 0 v6), K26 σ v1 v2 v3 v5 v6 → RG σ → TY σ → Ext σi σ → kO σ th 11 → JJ p l e R s m args below meth c 9 D cA A n0 s0 QM σ 26 [(0, .ref th), (1, va_rf v1), (2, va_rf v2), (3, .long v3), (5, .int (i32 v5)), (6, va_rf v6)] []) : ∀ (σ : Sg) (v1 : Option Nat) (v2 : Option Nat) (v3 : Int64) (v5 : Int) (v6 : Option Nat) (g1 : tyV σ 5 v1) (g2 : tyV σ 10 v2) (g5 : rng v5) (g6 : tyV σ 0 v6), w_X11_lookUpTo_155 th K26 Q X σ v1 v2 v3 v5 v6 → RG σ → TY σ → Ext σi σ → kO σ th 11 → JJ p l e R s m args below meth c 9 D cA A n0 s0 QM σ 155 [(0, .ref th), (1, va_rf v1), (2, va_rf v2), (3, .long v3), (5, .int (i32 v5)), (6, va_rf v6)] [] := by
  intro σ v1 v2 v3 v5 v6 g1 g2 g5 g6 h hGσ hYσ hE hth H locs ls hH hl hc
  have B := K.1
  have hl9 := K.2.2.2.2.2.2
  unfold w_X11_lookUpTo_155 at h
  refine lv_aload_n B.1 B.2.1 dX11_lookUpTo_155 rfl (lv_at hl 0 rfl) ?_
  refine f_getp B hH hth (by decide) rfl wu_X11 0 (by decide) wf_X11_22 rfl rfl dX11_lookUpTo_156 ?_
  refine lv_aloadQ B.1 B.2.1 dX11_lookUpTo_159 (lv_at hl 5 rfl) ?_
  obtain ⟨a66, ea66, h⟩ := h
  have ka66 : kO σ a66 8 := (hYσ.get hth (by decide)) a66 ea66
  have h := h ka66
  refine W.eq (g2 := F0 m 161 ls [va_rf v6, .ref a66]) (by rw [ea66]; rfl) ?_
  refine c_V B hH hl hc K.2.2.1 (C := RX8) (T := TX8) (N := 3) (ci := 8) (As := [va_rf v6]) (ok_X8_release hl9 K.2.1 σ a66 v6 g6 ka66 hGσ hYσ h) wc_X11_174 1 hd_X8_release ⟨Nat.le_trans (Nat.le_of_ble_eq_true rfl) K.2.2.2.1, Nat.le_trans (Nat.le_of_ble_eq_true rfl) K.2.2.2.2.1⟩ ka66.1 ka66.2 (by decide) rfl rfl (rest := []) rfl (Nat.le_of_ble_eq_true rfl) dX11_lookUpTo_161 (fun σ65 w hq => ?_) (fun σ9 E9 hx9 => hX σ9 E9 _ _ _ (tb_out K.2.2.2.2.2.1 rfl) hx9.1 hx9.2.1 hx9.2.2.1 (hE.trans hx9.2.2.2))
  obtain ⟨rfl, h, hGσ65, hYσ65, xσ65⟩ := hq
  have h := h xσ65
  intro H locs ls hH hl hc
  refine W.eq (g2 := F0 m 164 ls []) (rfl) ?_
  try dsimp only at h
  refine lv_aload_nQ B.1 B.2.1 dX11_lookUpTo_164 rfl (lv_at hl 2 rfl) ?_
  obtain ⟨a67, ea67, h⟩ := h
  have ka67 : kO σ65 a67 10 := (g2.up xσ65) a67 ea67
  have h := h ka67
  refine W.eq (g2 := F0 m 165 ls [.ref a67]) (by rw [ea67]; rfl) ?_
  refine f_getp B hH ka67 (by decide) rfl wu_X10 2 (by decide) wf_X11_105 rfl rfl dX11_lookUpTo_165 ?_
  obtain ⟨a68, ea68, h⟩ := h
  have ka68 : kO σ65 a68 1 := (hYσ65.get ka67 (by decide)) a68 ea68
  have h := h ka68
  refine W.eq (g2 := F0 m 168 ls [.ref a68]) (by rw [ea68]; rfl) ?_
  refine f_getp B hH ka68 (by decide) rfl wu_X1 0 (by decide) wf_X11_225 rfl rfl dX11_lookUpTo_168 ?_
  refine lv_astoreQ (lv' := [(6, va_rf (gP σ65 a68 0)), (0, .ref th), (1, va_rf v1), (2, va_rf v2), (3, .long v3), (5, .int (i32 v5))]) B.1 B.2.1 dX11_lookUpTo_171 hl (by decide) rfl (fun ls hl => ?_)
  refine lv_goto (tgt := 26) B.1 B.2.1 dX11_lookUpTo_173 (by decide) ?_
  exact hK26 _ _ _ _ _ _ (g1.up xσ65) (g2.up xσ65) g5 (hYσ65.get ka68 (by decide)) h hGσ65 hYσ65 (hE.trans xσ65) (hth.up xσ65) _ _ _ hH (lv_sub (l' := [(0, .ref th), (1, va_rf v1), (2, va_rf v2), (3, .long v3), (5, .int (i32 v5)), (6, va_rf (gP σ65 a68 0))]) hl [1, 2, 3, 4, 5, 0] rfl) hc
set_option maxRecDepth 20000 in
theorem a_X11_lookUpTo_141 {Q : Sg → Unit → Prop} {X : Sg → String → Prop} {th : Nat} (K : MD l R p s m args c cX11_lookUpTo 9 RX11 D cA tys A n0 s0 9 164 []) (hQ : CQV p l e R s m args below meth c cX11_lookUpTo D cA A n0 s0 QM σi Q) (hX : CX p l e R s m args below meth c 9 D cA A n0 s0 QM σi X) (hTh : CT p l e R s m args below meth c cX11_lookUpTo 9 D cA A n0 s0 QM σi RX11 X) {K26 : Sg → Option Nat → Option Nat → Int64 → Int → Option Nat → Prop} (hK26 : ∀ (σ : Sg) (v1 : Option Nat) (v2 : Option Nat) (v3 : Int64) (v5 : Int) (v6 : Option Nat) (g1 : tyV σ 5 v1) (g2 : tyV σ 10 v2) (g5 : rng v5) (g6 : tyV σ 0 v6), K26 σ v1 v2 v3 v5 v6 → RG σ → TY σ → Ext σi σ → kO σ th 11 → JJ p l e R s m args below meth c 9 D cA A n0 s0 QM σ 26 [(0, .ref th), (1, va_rf v1), (2, va_rf v2), (3, .long v3), (5, .int (i32 v5)), (6, va_rf v6)] []) : ∀ (σ : Sg) (v1 : Option Nat) (v2 : Option Nat) (v3 : Int64) (v5 : Int) (v6 : Option Nat) (v7 : Option Nat) (g1 : tyV σ 5 v1) (g2 : tyV σ 10 v2) (g5 : rng v5) (g6 : tyV σ 0 v6) (g7 : tyV σ 0 v7), w_X11_lookUpTo_141 th K26 Q X σ v1 v2 v3 v5 v6 v7 → RG σ → TY σ → Ext σi σ → kO σ th 11 → JJ p l e R s m args below meth c 9 D cA A n0 s0 QM σ 141 [(0, .ref th), (1, va_rf v1), (2, va_rf v2), (3, .long v3), (5, .int (i32 v5)), (6, va_rf v6), (7, va_rf v7)] [] := by
  intro σ v1 v2 v3 v5 v6 v7 g1 g2 g5 g6 g7 h hGσ hYσ hE hth H locs ls hH hl hc
  have B := K.1
  have hl9 := K.2.2.2.2.2.2
  unfold w_X11_lookUpTo_141 at h
  refine lv_aload_n B.1 B.2.1 dX11_lookUpTo_141 rfl (lv_at hl 0 rfl) ?_
  refine lv_aload_nQ B.1 B.2.1 dX11_lookUpTo_142 rfl (lv_at hl 1 rfl) ?_
  refine lv_aloadQ B.1 B.2.1 dX11_lookUpTo_143 (lv_at hl 5 rfl) ?_
  refine lv_aloadQ B.1 B.2.1 dX11_lookUpTo_145 (lv_at hl 6 rfl) ?_
  refine lv_aloadQ B.1 B.2.1 dX11_lookUpTo_147 (lv_at hl 5 rfl) ?_
  obtain ⟨a69, ea69, h⟩ := h
  have ka69 : kO σ a69 0 := g6 a69 ea69
  have h := h ka69
  refine W.eq (g2 := F0 m 149 ls [.ref a69, va_rf v7, va_rf v6, va_rf v1, .ref th]) (by rw [ea69]; rfl) ?_
  refine f_getl B hH ka69 (by decide) rfl wu_X0 5 (by decide) wf_X11_85 rfl rfl dX11_lookUpTo_149 ?_
  refine W.eq (g2 := F0 m 152 ls [.long (gJ σ a69 5), va_rf v7, va_rf v6, va_rf v1, .ref th]) (rfl) ?_
  refine c_V B hH hl hc K.2.2.1 (C := RX11) (T := TX11) (N := 6) (ci := 11) (As := [va_rf v1, va_rf v6, va_rf v7, .long (gJ σ a69 5)]) (ok_X11_addPair hl9 K.2.1 σ th v1 v6 v7 (gJ σ a69 5) g1 g6 g7 hth hGσ hYσ h) wc_X11_253 4 hd_X11_addPair ⟨Nat.le_trans (Nat.le_of_ble_eq_true rfl) K.2.2.2.1, Nat.le_trans (Nat.le_of_ble_eq_true rfl) K.2.2.2.2.1⟩ hth.1 hth.2 (by decide) rfl rfl (rest := []) rfl (Nat.le_of_ble_eq_true rfl) dX11_lookUpTo_152 (fun σ70 w hq => ?_) (fun σ9 E9 hx9 => hX σ9 E9 _ _ _ (tb_out K.2.2.2.2.2.1 rfl) hx9.1 hx9.2.1 hx9.2.2.1 (hE.trans hx9.2.2.2))
  obtain ⟨rfl, h, hGσ70, hYσ70, xσ70⟩ := hq
  have h := h xσ70
  intro H locs ls hH hl hc
  refine W.eq (g2 := F0 m 155 ls []) (rfl) ?_
  try dsimp only at h
  exact a_X11_lookUpTo_155 K hQ hX hTh hK26 _ _ _ _ _ _ (g1.up xσ70) (g2.up xσ70) g5 (g6.up xσ70) h hGσ70 hYσ70 (hE.trans xσ70) (hth.up xσ70) _ _ _ hH (lv_sub (l' := [(0, .ref th), (1, va_rf v1), (2, va_rf v2), (3, .long v3), (5, .int (i32 v5)), (6, va_rf v6)]) hl [0, 1, 2, 3, 4, 5] rfl) hc
set_option maxRecDepth 20000 in
theorem a_X11_lookUpTo_136 {Q : Sg → Unit → Prop} {X : Sg → String → Prop} {th : Nat} (K : MD l R p s m args c cX11_lookUpTo 9 RX11 D cA tys A n0 s0 9 164 []) (hQ : CQV p l e R s m args below meth c cX11_lookUpTo D cA A n0 s0 QM σi Q) (hX : CX p l e R s m args below meth c 9 D cA A n0 s0 QM σi X) (hTh : CT p l e R s m args below meth c cX11_lookUpTo 9 D cA A n0 s0 QM σi RX11 X) {K26 : Sg → Option Nat → Option Nat → Int64 → Int → Option Nat → Prop} (hK26 : ∀ (σ : Sg) (v1 : Option Nat) (v2 : Option Nat) (v3 : Int64) (v5 : Int) (v6 : Option Nat) (g1 : tyV σ 5 v1) (g2 : tyV σ 10 v2) (g5 : rng v5) (g6 : tyV σ 0 v6), K26 σ v1 v2 v3 v5 v6 → RG σ → TY σ → Ext σi σ → kO σ th 11 → JJ p l e R s m args below meth c 9 D cA A n0 s0 QM σ 26 [(0, .ref th), (1, va_rf v1), (2, va_rf v2), (3, .long v3), (5, .int (i32 v5)), (6, va_rf v6)] []) : ∀ (σ : Sg) (v1 : Option Nat) (v2 : Option Nat) (v3 : Int64) (v5 : Int) (v6 : Option Nat) (v7 : Option Nat) (g1 : tyV σ 5 v1) (g2 : tyV σ 10 v2) (g5 : rng v5) (g6 : tyV σ 0 v6) (g7 : tyV σ 0 v7), w_X11_lookUpTo_136 th K26 Q X σ v1 v2 v3 v5 v6 v7 → RG σ → TY σ → Ext σi σ → kO σ th 11 → JJ p l e R s m args below meth c 9 D cA A n0 s0 QM σ 136 [(0, .ref th), (1, va_rf v1), (2, va_rf v2), (3, .long v3), (5, .int (i32 v5)), (6, va_rf v6), (7, va_rf v7)] [] := by
  intro σ v1 v2 v3 v5 v6 v7 g1 g2 g5 g6 g7 h hGσ hYσ hE hth H locs ls hH hl hc
  have B := K.1
  have hl9 := K.2.2.2.2.2.2
  unfold w_X11_lookUpTo_136 at h
  refine lv_aloadQ B.1 B.2.1 dX11_lookUpTo_136 (lv_at hl 6 rfl) ?_
  refine lv_ifnullQ (tgt := 155) B.1 B.2.1 dX11_lookUpTo_138 (by decide) (fun h9 => ?_) (fun h9 => ?_)
  · rw [if_pos (h9)] at h
    exact a_X11_lookUpTo_155 K hQ hX hTh hK26 _ _ _ _ _ _ g1 g2 g5 g6 h hGσ hYσ hE hth _ _ _ hH (lv_sub (l' := [(0, .ref th), (1, va_rf v1), (2, va_rf v2), (3, .long v3), (5, .int (i32 v5)), (6, va_rf v6)]) hl [0, 1, 2, 3, 4, 5] rfl) hc
  · rw [if_neg (h9)] at h
    exact a_X11_lookUpTo_141 K hQ hX hTh hK26 _ _ _ _ _ _ _ g1 g2 g5 g6 g7 h hGσ hYσ hE hth _ _ _ hH (lv_sub (l' := [(0, .ref th), (1, va_rf v1), (2, va_rf v2), (3, .long v3), (5, .int (i32 v5)), (6, va_rf v6), (7, va_rf v7)]) hl [0, 1, 2, 3, 4, 5, 6] rfl) hc
set_option maxRecDepth 20000 in
theorem a_X11_lookUpTo_126 {Q : Sg → Unit → Prop} {X : Sg → String → Prop} {th : Nat} (K : MD l R p s m args c cX11_lookUpTo 9 RX11 D cA tys A n0 s0 9 164 []) (hQ : CQV p l e R s m args below meth c cX11_lookUpTo D cA A n0 s0 QM σi Q) (hX : CX p l e R s m args below meth c 9 D cA A n0 s0 QM σi X) (hTh : CT p l e R s m args below meth c cX11_lookUpTo 9 D cA A n0 s0 QM σi RX11 X) {K26 : Sg → Option Nat → Option Nat → Int64 → Int → Option Nat → Prop} (hK26 : ∀ (σ : Sg) (v1 : Option Nat) (v2 : Option Nat) (v3 : Int64) (v5 : Int) (v6 : Option Nat) (g1 : tyV σ 5 v1) (g2 : tyV σ 10 v2) (g5 : rng v5) (g6 : tyV σ 0 v6), K26 σ v1 v2 v3 v5 v6 → RG σ → TY σ → Ext σi σ → kO σ th 11 → JJ p l e R s m args below meth c 9 D cA A n0 s0 QM σ 26 [(0, .ref th), (1, va_rf v1), (2, va_rf v2), (3, .long v3), (5, .int (i32 v5)), (6, va_rf v6)] []) {K71 : Sg → Option Nat → Option Nat → Int64 → Int → Option Nat → Option Nat → Option Nat → Prop} (hK71 : ∀ (σ : Sg) (v1 : Option Nat) (v2 : Option Nat) (v3 : Int64) (v5 : Int) (v6 : Option Nat) (v7 : Option Nat) (v8 : Option Nat) (g1 : tyV σ 5 v1) (g2 : tyV σ 10 v2) (g5 : rng v5) (g6 : tyV σ 0 v6) (g7 : tyV σ 0 v7) (g8 : tyV σ 0 v8), K71 σ v1 v2 v3 v5 v6 v7 v8 → RG σ → TY σ → Ext σi σ → kO σ th 11 → JJ p l e R s m args below meth c 9 D cA A n0 s0 QM σ 71 [(0, .ref th), (1, va_rf v1), (2, va_rf v2), (3, .long v3), (5, .int (i32 v5)), (6, va_rf v6), (7, va_rf v7), (8, va_rf v8)] []) : ∀ (σ : Sg) (v1 : Option Nat) (v2 : Option Nat) (v3 : Int64) (v5 : Int) (v6 : Option Nat) (v7 : Option Nat) (v8 : Option Nat) (g1 : tyV σ 5 v1) (g2 : tyV σ 10 v2) (g5 : rng v5) (g6 : tyV σ 0 v6) (g7 : tyV σ 0 v7) (g8 : tyV σ 0 v8), w_X11_lookUpTo_126 th K26 K71 Q X σ v1 v2 v3 v5 v6 v7 v8 → RG σ → TY σ → Ext σi σ → kO σ th 11 → JJ p l e R s m args below meth c 9 D cA A n0 s0 QM σ 126 [(0, .ref th), (1, va_rf v1), (2, va_rf v2), (3, .long v3), (5, .int (i32 v5)), (6, va_rf v6), (7, va_rf v7), (8, va_rf v8)] [] := by
  intro σ v1 v2 v3 v5 v6 v7 v8 g1 g2 g5 g6 g7 g8 h hGσ hYσ hE hth H locs ls hH hl hc
  have B := K.1
  have hl9 := K.2.2.2.2.2.2
  unfold w_X11_lookUpTo_126 at h
  refine lv_aloadQ B.1 B.2.1 dX11_lookUpTo_126 (lv_at hl 7 rfl) ?_
  obtain ⟨a71, ea71, h⟩ := h
  have ka71 : kO σ a71 0 := g8 a71 ea71
  have h := h ka71
  refine W.eq (g2 := F0 m 128 ls [.ref a71]) (by rw [ea71]; rfl) ?_
  refine f_getp B hH ka71 (by decide) rfl wu_X0 1 (by decide) wf_X11_235 rfl rfl dX11_lookUpTo_128 ?_
  refine lv_astoreQ (lv' := [(8, va_rf (gP σ a71 1)), (0, .ref th), (1, va_rf v1), (2, va_rf v2), (3, .long v3), (5, .int (i32 v5)), (6, va_rf v6), (7, va_rf v7)]) B.1 B.2.1 dX11_lookUpTo_131 hl (by decide) (by generalize v7 = w9; cases w9 <;> rfl) (fun ls hl => ?_)
  refine lv_goto (tgt := 71) B.1 B.2.1 dX11_lookUpTo_133 (by decide) ?_
  exact hK71 _ _ _ _ _ _ _ _ g1 g2 g5 g6 g7 (hYσ.get ka71 (by decide)) h hGσ hYσ hE hth _ _ _ hH (lv_sub (l' := [(0, .ref th), (1, va_rf v1), (2, va_rf v2), (3, .long v3), (5, .int (i32 v5)), (6, va_rf v6), (7, va_rf v7), (8, va_rf (gP σ a71 1))]) hl [1, 2, 3, 4, 5, 6, 7, 0] rfl) hc
set_option maxRecDepth 20000 in
theorem a_X11_lookUpTo_122 {Q : Sg → Unit → Prop} {X : Sg → String → Prop} {th : Nat} (K : MD l R p s m args c cX11_lookUpTo 9 RX11 D cA tys A n0 s0 9 164 []) (hQ : CQV p l e R s m args below meth c cX11_lookUpTo D cA A n0 s0 QM σi Q) (hX : CX p l e R s m args below meth c 9 D cA A n0 s0 QM σi X) (hTh : CT p l e R s m args below meth c cX11_lookUpTo 9 D cA A n0 s0 QM σi RX11 X) {K26 : Sg → Option Nat → Option Nat → Int64 → Int → Option Nat → Prop} (hK26 : ∀ (σ : Sg) (v1 : Option Nat) (v2 : Option Nat) (v3 : Int64) (v5 : Int) (v6 : Option Nat) (g1 : tyV σ 5 v1) (g2 : tyV σ 10 v2) (g5 : rng v5) (g6 : tyV σ 0 v6), K26 σ v1 v2 v3 v5 v6 → RG σ → TY σ → Ext σi σ → kO σ th 11 → JJ p l e R s m args below meth c 9 D cA A n0 s0 QM σ 26 [(0, .ref th), (1, va_rf v1), (2, va_rf v2), (3, .long v3), (5, .int (i32 v5)), (6, va_rf v6)] []) {K71 : Sg → Option Nat → Option Nat → Int64 → Int → Option Nat → Option Nat → Option Nat → Prop} (hK71 : ∀ (σ : Sg) (v1 : Option Nat) (v2 : Option Nat) (v3 : Int64) (v5 : Int) (v6 : Option Nat) (v7 : Option Nat) (v8 : Option Nat) (g1 : tyV σ 5 v1) (g2 : tyV σ 10 v2) (g5 : rng v5) (g6 : tyV σ 0 v6) (g7 : tyV σ 0 v7) (g8 : tyV σ 0 v8), K71 σ v1 v2 v3 v5 v6 v7 v8 → RG σ → TY σ → Ext σi σ → kO σ th 11 → JJ p l e R s m args below meth c 9 D cA A n0 s0 QM σ 71 [(0, .ref th), (1, va_rf v1), (2, va_rf v2), (3, .long v3), (5, .int (i32 v5)), (6, va_rf v6), (7, va_rf v7), (8, va_rf v8)] []) : ∀ (σ : Sg) (v1 : Option Nat) (v2 : Option Nat) (v3 : Int64) (v5 : Int) (v6 : Option Nat) (v8 : Option Nat) (g1 : tyV σ 5 v1) (g2 : tyV σ 10 v2) (g5 : rng v5) (g6 : tyV σ 0 v6) (g8 : tyV σ 0 v8), w_X11_lookUpTo_122 th K26 K71 Q X σ v1 v2 v3 v5 v6 v8 → RG σ → TY σ → Ext σi σ → kO σ th 11 → JJ p l e R s m args below meth c 9 D cA A n0 s0 QM σ 122 [(0, .ref th), (1, va_rf v1), (2, va_rf v2), (3, .long v3), (5, .int (i32 v5)), (6, va_rf v6), (8, va_rf v8)] [] := by
  intro σ v1 v2 v3 v5 v6 v8 g1 g2 g5 g6 g8 h hGσ hYσ hE hth H locs ls hH hl hc
  have B := K.1
  have hl9 := K.2.2.2.2.2.2
  unfold w_X11_lookUpTo_122 at h
  refine lv_aloadQ B.1 B.2.1 dX11_lookUpTo_122 (lv_at hl 6 rfl) ?_
  refine lv_astoreQ (lv' := [(7, va_rf v8), (0, .ref th), (1, va_rf v1), (2, va_rf v2), (3, .long v3), (5, .int (i32 v5)), (6, va_rf v6), (8, va_rf v8)]) B.1 B.2.1 dX11_lookUpTo_124 hl (by decide) (by generalize v6 = w9; cases w9 <;> rfl) (fun ls hl => ?_)
  exact a_X11_lookUpTo_126 K hQ hX hTh hK26 hK71 _ _ _ _ _ _ _ _ g1 g2 g5 g6 g8 g8 h hGσ hYσ hE hth _ _ _ hH (lv_sub (l' := [(0, .ref th), (1, va_rf v1), (2, va_rf v2), (3, .long v3), (5, .int (i32 v5)), (6, va_rf v6), (7, va_rf v8), (8, va_rf v8)]) hl [1, 2, 3, 4, 5, 6, 0, 7] rfl) hc
set_option maxRecDepth 20000 in
theorem a_X11_lookUpTo_109 {Q : Sg → Unit → Prop} {X : Sg → String → Prop} {th : Nat} (K : MD l R p s m args c cX11_lookUpTo 9 RX11 D cA tys A n0 s0 9 164 []) (hQ : CQV p l e R s m args below meth c cX11_lookUpTo D cA A n0 s0 QM σi Q) (hX : CX p l e R s m args below meth c 9 D cA A n0 s0 QM σi X) (hTh : CT p l e R s m args below meth c cX11_lookUpTo 9 D cA A n0 s0 QM σi RX11 X) {K26 : Sg → Option Nat → Option Nat → Int64 → Int → Option Nat → Prop} (hK26 : ∀ (σ : Sg) (v1 : Option Nat) (v2 : Option Nat) (v3 : Int64) (v5 : Int) (v6 : Option Nat) (g1 : tyV σ 5 v1) (g2 : tyV σ 10 v2) (g5 : rng v5) (g6 : tyV σ 0 v6), K26 σ v1 v2 v3 v5 v6 → RG σ → TY σ → Ext σi σ → kO σ th 11 → JJ p l e R s m args below meth c 9 D cA A n0 s0 QM σ 26 [(0, .ref th), (1, va_rf v1), (2, va_rf v2), (3, .long v3), (5, .int (i32 v5)), (6, va_rf v6)] []) {K71 : Sg → Option Nat → Option Nat → Int64 → Int → Option Nat → Option Nat → Option Nat → Prop} (hK71 : ∀ (σ : Sg) (v1 : Option Nat) (v2 : Option Nat) (v3 : Int64) (v5 : Int) (v6 : Option Nat) (v7 : Option Nat) (v8 : Option Nat) (g1 : tyV σ 5 v1) (g2 : tyV σ 10 v2) (g5 : rng v5) (g6 : tyV σ 0 v6) (g7 : tyV σ 0 v7) (g8 : tyV σ 0 v8), K71 σ v1 v2 v3 v5 v6 v7 v8 → RG σ → TY σ → Ext σi σ → kO σ th 11 → JJ p l e R s m args below meth c 9 D cA A n0 s0 QM σ 71 [(0, .ref th), (1, va_rf v1), (2, va_rf v2), (3, .long v3), (5, .int (i32 v5)), (6, va_rf v6), (7, va_rf v7), (8, va_rf v8)] []) : ∀ (σ : Sg) (v1 : Option Nat) (v2 : Option Nat) (v3 : Int64) (v5 : Int) (v6 : Option Nat) (v7 : Option Nat) (v8 : Option Nat) (g1 : tyV σ 5 v1) (g2 : tyV σ 10 v2) (g5 : rng v5) (g6 : tyV σ 0 v6) (g7 : tyV σ 0 v7) (g8 : tyV σ 0 v8), w_X11_lookUpTo_109 th K26 K71 Q X σ v1 v2 v3 v5 v6 v7 v8 → RG σ → TY σ → Ext σi σ → kO σ th 11 → JJ p l e R s m args below meth c 9 D cA A n0 s0 QM σ 109 [(0, .ref th), (1, va_rf v1), (2, va_rf v2), (3, .long v3), (5, .int (i32 v5)), (6, va_rf v6), (7, va_rf v7), (8, va_rf v8)] [] := by
  intro σ v1 v2 v3 v5 v6 v7 v8 g1 g2 g5 g6 g7 g8 h hGσ hYσ hE hth H locs ls hH hl hc
  have B := K.1
  have hl9 := K.2.2.2.2.2.2
  unfold w_X11_lookUpTo_109 at h
  refine lv_aloadQ B.1 B.2.1 dX11_lookUpTo_109 (lv_at hl 7 rfl) ?_
  refine lv_aloadQ B.1 B.2.1 dX11_lookUpTo_111 (lv_at hl 6 rfl) ?_
  refine lv_iconst (v := i32 1) B.1 B.2.1 dX11_lookUpTo_113 (by decide) ?_
  refine lv_iload B.1 B.2.1 dX11_lookUpTo_114 (lv_at hl 4 rfl) ?_
  refine W.eq (g2 := F0 m 116 ls [.int (i32 v5), .int (i32 1), va_rf v7, va_rf v8]) (rfl) ?_
  refine c_S B hH hl hc K.2.2.1 (As := [va_rf v8, va_rf v7, .int (i32 1), .int (i32 v5)]) (ok_X1_compare hl9 K.2.1 σ v8 v7 1 v5 g8 g7 (by unfold rng; omega) g5 hGσ hYσ h) wc_X11_264 4 hd_X1_compare ⟨Nat.le_trans (Nat.le_of_ble_eq_true rfl) K.2.2.2.1, Nat.le_trans (Nat.le_of_ble_eq_true rfl) K.2.2.2.2.1⟩ rfl (rest := []) rfl (Nat.le_of_ble_eq_true rfl) dX11_lookUpTo_116 (fun σ72 w hq => ?_) (fun σ9 E9 hx9 => hX σ9 E9 _ _ _ (tb_out K.2.2.2.2.2.1 rfl) hx9.1 hx9.2.1 hx9.2.2.1 (hE.trans hx9.2.2.2))
  obtain ⟨r73, rfl, gr73, h, hGσ72, hYσ72, xσ72⟩ := hq
  have h := h xσ72
  intro H locs ls hH hl hc
  refine W.eq (g2 := F0 m 119 ls [.int (i32 r73)]) (rfl) ?_
  try dsimp only at h
  refine lv_if_le (tgt := 126) B.1 B.2.1 dX11_lookUpTo_119 (by decide) (fun h9 => ?_) (fun h9 => ?_)
  · rw [if_pos ((z_le gr73).mp h9)] at h
    exact a_X11_lookUpTo_126 K hQ hX hTh hK26 hK71 _ _ _ _ _ _ _ _ (g1.up xσ72) (g2.up xσ72) g5 (g6.up xσ72) (g7.up xσ72) (g8.up xσ72) h hGσ72 hYσ72 (hE.trans xσ72) (hth.up xσ72) _ _ _ hH (lv_sub (l' := [(0, .ref th), (1, va_rf v1), (2, va_rf v2), (3, .long v3), (5, .int (i32 v5)), (6, va_rf v6), (7, va_rf v7), (8, va_rf v8)]) hl [0, 1, 2, 3, 4, 5, 6, 7] rfl) hc
  · rw [if_neg (fun q => h9 ((z_le gr73).mpr q))] at h
    exact a_X11_lookUpTo_122 K hQ hX hTh hK26 hK71 _ _ _ _ _ _ _ (g1.up xσ72) (g2.up xσ72) g5 (g6.up xσ72) (g8.up xσ72) h hGσ72 hYσ72 (hE.trans xσ72) (hth.up xσ72) _ _ _ hH (lv_sub (l' := [(0, .ref th), (1, va_rf v1), (2, va_rf v2), (3, .long v3), (5, .int (i32 v5)), (6, va_rf v6), (8, va_rf v8)]) hl [0, 1, 2, 3, 4, 5, 7] rfl) hc
set_option maxRecDepth 20000 in
theorem a_X11_lookUpTo_104 {Q : Sg → Unit → Prop} {X : Sg → String → Prop} {th : Nat} (K : MD l R p s m args c cX11_lookUpTo 9 RX11 D cA tys A n0 s0 9 164 []) (hQ : CQV p l e R s m args below meth c cX11_lookUpTo D cA A n0 s0 QM σi Q) (hX : CX p l e R s m args below meth c 9 D cA A n0 s0 QM σi X) (hTh : CT p l e R s m args below meth c cX11_lookUpTo 9 D cA A n0 s0 QM σi RX11 X) {K26 : Sg → Option Nat → Option Nat → Int64 → Int → Option Nat → Prop} (hK26 : ∀ (σ : Sg) (v1 : Option Nat) (v2 : Option Nat) (v3 : Int64) (v5 : Int) (v6 : Option Nat) (g1 : tyV σ 5 v1) (g2 : tyV σ 10 v2) (g5 : rng v5) (g6 : tyV σ 0 v6), K26 σ v1 v2 v3 v5 v6 → RG σ → TY σ → Ext σi σ → kO σ th 11 → JJ p l e R s m args below meth c 9 D cA A n0 s0 QM σ 26 [(0, .ref th), (1, va_rf v1), (2, va_rf v2), (3, .long v3), (5, .int (i32 v5)), (6, va_rf v6)] []) {K71 : Sg → Option Nat → Option Nat → Int64 → Int → Option Nat → Option Nat → Option Nat → Prop} (hK71 : ∀ (σ : Sg) (v1 : Option Nat) (v2 : Option Nat) (v3 : Int64) (v5 : Int) (v6 : Option Nat) (v7 : Option Nat) (v8 : Option Nat) (g1 : tyV σ 5 v1) (g2 : tyV σ 10 v2) (g5 : rng v5) (g6 : tyV σ 0 v6) (g7 : tyV σ 0 v7) (g8 : tyV σ 0 v8), K71 σ v1 v2 v3 v5 v6 v7 v8 → RG σ → TY σ → Ext σi σ → kO σ th 11 → JJ p l e R s m args below meth c 9 D cA A n0 s0 QM σ 71 [(0, .ref th), (1, va_rf v1), (2, va_rf v2), (3, .long v3), (5, .int (i32 v5)), (6, va_rf v6), (7, va_rf v7), (8, va_rf v8)] []) : ∀ (σ : Sg) (v1 : Option Nat) (v2 : Option Nat) (v3 : Int64) (v5 : Int) (v6 : Option Nat) (v7 : Option Nat) (v8 : Option Nat) (g1 : tyV σ 5 v1) (g2 : tyV σ 10 v2) (g5 : rng v5) (g6 : tyV σ 0 v6) (g7 : tyV σ 0 v7) (g8 : tyV σ 0 v8), w_X11_lookUpTo_104 th K26 K71 Q X σ v1 v2 v3 v5 v6 v7 v8 → RG σ → TY σ → Ext σi σ → kO σ th 11 → JJ p l e R s m args below meth c 9 D cA A n0 s0 QM σ 104 [(0, .ref th), (1, va_rf v1), (2, va_rf v2), (3, .long v3), (5, .int (i32 v5)), (6, va_rf v6), (7, va_rf v7), (8, va_rf v8)] [] := by
  intro σ v1 v2 v3 v5 v6 v7 v8 g1 g2 g5 g6 g7 g8 h hGσ hYσ hE hth H locs ls hH hl hc
  have B := K.1
  have hl9 := K.2.2.2.2.2.2
  unfold w_X11_lookUpTo_104 at h
  refine lv_aloadQ B.1 B.2.1 dX11_lookUpTo_104 (lv_at hl 6 rfl) ?_
  refine lv_ifnullQ (tgt := 122) B.1 B.2.1 dX11_lookUpTo_106 (by decide) (fun h9 => ?_) (fun h9 => ?_)
  · rw [if_pos (h9)] at h
    exact a_X11_lookUpTo_122 K hQ hX hTh hK26 hK71 _ _ _ _ _ _ _ g1 g2 g5 g6 g8 h hGσ hYσ hE hth _ _ _ hH (lv_sub (l' := [(0, .ref th), (1, va_rf v1), (2, va_rf v2), (3, .long v3), (5, .int (i32 v5)), (6, va_rf v6), (8, va_rf v8)]) hl [0, 1, 2, 3, 4, 5, 7] rfl) hc
  · rw [if_neg (h9)] at h
    exact a_X11_lookUpTo_109 K hQ hX hTh hK26 hK71 _ _ _ _ _ _ _ _ g1 g2 g5 g6 g7 g8 h hGσ hYσ hE hth _ _ _ hH (lv_sub (l' := [(0, .ref th), (1, va_rf v1), (2, va_rf v2), (3, .long v3), (5, .int (i32 v5)), (6, va_rf v6), (7, va_rf v7), (8, va_rf v8)]) hl [0, 1, 2, 3, 4, 5, 6, 7] rfl) hc
set_option maxRecDepth 20000 in
theorem a_X11_lookUpTo_90 {Q : Sg → Unit → Prop} {X : Sg → String → Prop} {th : Nat} (K : MD l R p s m args c cX11_lookUpTo 9 RX11 D cA tys A n0 s0 9 164 []) (hQ : CQV p l e R s m args below meth c cX11_lookUpTo D cA A n0 s0 QM σi Q) (hX : CX p l e R s m args below meth c 9 D cA A n0 s0 QM σi X) (hTh : CT p l e R s m args below meth c cX11_lookUpTo 9 D cA A n0 s0 QM σi RX11 X) {K26 : Sg → Option Nat → Option Nat → Int64 → Int → Option Nat → Prop} (hK26 : ∀ (σ : Sg) (v1 : Option Nat) (v2 : Option Nat) (v3 : Int64) (v5 : Int) (v6 : Option Nat) (g1 : tyV σ 5 v1) (g2 : tyV σ 10 v2) (g5 : rng v5) (g6 : tyV σ 0 v6), K26 σ v1 v2 v3 v5 v6 → RG σ → TY σ → Ext σi σ → kO σ th 11 → JJ p l e R s m args below meth c 9 D cA A n0 s0 QM σ 26 [(0, .ref th), (1, va_rf v1), (2, va_rf v2), (3, .long v3), (5, .int (i32 v5)), (6, va_rf v6)] []) {K71 : Sg → Option Nat → Option Nat → Int64 → Int → Option Nat → Option Nat → Option Nat → Prop} (hK71 : ∀ (σ : Sg) (v1 : Option Nat) (v2 : Option Nat) (v3 : Int64) (v5 : Int) (v6 : Option Nat) (v7 : Option Nat) (v8 : Option Nat) (g1 : tyV σ 5 v1) (g2 : tyV σ 10 v2) (g5 : rng v5) (g6 : tyV σ 0 v6) (g7 : tyV σ 0 v7) (g8 : tyV σ 0 v8), K71 σ v1 v2 v3 v5 v6 v7 v8 → RG σ → TY σ → Ext σi σ → kO σ th 11 → JJ p l e R s m args below meth c 9 D cA A n0 s0 QM σ 71 [(0, .ref th), (1, va_rf v1), (2, va_rf v2), (3, .long v3), (5, .int (i32 v5)), (6, va_rf v6), (7, va_rf v7), (8, va_rf v8)] []) : ∀ (σ : Sg) (v1 : Option Nat) (v2 : Option Nat) (v3 : Int64) (v5 : Int) (v6 : Option Nat) (v7 : Option Nat) (v8 : Option Nat) (g1 : tyV σ 5 v1) (g2 : tyV σ 10 v2) (g5 : rng v5) (g6 : tyV σ 0 v6) (g7 : tyV σ 0 v7) (g8 : tyV σ 0 v8), w_X11_lookUpTo_90 th K26 K71 Q X σ v1 v2 v3 v5 v6 v7 v8 → RG σ → TY σ → Ext σi σ → kO σ th 11 → JJ p l e R s m args below meth c 9 D cA A n0 s0 QM σ 90 [(0, .ref th), (1, va_rf v1), (2, va_rf v2), (3, .long v3), (5, .int (i32 v5)), (6, va_rf v6), (7, va_rf v7), (8, va_rf v8)] [] := by
  intro σ v1 v2 v3 v5 v6 v7 v8 g1 g2 g5 g6 g7 g8 h hGσ hYσ hE hth H locs ls hH hl hc
  have B := K.1
  have hl9 := K.2.2.2.2.2.2
  unfold w_X11_lookUpTo_90 at h
  refine lv_aloadQ B.1 B.2.1 dX11_lookUpTo_90 (lv_at hl 7 rfl) ?_
  obtain ⟨a74, ea74, h⟩ := h
  have ka74 : kO σ a74 0 := g8 a74 ea74
  have h := h ka74
  refine W.eq (g2 := F0 m 92 ls [.ref a74]) (by rw [ea74]; rfl) ?_
  refine f_getl B hH ka74 (by decide) rfl wu_X0 7 (by decide) wf_X11_72 rfl rfl dX11_lookUpTo_92 ?_
  refine lv_aloadQ B.1 B.2.1 dX11_lookUpTo_95 (lv_at hl 5 rfl) ?_
  obtain ⟨a75, ea75, h⟩ := h
  have ka75 : kO σ a75 0 := g6 a75 ea75
  have h := h ka75
  refine W.eq (g2 := F0 m 97 ls [.ref a75, .long (gJ σ a74 7)]) (by rw [ea75]; rfl) ?_
  refine f_getl B hH ka75 (by decide) rfl wu_X0 7 (by decide) wf_X11_72 rfl rfl dX11_lookUpTo_97 ?_
  refine W.lcmp B.1 B.2.1 dX11_lookUpTo_100 ?_
  refine lv_if_ne (tgt := 126) B.1 B.2.1 dX11_lookUpTo_101 (by decide) (fun h9 => ?_) (fun h9 => ?_)
  · rw [if_pos (fun q => h9 ((lg_cmp_eq _ _).mpr q))] at h
    exact a_X11_lookUpTo_126 K hQ hX hTh hK26 hK71 _ _ _ _ _ _ _ _ g1 g2 g5 g6 g7 g8 h hGσ hYσ hE hth _ _ _ hH (lv_sub (l' := [(0, .ref th), (1, va_rf v1), (2, va_rf v2), (3, .long v3), (5, .int (i32 v5)), (6, va_rf v6), (7, va_rf v7), (8, va_rf v8)]) hl [0, 1, 2, 3, 4, 5, 6, 7] rfl) hc
  · rw [if_neg (fun q => q ((lg_cmp_eq _ _).mp h9))] at h
    exact a_X11_lookUpTo_104 K hQ hX hTh hK26 hK71 _ _ _ _ _ _ _ _ g1 g2 g5 g6 g7 g8 h hGσ hYσ hE hth _ _ _ hH (lv_sub (l' := [(0, .ref th), (1, va_rf v1), (2, va_rf v2), (3, .long v3), (5, .int (i32 v5)), (6, va_rf v6), (7, va_rf v7), (8, va_rf v8)]) hl [0, 1, 2, 3, 4, 5, 6, 7] rfl) hc
set_option maxRecDepth 20000 in
theorem a_X11_lookUpTo_76 {Q : Sg → Unit → Prop} {X : Sg → String → Prop} {th : Nat} (K : MD l R p s m args c cX11_lookUpTo 9 RX11 D cA tys A n0 s0 9 164 []) (hQ : CQV p l e R s m args below meth c cX11_lookUpTo D cA A n0 s0 QM σi Q) (hX : CX p l e R s m args below meth c 9 D cA A n0 s0 QM σi X) (hTh : CT p l e R s m args below meth c cX11_lookUpTo 9 D cA A n0 s0 QM σi RX11 X) {K26 : Sg → Option Nat → Option Nat → Int64 → Int → Option Nat → Prop} (hK26 : ∀ (σ : Sg) (v1 : Option Nat) (v2 : Option Nat) (v3 : Int64) (v5 : Int) (v6 : Option Nat) (g1 : tyV σ 5 v1) (g2 : tyV σ 10 v2) (g5 : rng v5) (g6 : tyV σ 0 v6), K26 σ v1 v2 v3 v5 v6 → RG σ → TY σ → Ext σi σ → kO σ th 11 → JJ p l e R s m args below meth c 9 D cA A n0 s0 QM σ 26 [(0, .ref th), (1, va_rf v1), (2, va_rf v2), (3, .long v3), (5, .int (i32 v5)), (6, va_rf v6)] []) {K71 : Sg → Option Nat → Option Nat → Int64 → Int → Option Nat → Option Nat → Option Nat → Prop} (hK71 : ∀ (σ : Sg) (v1 : Option Nat) (v2 : Option Nat) (v3 : Int64) (v5 : Int) (v6 : Option Nat) (v7 : Option Nat) (v8 : Option Nat) (g1 : tyV σ 5 v1) (g2 : tyV σ 10 v2) (g5 : rng v5) (g6 : tyV σ 0 v6) (g7 : tyV σ 0 v7) (g8 : tyV σ 0 v8), K71 σ v1 v2 v3 v5 v6 v7 v8 → RG σ → TY σ → Ext σi σ → kO σ th 11 → JJ p l e R s m args below meth c 9 D cA A n0 s0 QM σ 71 [(0, .ref th), (1, va_rf v1), (2, va_rf v2), (3, .long v3), (5, .int (i32 v5)), (6, va_rf v6), (7, va_rf v7), (8, va_rf v8)] []) : ∀ (σ : Sg) (v1 : Option Nat) (v2 : Option Nat) (v3 : Int64) (v5 : Int) (v6 : Option Nat) (v7 : Option Nat) (v8 : Option Nat) (g1 : tyV σ 5 v1) (g2 : tyV σ 10 v2) (g5 : rng v5) (g6 : tyV σ 0 v6) (g7 : tyV σ 0 v7) (g8 : tyV σ 0 v8), w_X11_lookUpTo_76 th K26 K71 Q X σ v1 v2 v3 v5 v6 v7 v8 → RG σ → TY σ → Ext σi σ → kO σ th 11 → JJ p l e R s m args below meth c 9 D cA A n0 s0 QM σ 76 [(0, .ref th), (1, va_rf v1), (2, va_rf v2), (3, .long v3), (5, .int (i32 v5)), (6, va_rf v6), (7, va_rf v7), (8, va_rf v8)] [] := by
  intro σ v1 v2 v3 v5 v6 v7 v8 g1 g2 g5 g6 g7 g8 h hGσ hYσ hE hth H locs ls hH hl hc
  have B := K.1
  have hl9 := K.2.2.2.2.2.2
  unfold w_X11_lookUpTo_76 at h
  refine lv_aloadQ B.1 B.2.1 dX11_lookUpTo_76 (lv_at hl 7 rfl) ?_
  obtain ⟨a76, ea76, h⟩ := h
  have ka76 : kO σ a76 0 := g8 a76 ea76
  have h := h ka76
  refine W.eq (g2 := F0 m 78 ls [.ref a76]) (by rw [ea76]; rfl) ?_
  refine f_getl B hH ka76 (by decide) rfl wu_X0 5 (by decide) wf_X11_85 rfl rfl dX11_lookUpTo_78 ?_
  refine lv_aloadQ B.1 B.2.1 dX11_lookUpTo_81 (lv_at hl 5 rfl) ?_
  obtain ⟨a77, ea77, h⟩ := h
  have ka77 : kO σ a77 0 := g6 a77 ea77
  have h := h ka77
  refine W.eq (g2 := F0 m 83 ls [.ref a77, .long (gJ σ a76 5)]) (by rw [ea77]; rfl) ?_
  refine f_getl B hH ka77 (by decide) rfl wu_X0 5 (by decide) wf_X11_85 rfl rfl dX11_lookUpTo_83 ?_
  refine W.lcmp B.1 B.2.1 dX11_lookUpTo_86 ?_
  refine lv_if_gt (tgt := 136) B.1 B.2.1 dX11_lookUpTo_87 (by decide) (fun h9 => ?_) (fun h9 => ?_)
  · rw [if_pos ((lg_cmp_gt _ _).mp h9)] at h
    exact a_X11_lookUpTo_136 K hQ hX hTh hK26 _ _ _ _ _ _ _ g1 g2 g5 g6 g7 h hGσ hYσ hE hth _ _ _ hH (lv_sub (l' := [(0, .ref th), (1, va_rf v1), (2, va_rf v2), (3, .long v3), (5, .int (i32 v5)), (6, va_rf v6), (7, va_rf v7)]) hl [0, 1, 2, 3, 4, 5, 6] rfl) hc
  · rw [if_neg (fun q => h9 ((lg_cmp_gt _ _).mpr q))] at h
    exact a_X11_lookUpTo_90 K hQ hX hTh hK26 hK71 _ _ _ _ _ _ _ _ g1 g2 g5 g6 g7 g8 h hGσ hYσ hE hth _ _ _ hH (lv_sub (l' := [(0, .ref th), (1, va_rf v1), (2, va_rf v2), (3, .long v3), (5, .int (i32 v5)), (6, va_rf v6), (7, va_rf v7), (8, va_rf v8)]) hl [0, 1, 2, 3, 4, 5, 6, 7] rfl) hc
set_option maxRecDepth 20000 in
theorem a_X11_lookUpTo_71 {Q : Sg → Unit → Prop} {X : Sg → String → Prop} {th : Nat} (K : MD l R p s m args c cX11_lookUpTo 9 RX11 D cA tys A n0 s0 9 164 []) (hQ : CQV p l e R s m args below meth c cX11_lookUpTo D cA A n0 s0 QM σi Q) (hX : CX p l e R s m args below meth c 9 D cA A n0 s0 QM σi X) (hTh : CT p l e R s m args below meth c cX11_lookUpTo 9 D cA A n0 s0 QM σi RX11 X) {K26 : Sg → Option Nat → Option Nat → Int64 → Int → Option Nat → Prop} (hK26 : ∀ (σ : Sg) (v1 : Option Nat) (v2 : Option Nat) (v3 : Int64) (v5 : Int) (v6 : Option Nat) (g1 : tyV σ 5 v1) (g2 : tyV σ 10 v2) (g5 : rng v5) (g6 : tyV σ 0 v6), K26 σ v1 v2 v3 v5 v6 → RG σ → TY σ → Ext σi σ → kO σ th 11 → JJ p l e R s m args below meth c 9 D cA A n0 s0 QM σ 26 [(0, .ref th), (1, va_rf v1), (2, va_rf v2), (3, .long v3), (5, .int (i32 v5)), (6, va_rf v6)] []) {K71 : Sg → Option Nat → Option Nat → Int64 → Int → Option Nat → Option Nat → Option Nat → Prop} (hK71 : ∀ (σ : Sg) (v1 : Option Nat) (v2 : Option Nat) (v3 : Int64) (v5 : Int) (v6 : Option Nat) (v7 : Option Nat) (v8 : Option Nat) (g1 : tyV σ 5 v1) (g2 : tyV σ 10 v2) (g5 : rng v5) (g6 : tyV σ 0 v6) (g7 : tyV σ 0 v7) (g8 : tyV σ 0 v8), K71 σ v1 v2 v3 v5 v6 v7 v8 → RG σ → TY σ → Ext σi σ → kO σ th 11 → JJ p l e R s m args below meth c 9 D cA A n0 s0 QM σ 71 [(0, .ref th), (1, va_rf v1), (2, va_rf v2), (3, .long v3), (5, .int (i32 v5)), (6, va_rf v6), (7, va_rf v7), (8, va_rf v8)] []) : ∀ (σ : Sg) (v1 : Option Nat) (v2 : Option Nat) (v3 : Int64) (v5 : Int) (v6 : Option Nat) (v7 : Option Nat) (v8 : Option Nat) (g1 : tyV σ 5 v1) (g2 : tyV σ 10 v2) (g5 : rng v5) (g6 : tyV σ 0 v6) (g7 : tyV σ 0 v7) (g8 : tyV σ 0 v8), w_X11_lookUpTo_71 th K26 K71 Q X σ v1 v2 v3 v5 v6 v7 v8 → RG σ → TY σ → Ext σi σ → kO σ th 11 → JJ p l e R s m args below meth c 9 D cA A n0 s0 QM σ 71 [(0, .ref th), (1, va_rf v1), (2, va_rf v2), (3, .long v3), (5, .int (i32 v5)), (6, va_rf v6), (7, va_rf v7), (8, va_rf v8)] [] := by
  intro σ v1 v2 v3 v5 v6 v7 v8 g1 g2 g5 g6 g7 g8 h hGσ hYσ hE hth H locs ls hH hl hc
  have B := K.1
  have hl9 := K.2.2.2.2.2.2
  unfold w_X11_lookUpTo_71 at h
  refine lv_aloadQ B.1 B.2.1 dX11_lookUpTo_71 (lv_at hl 7 rfl) ?_
  refine lv_ifnullQ (tgt := 136) B.1 B.2.1 dX11_lookUpTo_73 (by decide) (fun h9 => ?_) (fun h9 => ?_)
  · rw [if_pos (h9)] at h
    exact a_X11_lookUpTo_136 K hQ hX hTh hK26 _ _ _ _ _ _ _ g1 g2 g5 g6 g7 h hGσ hYσ hE hth _ _ _ hH (lv_sub (l' := [(0, .ref th), (1, va_rf v1), (2, va_rf v2), (3, .long v3), (5, .int (i32 v5)), (6, va_rf v6), (7, va_rf v7)]) hl [0, 1, 2, 3, 4, 5, 6] rfl) hc
  · rw [if_neg (h9)] at h
    exact a_X11_lookUpTo_76 K hQ hX hTh hK26 hK71 _ _ _ _ _ _ _ _ g1 g2 g5 g6 g7 g8 h hGσ hYσ hE hth _ _ _ hH (lv_sub (l' := [(0, .ref th), (1, va_rf v1), (2, va_rf v2), (3, .long v3), (5, .int (i32 v5)), (6, va_rf v6), (7, va_rf v7), (8, va_rf v8)]) hl [0, 1, 2, 3, 4, 5, 6, 7] rfl) hc
theorem al_X11_lookUpTo_71 {Q : Sg → Unit → Prop} {X : Sg → String → Prop} {th : Nat} (K : MD l R p s m args c cX11_lookUpTo 9 RX11 D cA tys A n0 s0 9 164 []) (hQ : CQV p l e R s m args below meth c cX11_lookUpTo D cA A n0 s0 QM σi Q) (hX : CX p l e R s m args below meth c 9 D cA A n0 s0 QM σi X) (hTh : CT p l e R s m args below meth c cX11_lookUpTo 9 D cA A n0 s0 QM σi RX11 X) {K26 : Sg → Option Nat → Option Nat → Int64 → Int → Option Nat → Prop} (hK26 : ∀ (σ : Sg) (v1 : Option Nat) (v2 : Option Nat) (v3 : Int64) (v5 : Int) (v6 : Option Nat) (g1 : tyV σ 5 v1) (g2 : tyV σ 10 v2) (g5 : rng v5) (g6 : tyV σ 0 v6), K26 σ v1 v2 v3 v5 v6 → RG σ → TY σ → Ext σi σ → kO σ th 11 → JJ p l e R s m args below meth c 9 D cA A n0 s0 QM σ 26 [(0, .ref th), (1, va_rf v1), (2, va_rf v2), (3, .long v3), (5, .int (i32 v5)), (6, va_rf v6)] []) : ∀ (n : Nat), ∀ (σ : Sg) (v1 : Option Nat) (v2 : Option Nat) (v3 : Int64) (v5 : Int) (v6 : Option Nat) (v7 : Option Nat) (v8 : Option Nat) (g1 : tyV σ 5 v1) (g2 : tyV σ 10 v2) (g5 : rng v5) (g6 : tyV σ 0 v6) (g7 : tyV σ 0 v7) (g8 : tyV σ 0 v8), wl_X11_lookUpTo_71 th K26 Q X n σ v1 v2 v3 v5 v6 v7 v8 → RG σ → TY σ → Ext σi σ → kO σ th 11 → JJ p l e R s m args below meth c 9 D cA A n0 s0 QM σ 71 [(0, .ref th), (1, va_rf v1), (2, va_rf v2), (3, .long v3), (5, .int (i32 v5)), (6, va_rf v6), (7, va_rf v7), (8, va_rf v8)] [] := by
  intro n
  induction n with
  | zero => intro σ v1 v2 v3 v5 v6 v7 v8 g1 g2 g5 g6 g7 g8 h; exact h.elim
  | succ n ih => exact fun σ v1 v2 v3 v5 v6 v7 v8 g1 g2 g5 g6 g7 g8 h => a_X11_lookUpTo_71 K hQ hX hTh hK26 ih σ v1 v2 v3 v5 v6 v7 v8 g1 g2 g5 g6 g7 g8 h
set_option maxRecDepth 20000 in
theorem a_X11_lookUpTo_41 {Q : Sg → Unit → Prop} {X : Sg → String → Prop} {th : Nat} (K : MD l R p s m args c cX11_lookUpTo 9 RX11 D cA tys A n0 s0 9 164 []) (hQ : CQV p l e R s m args below meth c cX11_lookUpTo D cA A n0 s0 QM σi Q) (hX : CX p l e R s m args below meth c 9 D cA A n0 s0 QM σi X) (hTh : CT p l e R s m args below meth c cX11_lookUpTo 9 D cA A n0 s0 QM σi RX11 X) {K26 : Sg → Option Nat → Option Nat → Int64 → Int → Option Nat → Prop} (hK26 : ∀ (σ : Sg) (v1 : Option Nat) (v2 : Option Nat) (v3 : Int64) (v5 : Int) (v6 : Option Nat) (g1 : tyV σ 5 v1) (g2 : tyV σ 10 v2) (g5 : rng v5) (g6 : tyV σ 0 v6), K26 σ v1 v2 v3 v5 v6 → RG σ → TY σ → Ext σi σ → kO σ th 11 → JJ p l e R s m args below meth c 9 D cA A n0 s0 QM σ 26 [(0, .ref th), (1, va_rf v1), (2, va_rf v2), (3, .long v3), (5, .int (i32 v5)), (6, va_rf v6)] []) : ∀ (σ : Sg) (v1 : Option Nat) (v2 : Option Nat) (v3 : Int64) (v5 : Int) (v6 : Option Nat) (g1 : tyV σ 5 v1) (g2 : tyV σ 10 v2) (g5 : rng v5) (g6 : tyV σ 0 v6), w_X11_lookUpTo_41 th K26 Q X σ v1 v2 v3 v5 v6 → RG σ → TY σ → Ext σi σ → kO σ th 11 → JJ p l e R s m args below meth c 9 D cA A n0 s0 QM σ 41 [(0, .ref th), (1, va_rf v1), (2, va_rf v2), (3, .long v3), (5, .int (i32 v5)), (6, va_rf v6)] [] := by
  intro σ v1 v2 v3 v5 v6 g1 g2 g5 g6 h hGσ hYσ hE hth H locs ls hH hl hc
  have B := K.1
  have hl9 := K.2.2.2.2.2.2
  unfold w_X11_lookUpTo_41 at h
  refine lv_aload_nQ B.1 B.2.1 dX11_lookUpTo_41 rfl (lv_at hl 2 rfl) ?_
  obtain ⟨a78, ea78, h⟩ := h
  have ka78 : kO σ a78 10 := g2 a78 ea78
  have h := h ka78
  refine W.eq (g2 := F0 m 42 ls [.ref a78]) (by rw [ea78]; rfl) ?_
  refine f_getp B hH ka78 (by decide) rfl wu_X10 2 (by decide) wf_X11_105 rfl rfl dX11_lookUpTo_42 ?_
  obtain ⟨a81, ea81, h⟩ := h
  have ka81 : kO σ a81 1 := (hYσ.get ka78 (by decide)) a81 ea81
  have h := h ka81
  refine W.eq (g2 := F0 m 45 ls [.ref a81]) (by rw [ea81]; rfl) ?_
  refine c_V B hH hl hc K.2.2.1 (C := RX1) (T := TX1) (N := 3) (ci := 1) (As := []) (ok_X1_takeFirst hl9 K.2.1 σ a81 ka81 hGσ hYσ h) wc_X11_261 0 hd_X1_takeFirst ⟨Nat.le_trans (Nat.le_of_ble_eq_true rfl) K.2.2.2.1, Nat.le_trans (Nat.le_of_ble_eq_true rfl) K.2.2.2.2.1⟩ ka81.1 ka81.2 (by decide) rfl rfl (rest := []) rfl (Nat.le_of_ble_eq_true rfl) dX11_lookUpTo_45 (fun σ79 w hq => ?_) (fun σ9 E9 hx9 => hX σ9 E9 _ _ _ (tb_out K.2.2.2.2.2.1 rfl) hx9.1 hx9.2.1 hx9.2.2.1 (hE.trans hx9.2.2.2))
  obtain ⟨r80, rfl, tr80, h, hGσ79, hYσ79, xσ79⟩ := hq
  have h := h xσ79 tr80
  intro H locs ls hH hl hc
  refine W.eq (g2 := F0 m 48 ls [va_rf r80]) (rfl) ?_
  try dsimp only at h
  refine lv_pop B.1 B.2.1 dX11_lookUpTo_48 (rf_cat _) ?_
  refine lv_aload_n B.1 B.2.1 dX11_lookUpTo_49 rfl (lv_at hl 0 rfl) ?_
  refine lv_dup B.1 B.2.1 dX11_lookUpTo_50 rfl ?_
  refine f_geti B hH (hth.up xσ79) (by decide) rfl wu_X11 4 (by decide) wf_X11_165 rfl rfl dX11_lookUpTo_51 ?_
  refine lv_iconst (v := i32 1) B.1 B.2.1 dX11_lookUpTo_54 (by decide) ?_
  obtain ⟨q1, h⟩ := h
  refine lv_isub B.1 B.2.1 dX11_lookUpTo_55 ?_
  rw [i32_sub]
  obtain ⟨σ82, eσ82⟩ : ∃ z, z = pI σ79 th 4 (gI σ79 th 4 - 1) := ⟨_, rfl⟩
  have h := h σ82 eσ82
  refine f_puti B hH (hth.up xσ79) (by decide) rfl wu_X11 tyX11 tyX11_ok nmX11 4 (by decide) wf_X11_165 rfl (ty := .int) rfl rfl rfl rfl rfl dX11_lookUpTo_56 (fun H locs hH => ?_)
  have hH : Hd D cA A s (pI σ79 th 4 (gI σ79 th 4 - 1)) H locs := hH
  rw [← eσ82] at hH
  have hGσ82 : RG σ82 := by rw [eσ82]; exact hGσ79.pI q1
  have hYσ82 : TY σ82 := by rw [eσ82]; exact hYσ79.pI
  have xσ82 : Ext σ79 σ82 := by rw [eσ82]; exact Ext.pI
  have hc : CB n0 s0 σ82 := by rw [eσ82]; exact hc
  rw [show gc σ79 = gc σ82 by rw [eσ82]; try rfl, show gs σ79 = gs σ82 by rw [eσ82]; try rfl]
  refine lv_null B.1 B.2.1 dX11_lookUpTo_59 ?_
  refine W.eq (g2 := F0 m 60 ls [va_rf none]) (rfl) ?_
  refine lv_astoreQ (lv' := [(7, va_rf none), (0, .ref th), (1, va_rf v1), (2, va_rf v2), (3, .long v3), (5, .int (i32 v5)), (6, va_rf v6)]) B.1 B.2.1 dX11_lookUpTo_60 hl (by decide) (by generalize v6 = w9; cases w9 <;> rfl) (fun ls hl => ?_)
  refine lv_aload_nQ B.1 B.2.1 dX11_lookUpTo_62 rfl (lv_at hl 3 rfl) ?_
  refine W.eq (g2 := F0 m 63 ls [.ref a78]) (by rw [ea78]; rfl) ?_
  refine f_getp B hH (ka78.up (xσ79.trans xσ82)) (by decide) rfl wu_X10 3 (by decide) wf_X11_117 rfl rfl dX11_lookUpTo_63 ?_
  obtain ⟨a83, ea83, h⟩ := h
  have ka83 : kO σ82 a83 1 := (hYσ82.get (ka78.up (xσ79.trans xσ82)) (by decide)) a83 ea83
  have h := h ka83
  refine W.eq (g2 := F0 m 66 ls [.ref a83]) (by rw [ea83]; rfl) ?_
  refine f_getp B hH ka83 (by decide) rfl wu_X1 0 (by decide) wf_X11_225 rfl rfl dX11_lookUpTo_66 ?_
  refine lv_astoreQ (lv' := [(8, va_rf (gP σ82 a83 0)), (7, va_rf none), (0, .ref th), (1, va_rf v1), (2, va_rf v2), (3, .long v3), (5, .int (i32 v5)), (6, va_rf v6)]) B.1 B.2.1 dX11_lookUpTo_69 hl (by decide) rfl (fun ls hl => ?_)
  obtain ⟨n9, h⟩ := h
  exact al_X11_lookUpTo_71 K hQ hX hTh hK26 n9 _ _ _ _ _ _ _ _ (g1.up (xσ79.trans xσ82)) (g2.up (xσ79.trans xσ82)) g5 (g6.up (xσ79.trans xσ82)) (tyn _ _) (hYσ82.get ka83 (by decide)) h hGσ82 hYσ82 ((hE.trans xσ79).trans xσ82) (hth.up (xσ79.trans xσ82)) _ _ _ hH (lv_sub (l' := [(0, .ref th), (1, va_rf v1), (2, va_rf v2), (3, .long v3), (5, .int (i32 v5)), (6, va_rf v6), (7, va_rf none), (8, va_rf (gP σ82 a83 0))]) hl [2, 3, 4, 5, 6, 7, 1, 0] rfl) hc
set_option maxRecDepth 20000 in
theorem a_X11_lookUpTo_31 {Q : Sg → Unit → Prop} {X : Sg → String → Prop} {th : Nat} (K : MD l R p s m args c cX11_lookUpTo 9 RX11 D cA tys A n0 s0 9 164 []) (hQ : CQV p l e R s m args below meth c cX11_lookUpTo D cA A n0 s0 QM σi Q) (hX : CX p l e R s m args below meth c 9 D cA A n0 s0 QM σi X) (hTh : CT p l e R s m args below meth c cX11_lookUpTo 9 D cA A n0 s0 QM σi RX11 X) {K26 : Sg → Option Nat → Option Nat → Int64 → Int → Option Nat → Prop} (hK26 : ∀ (σ : Sg) (v1 : Option Nat) (v2 : Option Nat) (v3 : Int64) (v5 : Int) (v6 : Option Nat) (g1 : tyV σ 5 v1) (g2 : tyV σ 10 v2) (g5 : rng v5) (g6 : tyV σ 0 v6), K26 σ v1 v2 v3 v5 v6 → RG σ → TY σ → Ext σi σ → kO σ th 11 → JJ p l e R s m args below meth c 9 D cA A n0 s0 QM σ 26 [(0, .ref th), (1, va_rf v1), (2, va_rf v2), (3, .long v3), (5, .int (i32 v5)), (6, va_rf v6)] []) : ∀ (σ : Sg) (v1 : Option Nat) (v2 : Option Nat) (v3 : Int64) (v5 : Int) (v6 : Option Nat) (g1 : tyV σ 5 v1) (g2 : tyV σ 10 v2) (g5 : rng v5) (g6 : tyV σ 0 v6), w_X11_lookUpTo_31 th K26 Q X σ v1 v2 v3 v5 v6 → RG σ → TY σ → Ext σi σ → kO σ th 11 → JJ p l e R s m args below meth c 9 D cA A n0 s0 QM σ 31 [(0, .ref th), (1, va_rf v1), (2, va_rf v2), (3, .long v3), (5, .int (i32 v5)), (6, va_rf v6)] [] := by
  intro σ v1 v2 v3 v5 v6 g1 g2 g5 g6 h hGσ hYσ hE hth H locs ls hH hl hc
  have B := K.1
  have hl9 := K.2.2.2.2.2.2
  unfold w_X11_lookUpTo_31 at h
  refine lv_aloadQ B.1 B.2.1 dX11_lookUpTo_31 (lv_at hl 5 rfl) ?_
  obtain ⟨a84, ea84, h⟩ := h
  have ka84 : kO σ a84 0 := g6 a84 ea84
  have h := h ka84
  refine W.eq (g2 := F0 m 33 ls [.ref a84]) (by rw [ea84]; rfl) ?_
  refine f_getl B hH ka84 (by decide) rfl wu_X0 5 (by decide) wf_X11_85 rfl rfl dX11_lookUpTo_33 ?_
  refine lv_lload_n B.1 B.2.1 dX11_lookUpTo_36 rfl (lv_at hl 3 rfl) ?_
  refine W.lcmp B.1 B.2.1 dX11_lookUpTo_37 ?_
  refine lv_if_gt (tgt := 176) B.1 B.2.1 dX11_lookUpTo_38 (by decide) (fun h9 => ?_) (fun h9 => ?_)
  · rw [if_pos ((lg_cmp_gt _ _).mp h9)] at h
    exact a_X11_lookUpTo_176 K hQ hX hTh _ _ _ _ g2 g5 h hGσ hYσ hE hth _ _ _ hH (lv_sub (l' := [(0, .ref th), (2, va_rf v2), (3, .long v3), (5, .int (i32 v5))]) hl [0, 2, 3, 4] rfl) hc
  · rw [if_neg (fun q => h9 ((lg_cmp_gt _ _).mpr q))] at h
    exact a_X11_lookUpTo_41 K hQ hX hTh hK26 _ _ _ _ _ _ g1 g2 g5 g6 h hGσ hYσ hE hth _ _ _ hH (lv_sub (l' := [(0, .ref th), (1, va_rf v1), (2, va_rf v2), (3, .long v3), (5, .int (i32 v5)), (6, va_rf v6)]) hl [0, 1, 2, 3, 4, 5] rfl) hc
set_option maxRecDepth 20000 in
theorem a_X11_lookUpTo_26 {Q : Sg → Unit → Prop} {X : Sg → String → Prop} {th : Nat} (K : MD l R p s m args c cX11_lookUpTo 9 RX11 D cA tys A n0 s0 9 164 []) (hQ : CQV p l e R s m args below meth c cX11_lookUpTo D cA A n0 s0 QM σi Q) (hX : CX p l e R s m args below meth c 9 D cA A n0 s0 QM σi X) (hTh : CT p l e R s m args below meth c cX11_lookUpTo 9 D cA A n0 s0 QM σi RX11 X) {K26 : Sg → Option Nat → Option Nat → Int64 → Int → Option Nat → Prop} (hK26 : ∀ (σ : Sg) (v1 : Option Nat) (v2 : Option Nat) (v3 : Int64) (v5 : Int) (v6 : Option Nat) (g1 : tyV σ 5 v1) (g2 : tyV σ 10 v2) (g5 : rng v5) (g6 : tyV σ 0 v6), K26 σ v1 v2 v3 v5 v6 → RG σ → TY σ → Ext σi σ → kO σ th 11 → JJ p l e R s m args below meth c 9 D cA A n0 s0 QM σ 26 [(0, .ref th), (1, va_rf v1), (2, va_rf v2), (3, .long v3), (5, .int (i32 v5)), (6, va_rf v6)] []) : ∀ (σ : Sg) (v1 : Option Nat) (v2 : Option Nat) (v3 : Int64) (v5 : Int) (v6 : Option Nat) (g1 : tyV σ 5 v1) (g2 : tyV σ 10 v2) (g5 : rng v5) (g6 : tyV σ 0 v6), w_X11_lookUpTo_26 th K26 Q X σ v1 v2 v3 v5 v6 → RG σ → TY σ → Ext σi σ → kO σ th 11 → JJ p l e R s m args below meth c 9 D cA A n0 s0 QM σ 26 [(0, .ref th), (1, va_rf v1), (2, va_rf v2), (3, .long v3), (5, .int (i32 v5)), (6, va_rf v6)] [] := by
  intro σ v1 v2 v3 v5 v6 g1 g2 g5 g6 h hGσ hYσ hE hth H locs ls hH hl hc
  have B := K.1
  have hl9 := K.2.2.2.2.2.2
  unfold w_X11_lookUpTo_26 at h
  refine lv_aloadQ B.1 B.2.1 dX11_lookUpTo_26 (lv_at hl 5 rfl) ?_
  refine lv_ifnullQ (tgt := 176) B.1 B.2.1 dX11_lookUpTo_28 (by decide) (fun h9 => ?_) (fun h9 => ?_)
  · rw [if_pos (h9)] at h
    exact a_X11_lookUpTo_176 K hQ hX hTh _ _ _ _ g2 g5 h hGσ hYσ hE hth _ _ _ hH (lv_sub (l' := [(0, .ref th), (2, va_rf v2), (3, .long v3), (5, .int (i32 v5))]) hl [0, 2, 3, 4] rfl) hc
  · rw [if_neg (h9)] at h
    exact a_X11_lookUpTo_31 K hQ hX hTh hK26 _ _ _ _ _ _ g1 g2 g5 g6 h hGσ hYσ hE hth _ _ _ hH (lv_sub (l' := [(0, .ref th), (1, va_rf v1), (2, va_rf v2), (3, .long v3), (5, .int (i32 v5)), (6, va_rf v6)]) hl [0, 1, 2, 3, 4, 5] rfl) hc
theorem al_X11_lookUpTo_26 {Q : Sg → Unit → Prop} {X : Sg → String → Prop} {th : Nat} (K : MD l R p s m args c cX11_lookUpTo 9 RX11 D cA tys A n0 s0 9 164 []) (hQ : CQV p l e R s m args below meth c cX11_lookUpTo D cA A n0 s0 QM σi Q) (hX : CX p l e R s m args below meth c 9 D cA A n0 s0 QM σi X) (hTh : CT p l e R s m args below meth c cX11_lookUpTo 9 D cA A n0 s0 QM σi RX11 X) : ∀ (n : Nat), ∀ (σ : Sg) (v1 : Option Nat) (v2 : Option Nat) (v3 : Int64) (v5 : Int) (v6 : Option Nat) (g1 : tyV σ 5 v1) (g2 : tyV σ 10 v2) (g5 : rng v5) (g6 : tyV σ 0 v6), wl_X11_lookUpTo_26 th Q X n σ v1 v2 v3 v5 v6 → RG σ → TY σ → Ext σi σ → kO σ th 11 → JJ p l e R s m args below meth c 9 D cA A n0 s0 QM σ 26 [(0, .ref th), (1, va_rf v1), (2, va_rf v2), (3, .long v3), (5, .int (i32 v5)), (6, va_rf v6)] [] := by
  intro n
  induction n with
  | zero => intro σ v1 v2 v3 v5 v6 g1 g2 g5 g6 h; exact h.elim
  | succ n ih => exact fun σ v1 v2 v3 v5 v6 g1 g2 g5 g6 h => a_X11_lookUpTo_26 K hQ hX hTh ih σ v1 v2 v3 v5 v6 g1 g2 g5 g6 h
set_option maxRecDepth 20000 in
theorem a_X11_lookUpTo_0 {Q : Sg → Unit → Prop} {X : Sg → String → Prop} {th : Nat} (K : MD l R p s m args c cX11_lookUpTo 9 RX11 D cA tys A n0 s0 9 164 []) (hQ : CQV p l e R s m args below meth c cX11_lookUpTo D cA A n0 s0 QM σi Q) (hX : CX p l e R s m args below meth c 9 D cA A n0 s0 QM σi X) (hTh : CT p l e R s m args below meth c cX11_lookUpTo 9 D cA A n0 s0 QM σi RX11 X) : ∀ (σ : Sg) (v1 : Option Nat) (v2 : Option Nat) (v3 : Int64) (g1 : tyV σ 5 v1) (g2 : tyV σ 10 v2), w_X11_lookUpTo_0 th Q X σ v1 v2 v3 → RG σ → TY σ → Ext σi σ → kO σ th 11 → JJ p l e R s m args below meth c 9 D cA A n0 s0 QM σ 0 [(0, .ref th), (1, va_rf v1), (2, va_rf v2), (3, .long v3)] [] := by
  intro σ v1 v2 v3 g1 g2 h hGσ hYσ hE hth H locs ls hH hl hc
  have B := K.1
  have hl9 := K.2.2.2.2.2.2
  unfold w_X11_lookUpTo_0 at h
  refine lv_aload_n B.1 B.2.1 dX11_lookUpTo_0 rfl (lv_at hl 0 rfl) ?_
  refine f_getp B hH hth (by decide) rfl wu_X11 5 (by decide) wf_X11_136 rfl rfl dX11_lookUpTo_1 ?_
  obtain ⟨a85, ea85, h⟩ := h
  have ka85 : kO σ a85 4 := (hYσ.get hth (by decide)) a85 ea85
  have h := h ka85
  refine W.eq (g2 := F0 m 4 ls [.ref a85]) (by rw [ea85]; rfl) ?_
  refine f_getp B hH ka85 (by decide) rfl wu_X4 0 (by decide) wf_X11_140 rfl rfl dX11_lookUpTo_4 ?_
  refine lv_aload_nQ B.1 B.2.1 dX11_lookUpTo_7 rfl (lv_at hl 1 rfl) ?_
  obtain ⟨a86, ea86, h⟩ := h
  have ka86 : kO σ a86 5 := g1 a86 ea86
  have h := h ka86
  refine W.eq (g2 := F0 m 8 ls [.ref a86, va_rf (gP σ a85 0)]) (by rw [ea86]; rfl) ?_
  refine f_geti B hH ka86 (by decide) rfl wu_X5 8 (by decide) wf_X11_146 rfl rfl dX11_lookUpTo_8 ?_
  obtain ⟨a87, ea87, h⟩ := h
  have ka87 : kO σ a87 115 := (hYσ.get ka85 (by decide)) a87 ea87
  have h := h ka87
  obtain ⟨q1, h⟩ := h
  refine W.eq (g2 := F0 m 11 ls [.int (i32 (gI σ a86 8)), .ref a87]) (by rw [ea87]; rfl) ?_
  refine y_aald B hH (t0 := 6) ka87 (by decide) K.2.1.2.2.2.1 q1 (hYσ.2 _) dX11_lookUpTo_11 ?_
  obtain ⟨a88, ea88, h⟩ := h
  have ka88 : kO σ a88 5 := (hYσ.get ka87 rfl) a88 ea88
  have h := h ka88
  refine W.eq (g2 := F0 m 12 ls [.ref a88]) (by rw [ea88]; rfl) ?_
  refine f_geti B hH ka88 (by decide) rfl wu_X5 3 (by decide) wf_X11_152 rfl rfl dX11_lookUpTo_12 ?_
  refine lv_istore (lv' := [(5, .int (i32 (gI σ a88 3))), (0, .ref th), (1, va_rf v1), (2, va_rf v2), (3, .long v3)]) B.1 B.2.1 dX11_lookUpTo_15 hl (by decide) rfl (fun ls hl => ?_)
  refine lv_aload_nQ B.1 B.2.1 dX11_lookUpTo_17 rfl (lv_at hl 3 rfl) ?_
  obtain ⟨a89, ea89, h⟩ := h
  have ka89 : kO σ a89 10 := g2 a89 ea89
  have h := h ka89
  refine W.eq (g2 := F0 m 18 ls [.ref a89]) (by rw [ea89]; rfl) ?_
  refine f_getp B hH ka89 (by decide) rfl wu_X10 2 (by decide) wf_X11_105 rfl rfl dX11_lookUpTo_18 ?_
  obtain ⟨a90, ea90, h⟩ := h
  have ka90 : kO σ a90 1 := (hYσ.get ka89 (by decide)) a90 ea90
  have h := h ka90
  refine W.eq (g2 := F0 m 21 ls [.ref a90]) (by rw [ea90]; rfl) ?_
  refine f_getp B hH ka90 (by decide) rfl wu_X1 0 (by decide) wf_X11_225 rfl rfl dX11_lookUpTo_21 ?_
  refine lv_astoreQ (lv' := [(6, va_rf (gP σ a90 0)), (5, .int (i32 (gI σ a88 3))), (0, .ref th), (1, va_rf v1), (2, va_rf v2), (3, .long v3)]) B.1 B.2.1 dX11_lookUpTo_24 hl (by decide) rfl (fun ls hl => ?_)
  obtain ⟨n9, h⟩ := h
  exact al_X11_lookUpTo_26 K hQ hX hTh n9 _ _ _ _ _ _ g1 g2 (hGσ _ _) (hYσ.get ka90 (by decide)) h hGσ hYσ hE hth _ _ _ hH (lv_sub (l' := [(0, .ref th), (1, va_rf v1), (2, va_rf v2), (3, .long v3), (5, .int (i32 (gI σ a88 3))), (6, va_rf (gP σ a90 0))]) hl [2, 3, 4, 5, 1, 0] rfl) hc
theorem ok_X11_lookUpTo (hl0 : l.stackTraces = false) (hT : TyC cA tys) {Q : Sg → Unit → Prop} {X : Sg → String → Prop} (σ : Sg) (th : Nat) (v1 : Option Nat) (v2 : Option Nat) (v3 : Int64) (g1 : tyV σ 5 v1) (g2 : tyV σ 10 v2) (hth : kO σ th 11) (hG : RG σ) (hY : TY σ) (h : wp_X11_lookUpTo th v1 v2 v3 σ Q X) : Ok l D cA tys A yX11_lookUpTo (.code yX11_lookUpTo cX11_lookUpTo 9 none) 9 164 [.ref th, va_rf v1, va_rf v2, .long v3] σ (QcV σ Q) (QxC σ X) := by
  unfold wp_X11_lookUpTo at h
  exact oc_V hl0 (by decide) (by cases v1 <;> cases v2 <;> exact Nat.le_of_ble_eq_true rfl) hT (fun p e R s m args below meth c K hQ hX hTh hin9 H locs ls hH hl hc => a_X11_lookUpTo_0 K hQ hX hTh σ v1 v2 v3 g1 g2 h hG hY (Ext.rfl' σ) hth H locs ls hH (lv_sub (l' := [(0, .ref th), (1, va_rf v1), (2, va_rf v2), (3, .long v3)]) hl [0, 1, 2, 3] (by cases v1 <;> cases v2 <;> rfl)) hc)
theorem dX11_goOnBy_0 : decode cX11_goOnBy 0 = .ok (.aconst_null, 1) := by decide +kernel
theorem dX11_goOnBy_1 : decode cX11_goOnBy 1 = .ok (.astore 4, 2) := by decide +kernel
theorem dX11_goOnBy_3 : decode cX11_goOnBy 3 = .ok (.aload_n 2, 1) := by decide +kernel
theorem dX11_goOnBy_4 : decode cX11_goOnBy 4 = .ok (.getfield 117, 3) := by decide +kernel
theorem dX11_goOnBy_7 : decode cX11_goOnBy 7 = .ok (.getfield 225, 3) := by decide +kernel
theorem dX11_goOnBy_10 : decode cX11_goOnBy 10 = .ok (.astore 5, 2) := by decide +kernel
theorem dX11_goOnBy_12 : decode cX11_goOnBy 12 = .ok (.aload 5, 2) := by decide +kernel
theorem dX11_goOnBy_14 : decode cX11_goOnBy 14 = .ok (.ifnull 235, 3) := by decide +kernel
theorem dX11_goOnBy_17 : decode cX11_goOnBy 17 = .ok (.aload 5, 2) := by decide +kernel
theorem dX11_goOnBy_19 : decode cX11_goOnBy 19 = .ok (.getfield 235, 3) := by decide +kernel
theorem dX11_goOnBy_22 : decode cX11_goOnBy 22 = .ok (.astore 6, 2) := by decide +kernel
theorem dX11_goOnBy_24 : decode cX11_goOnBy 24 = .ok (.aload 5, 2) := by decide +kernel
theorem dX11_goOnBy_26 : decode cX11_goOnBy 26 = .ok (.getfield 72, 3) := by decide +kernel
theorem dX11_goOnBy_29 : decode cX11_goOnBy 29 = .ok (.aload_n 3, 1) := by decide +kernel
theorem dX11_goOnBy_30 : decode cX11_goOnBy 30 = .ok (.getfield 72, 3) := by decide +kernel
theorem dX11_goOnBy_33 : decode cX11_goOnBy 33 = .ok (.lcmp, 1) := by decide +kernel
theorem dX11_goOnBy_34 : decode cX11_goOnBy 34 = .ok (.ifCond .ne 7, 3) := by decide +kernel
theorem dX11_goOnBy_37 : decode cX11_goOnBy 37 = .ok (.iconst 1, 1) := by decide +kernel
theorem dX11_goOnBy_38 : decode cX11_goOnBy 38 = .ok (.goto 4, 3) := by decide +kernel
theorem dX11_goOnBy_41 : decode cX11_goOnBy 41 = .ok (.iconst 0, 1) := by decide +kernel
theorem dX11_goOnBy_42 : decode cX11_goOnBy 42 = .ok (.istore 7, 2) := by decide +kernel
theorem dX11_goOnBy_44 : decode cX11_goOnBy 44 = .ok (.iload 7, 2) := by decide +kernel
theorem dX11_goOnBy_46 : decode cX11_goOnBy 46 = .ok (.ifCond .eq 26, 3) := by decide +kernel
theorem dX11_goOnBy_49 : decode cX11_goOnBy 49 = .ok (.aload_n 3, 1) := by decide +kernel
theorem dX11_goOnBy_50 : decode cX11_goOnBy 50 = .ok (.getfield 85, 3) := by decide +kernel
theorem dX11_goOnBy_53 : decode cX11_goOnBy 53 = .ok (.aload 5, 2) := by decide +kernel
theorem dX11_goOnBy_55 : decode cX11_goOnBy 55 = .ok (.getfield 92, 3) := by decide +kernel
theorem dX11_goOnBy_58 : decode cX11_goOnBy 58 = .ok (.lsub, 1) := by decide +kernel
theorem dX11_goOnBy_59 : decode cX11_goOnBy 59 = .ok (.aload_n 1, 1) := by decide +kernel
theorem dX11_goOnBy_60 : decode cX11_goOnBy 60 = .ok (.getfield 110, 3) := by decide +kernel
theorem dX11_goOnBy_63 : decode cX11_goOnBy 63 = .ok (.i2l, 1) := by decide +kernel
theorem dX11_goOnBy_64 : decode cX11_goOnBy 64 = .ok (.lcmp, 1) := by decide +kernel
theorem dX11_goOnBy_65 : decode cX11_goOnBy 65 = .ok (.ifCond .le 7, 3) := by decide +kernel
theorem dX11_goOnBy_68 : decode cX11_goOnBy 68 = .ok (.iconst 1, 1) := by decide +kernel
theorem dX11_goOnBy_69 : decode cX11_goOnBy 69 = .ok (.goto 4, 3) := by decide +kernel
theorem dX11_goOnBy_72 : decode cX11_goOnBy 72 = .ok (.iconst 0, 1) := by decide +kernel
theorem dX11_goOnBy_73 : decode cX11_goOnBy 73 = .ok (.istore 8, 2) := by decide +kernel
theorem dX11_goOnBy_75 : decode cX11_goOnBy 75 = .ok (.iload 7, 2) := by decide +kernel
theorem dX11_goOnBy_77 : decode cX11_goOnBy 77 = .ok (.ifCond .eq 55, 3) := by decide +kernel
theorem dX11_goOnBy_80 : decode cX11_goOnBy 80 = .ok (.iload 8, 2) := by decide +kernel
theorem dX11_goOnBy_82 : decode cX11_goOnBy 82 = .ok (.ifCond .ne 50, 3) := by decide +kernel
theorem dX11_goOnBy_85 : decode cX11_goOnBy 85 = .ok (.aload_n 3, 1) := by decide +kernel
theorem dX11_goOnBy_86 : decode cX11_goOnBy 86 = .ok (.getfield 276, 3) := by decide +kernel
theorem dX11_goOnBy_89 : decode cX11_goOnBy 89 = .ok (.aload 5, 2) := by decide +kernel
theorem dX11_goOnBy_91 : decode cX11_goOnBy 91 = .ok (.getfield 276, 3) := by decide +kernel
theorem dX11_goOnBy_94 : decode cX11_goOnBy 94 = .ok (.ishr, 1) := by decide +kernel
theorem dX11_goOnBy_95 : decode cX11_goOnBy 95 = .ok (.iconst 1, 1) := by decide +kernel
theorem dX11_goOnBy_96 : decode cX11_goOnBy 96 = .ok (.iand, 1) := by decide +kernel
theorem dX11_goOnBy_97 : decode cX11_goOnBy 97 = .ok (.ifCond .eq 35, 3) := by decide +kernel
theorem dX11_goOnBy_100 : decode cX11_goOnBy 100 = .ok (.aload 5, 2) := by decide +kernel
theorem dX11_goOnBy_102 : decode cX11_goOnBy 102 = .ok (.dup, 1) := by decide +kernel
theorem dX11_goOnBy_103 : decode cX11_goOnBy 103 = .ok (.getfield 276, 3) := by decide +kernel
theorem dX11_goOnBy_106 : decode cX11_goOnBy 106 = .ok (.iconst 1, 1) := by decide +kernel
theorem dX11_goOnBy_107 : decode cX11_goOnBy 107 = .ok (.iadd, 1) := by decide +kernel
theorem dX11_goOnBy_108 : decode cX11_goOnBy 108 = .ok (.putfield 276, 3) := by decide +kernel
theorem dX11_goOnBy_111 : decode cX11_goOnBy 111 = .ok (.aload 5, 2) := by decide +kernel
theorem dX11_goOnBy_113 : decode cX11_goOnBy 113 = .ok (.aload_n 0, 1) := by decide +kernel
theorem dX11_goOnBy_114 : decode cX11_goOnBy 114 = .ok (.getfield 22, 3) := by decide +kernel
theorem dX11_goOnBy_117 : decode cX11_goOnBy 117 = .ok (.aload 5, 2) := by decide +kernel
theorem dX11_goOnBy_119 : decode cX11_goOnBy 119 = .ok (.getfield 195, 3) := by decide +kernel
theorem dX11_goOnBy_122 : decode cX11_goOnBy 122 = .ok (.aload_n 3, 1) := by decide +kernel
theorem dX11_goOnBy_123 : decode cX11_goOnBy 123 = .ok (.getfield 195, 3) := by decide +kernel
theorem dX11_goOnBy_126 : decode cX11_goOnBy 126 = .ok (.invokevirtual 228, 3) := by decide +kernel
theorem dX11_goOnBy_129 : decode cX11_goOnBy 129 = .ok (.putfield 195, 3) := by decide +kernel
theorem dX11_goOnBy_132 : decode cX11_goOnBy 132 = .ok (.iload 8, 2) := by decide +kernel
theorem dX11_goOnBy_134 : decode cX11_goOnBy 134 = .ok (.ifCond .eq 16, 3) := by decide +kernel
theorem dX11_goOnBy_137 : decode cX11_goOnBy 137 = .ok (.aload_n 0, 1) := by decide +kernel
theorem dX11_goOnBy_138 : decode cX11_goOnBy 138 = .ok (.aload_n 2, 1) := by decide +kernel
theorem dX11_goOnBy_139 : decode cX11_goOnBy 139 = .ok (.getfield 117, 3) := by decide +kernel
theorem dX11_goOnBy_142 : decode cX11_goOnBy 142 = .ok (.aload 4, 2) := by decide +kernel
theorem dX11_goOnBy_144 : decode cX11_goOnBy 144 = .ok (.invokevirtual 257, 3) := by decide +kernel
theorem dX11_goOnBy_147 : decode cX11_goOnBy 147 = .ok (.goto 95, 3) := by decide +kernel
theorem dX11_goOnBy_150 : decode cX11_goOnBy 150 = .ok (.aload 5, 2) := by decide +kernel
theorem dX11_goOnBy_152 : decode cX11_goOnBy 152 = .ok (.getfield 276, 3) := by decide +kernel
theorem dX11_goOnBy_155 : decode cX11_goOnBy 155 = .ok (.aload_n 1, 1) := by decide +kernel
theorem dX11_goOnBy_156 : decode cX11_goOnBy 156 = .ok (.getfield 198, 3) := by decide +kernel
theorem dX11_goOnBy_159 : decode cX11_goOnBy 159 = .ok (.if_icmp .ne 79, 3) := by decide +kernel
theorem dX11_goOnBy_162 : decode cX11_goOnBy 162 = .ok (.aload_n 2, 1) := by decide +kernel
theorem dX11_goOnBy_163 : decode cX11_goOnBy 163 = .ok (.getfield 117, 3) := by decide +kernel
theorem dX11_goOnBy_166 : decode cX11_goOnBy 166 = .ok (.aload 4, 2) := by decide +kernel
theorem dX11_goOnBy_168 : decode cX11_goOnBy 168 = .ok (.invokevirtual 238, 3) := by decide +kernel
theorem dX11_goOnBy_171 : decode cX11_goOnBy 171 = .ok (.pop, 1) := by decide +kernel
theorem dX11_goOnBy_172 : decode cX11_goOnBy 172 = .ok (.aload_n 0, 1) := by decide +kernel
theorem dX11_goOnBy_173 : decode cX11_goOnBy 173 = .ok (.dup, 1) := by decide +kernel
theorem dX11_goOnBy_174 : decode cX11_goOnBy 174 = .ok (.getfield 165, 3) := by decide +kernel
theorem dX11_goOnBy_177 : decode cX11_goOnBy 177 = .ok (.iconst 1, 1) := by decide +kernel
theorem dX11_goOnBy_178 : decode cX11_goOnBy 178 = .ok (.isub, 1) := by decide +kernel
theorem dX11_goOnBy_179 : decode cX11_goOnBy 179 = .ok (.putfield 165, 3) := by decide +kernel
theorem dX11_goOnBy_182 : decode cX11_goOnBy 182 = .ok (.aload 5, 2) := by decide +kernel
theorem dX11_goOnBy_184 : decode cX11_goOnBy 184 = .ok (.aload_n 3, 1) := by decide +kernel
theorem dX11_goOnBy_185 : decode cX11_goOnBy 185 = .ok (.getfield 85, 3) := by decide +kernel
theorem dX11_goOnBy_188 : decode cX11_goOnBy 188 = .ok (.putfield 85, 3) := by decide +kernel
theorem dX11_goOnBy_191 : decode cX11_goOnBy 191 = .ok (.aload 5, 2) := by decide +kernel
theorem dX11_goOnBy_193 : decode cX11_goOnBy 193 = .ok (.getfield 64, 3) := by decide +kernel
theorem dX11_goOnBy_196 : decode cX11_goOnBy 196 = .ok (.iconst 0, 1) := by decide +kernel
theorem dX11_goOnBy_197 : decode cX11_goOnBy 197 = .ok (.aload 5, 2) := by decide +kernel
theorem dX11_goOnBy_199 : decode cX11_goOnBy 199 = .ok (.getfield 72, 3) := by decide +kernel
theorem dX11_goOnBy_202 : decode cX11_goOnBy 202 = .ok (.lastore, 1) := by decide +kernel
theorem dX11_goOnBy_203 : decode cX11_goOnBy 203 = .ok (.aload 5, 2) := by decide +kernel
theorem dX11_goOnBy_205 : decode cX11_goOnBy 205 = .ok (.getfield 64, 3) := by decide +kernel
theorem dX11_goOnBy_208 : decode cX11_goOnBy 208 = .ok (.iconst 1, 1) := by decide +kernel
theorem dX11_goOnBy_209 : decode cX11_goOnBy 209 = .ok (.aload 5, 2) := by decide +kernel
theorem dX11_goOnBy_211 : decode cX11_goOnBy 211 = .ok (.getfield 92, 3) := by decide +kernel
theorem dX11_goOnBy_214 : decode cX11_goOnBy 214 = .ok (.lastore, 1) := by decide +kernel
theorem dX11_goOnBy_215 : decode cX11_goOnBy 215 = .ok (.aload 5, 2) := by decide +kernel
theorem dX11_goOnBy_217 : decode cX11_goOnBy 217 = .ok (.getfield 64, 3) := by decide +kernel
theorem dX11_goOnBy_220 : decode cX11_goOnBy 220 = .ok (.iconst 2, 1) := by decide +kernel
theorem dX11_goOnBy_221 : decode cX11_goOnBy 221 = .ok (.aload_n 3, 1) := by decide +kernel
theorem dX11_goOnBy_222 : decode cX11_goOnBy 222 = .ok (.getfield 85, 3) := by decide +kernel
theorem dX11_goOnBy_225 : decode cX11_goOnBy 225 = .ok (.lastore, 1) := by decide +kernel
theorem dX11_goOnBy_226 : decode cX11_goOnBy 226 = .ok (.aload_n 0, 1) := by decide +kernel
theorem dX11_goOnBy_227 : decode cX11_goOnBy 227 = .ok (.getfield 12, 3) := by decide +kernel
theorem dX11_goOnBy_230 : decode cX11_goOnBy 230 = .ok (.aload 5, 2) := by decide +kernel
theorem dX11_goOnBy_232 : decode cX11_goOnBy 232 = .ok (.invokevirtual 42, 3) := by decide +kernel
theorem dX11_goOnBy_235 : decode cX11_goOnBy 235 = .ok (.goto 7, 3) := by decide +kernel
theorem dX11_goOnBy_238 : decode cX11_goOnBy 238 = .ok (.aload 5, 2) := by decide +kernel
theorem dX11_goOnBy_240 : decode cX11_goOnBy 240 = .ok (.astore 4, 2) := by decide +kernel
theorem dX11_goOnBy_242 : decode cX11_goOnBy 242 = .ok (.aload 6, 2) := by decide +kernel
theorem dX11_goOnBy_244 : decode cX11_goOnBy 244 = .ok (.astore 5, 2) := by decide +kernel
theorem dX11_goOnBy_246 : decode cX11_goOnBy 246 = .ok (.goto (-234), 3) := by decide +kernel
theorem dX11_goOnBy_249 : decode cX11_goOnBy 249 = .ok (.return_, 1) := by decide +kernel
set_option maxRecDepth 20000 in
theorem a_X11_goOnBy_249 {Q : Sg → Unit → Prop} {X : Sg → String → Prop} {th : Nat} (K : MD l R p s m args c cX11_goOnBy 9 RX11 D cA tys A n0 s0 8 136 []) (hQ : CQV p l e R s m args below meth c cX11_goOnBy D cA A n0 s0 QM σi Q) (hX : CX p l e R s m args below meth c 9 D cA A n0 s0 QM σi X) (hTh : CT p l e R s m args below meth c cX11_goOnBy 9 D cA A n0 s0 QM σi RX11 X) : ∀ (σ : Sg), w_X11_goOnBy_249 th Q X σ → RG σ → TY σ → Ext σi σ → kO σ th 11 → JJ p l e R s m args below meth c 9 D cA A n0 s0 QM σ 249 [(0, .ref th)] [] := by
  intro σ h hGσ hYσ hE hth H locs ls hH hl hc
  have B := K.1
  have hl9 := K.2.2.2.2.2.2
  unfold w_X11_goOnBy_249 at h
  exact hQ _ _ _ _ _ dX11_goOnBy_249 hH hc h hGσ hYσ hE
set_option maxRecDepth 20000 in
theorem a_X11_goOnBy_242 {Q : Sg → Unit → Prop} {X : Sg → String → Prop} {th : Nat} (K : MD l R p s m args c cX11_goOnBy 9 RX11 D cA tys A n0 s0 8 136 []) (hQ : CQV p l e R s m args below meth c cX11_goOnBy D cA A n0 s0 QM σi Q) (hX : CX p l e R s m args below meth c 9 D cA A n0 s0 QM σi X) (hTh : CT p l e R s m args below meth c cX11_goOnBy 9 D cA A n0 s0 QM σi RX11 X) {K12 : Sg → Option Nat → Option Nat → Option Nat → Option Nat → Option Nat → Prop} (hK12 : ∀ (σ : Sg) (v1 : Option Nat) (v2 : Option Nat) (v3 : Option Nat) (v4 : Option Nat) (v5 : Option Nat) (g1 : tyV σ 5 v1) (g2 : tyV σ 10 v2) (g3 : tyV σ 0 v3) (g4 : tyV σ 0 v4) (g5 : tyV σ 0 v5), K12 σ v1 v2 v3 v4 v5 → RG σ → TY σ → Ext σi σ → kO σ th 11 → JJ p l e R s m args below meth c 9 D cA A n0 s0 QM σ 12 [(0, .ref th), (1, va_rf v1), (2, va_rf v2), (3, va_rf v3), (4, va_rf v4), (5, va_rf v5)] []) : ∀ (σ : Sg) (v1 : Option Nat) (v2 : Option Nat) (v3 : Option Nat) (v4 : Option Nat) (v6 : Option Nat) (g1 : tyV σ 5 v1) (g2 : tyV σ 10 v2) (g3 : tyV σ 0 v3) (g4 : tyV σ 0 v4) (g6 : tyV σ 0 v6), w_X11_goOnBy_242 th K12 Q X σ v1 v2 v3 v4 v6 → RG σ → TY σ → Ext σi σ → kO σ th 11 → JJ p l e R s m args below meth c 9 D cA A n0 s0 QM σ 242 [(0, .ref th), (1, va_rf v1), (2, va_rf v2), (3, va_rf v3), (4, va_rf v4), (6, va_rf v6)] [] := by
  intro σ v1 v2 v3 v4 v6 g1 g2 g3 g4 g6 h hGσ hYσ hE hth H locs ls hH hl hc
  have B := K.1
  have hl9 := K.2.2.2.2.2.2
  unfold w_X11_goOnBy_242 at h
  refine lv_aloadQ B.1 B.2.1 dX11_goOnBy_242 (lv_at hl 5 rfl) ?_
  refine lv_astoreQ (lv' := [(5, va_rf v6), (0, .ref th), (1, va_rf v1), (2, va_rf v2), (3, va_rf v3), (4, va_rf v4), (6, va_rf v6)]) B.1 B.2.1 dX11_goOnBy_244 hl (by decide) (by generalize v4 = w9; cases w9 <;> rfl) (fun ls hl => ?_)
  refine lv_goto (tgt := 12) B.1 B.2.1 dX11_goOnBy_246 (by decide) ?_
  exact hK12 _ _ _ _ _ _ g1 g2 g3 g4 g6 h hGσ hYσ hE hth _ _ _ hH (lv_sub (l' := [(0, .ref th), (1, va_rf v1), (2, va_rf v2), (3, va_rf v3), (4, va_rf v4), (5, va_rf v6)]) hl [1, 2, 3, 4, 5, 0] rfl) hc
set_option maxRecDepth 20000 in
theorem a_X11_goOnBy_238 {Q : Sg → Unit → Prop} {X : Sg → String → Prop} {th : Nat} (K : MD l R p s m args c cX11_goOnBy 9 RX11 D cA tys A n0 s0 8 136 []) (hQ : CQV p l e R s m args below meth c cX11_goOnBy D cA A n0 s0 QM σi Q) (hX : CX p l e R s m args below meth c 9 D cA A n0 s0 QM σi X) (hTh : CT p l e R s m args below meth c cX11_goOnBy 9 D cA A n0 s0 QM σi RX11 X) {K12 : Sg → Option Nat → Option Nat → Option Nat → Option Nat → Option Nat → Prop} (hK12 : ∀ (σ : Sg) (v1 : Option Nat) (v2 : Option Nat) (v3 : Option Nat) (v4 : Option Nat) (v5 : Option Nat) (g1 : tyV σ 5 v1) (g2 : tyV σ 10 v2) (g3 : tyV σ 0 v3) (g4 : tyV σ 0 v4) (g5 : tyV σ 0 v5), K12 σ v1 v2 v3 v4 v5 → RG σ → TY σ → Ext σi σ → kO σ th 11 → JJ p l e R s m args below meth c 9 D cA A n0 s0 QM σ 12 [(0, .ref th), (1, va_rf v1), (2, va_rf v2), (3, va_rf v3), (4, va_rf v4), (5, va_rf v5)] []) : ∀ (σ : Sg) (v1 : Option Nat) (v2 : Option Nat) (v3 : Option Nat) (v5 : Option Nat) (v6 : Option Nat) (g1 : tyV σ 5 v1) (g2 : tyV σ 10 v2) (g3 : tyV σ 0 v3) (g5 : tyV σ 0 v5) (g6 : tyV σ 0 v6), w_X11_goOnBy_238 th K12 Q X σ v1 v2 v3 v5 v6 → RG σ → TY σ → Ext σi σ → kO σ th 11 → JJ p l e R s m args below meth c 9 D cA A n0 s0 QM σ 238 [(0, .ref th), (1, va_rf v1), (2, va_rf v2), (3, va_rf v3), (5, va_rf v5), (6, va_rf v6)] [] := by
  intro σ v1 v2 v3 v5 v6 g1 g2 g3 g5 g6 h hGσ hYσ hE hth H locs ls hH hl hc
  have B := K.1
  have hl9 := K.2.2.2.2.2.2
  unfold w_X11_goOnBy_238 at h
  refine lv_aloadQ B.1 B.2.1 dX11_goOnBy_238 (lv_at hl 4 rfl) ?_
  refine lv_astoreQ (lv' := [(4, va_rf v5), (0, .ref th), (1, va_rf v1), (2, va_rf v2), (3, va_rf v3), (5, va_rf v5), (6, va_rf v6)]) B.1 B.2.1 dX11_goOnBy_240 hl (by decide) (by generalize v3 = w9; cases w9 <;> rfl) (fun ls hl => ?_)
  exact a_X11_goOnBy_242 K hQ hX hTh hK12 _ _ _ _ _ _ g1 g2 g3 g5 g6 h hGσ hYσ hE hth _ _ _ hH (lv_sub (l' := [(0, .ref th), (1, va_rf v1), (2, va_rf v2), (3, va_rf v3), (4, va_rf v5), (6, va_rf v6)]) hl [1, 2, 3, 4, 0, 6] rfl) hc
set_option maxRecDepth 20000 in
theorem a_X11_goOnBy_162 {Q : Sg → Unit → Prop} {X : Sg → String → Prop} {th : Nat} (K : MD l R p s m args c cX11_goOnBy 9 RX11 D cA tys A n0 s0 8 136 []) (hQ : CQV p l e R s m args below meth c cX11_goOnBy D cA A n0 s0 QM σi Q) (hX : CX p l e R s m args below meth c 9 D cA A n0 s0 QM σi X) (hTh : CT p l e R s m args below meth c cX11_goOnBy 9 D cA A n0 s0 QM σi RX11 X) {K12 : Sg → Option Nat → Option Nat → Option Nat → Option Nat → Option Nat → Prop} (hK12 : ∀ (σ : Sg) (v1 : Option Nat) (v2 : Option Nat) (v3 : Option Nat) (v4 : Option Nat) (v5 : Option Nat) (g1 : tyV σ 5 v1) (g2 : tyV σ 10 v2) (g3 : tyV σ 0 v3) (g4 : tyV σ 0 v4) (g5 : tyV σ 0 v5), K12 σ v1 v2 v3 v4 v5 → RG σ → TY σ → Ext σi σ → kO σ th 11 → JJ p l e R s m args below meth c 9 D cA A n0 s0 QM σ 12 [(0, .ref th), (1, va_rf v1), (2, va_rf v2), (3, va_rf v3), (4, va_rf v4), (5, va_rf v5)] []) : ∀ (σ : Sg) (v1 : Option Nat) (v2 : Option Nat) (v3 : Option Nat) (v4 : Option Nat) (v5 : Option Nat) (v6 : Option Nat) (g1 : tyV σ 5 v1) (g2 : tyV σ 10 v2) (g3 : tyV σ 0 v3) (g4 : tyV σ 0 v4) (g5 : tyV σ 0 v5) (g6 : tyV σ 0 v6), w_X11_goOnBy_162 th K12 Q X σ v1 v2 v3 v4 v5 v6 → RG σ → TY σ → Ext σi σ → kO σ th 11 → JJ p l e R s m args below meth c 9 D cA A n0 s0 QM σ 162 [(0, .ref th), (1, va_rf v1), (2, va_rf v2), (3, va_rf v3), (4, va_rf v4), (5, va_rf v5), (6, va_rf v6)] [] := by
  intro σ v1 v2 v3 v4 v5 v6 g1 g2 g3 g4 g5 g6 h hGσ hYσ hE hth H locs ls hH hl hc
  have B := K.1
  have hl9 := K.2.2.2.2.2.2
  unfold w_X11_goOnBy_162 at h
  refine lv_aload_nQ B.1 B.2.1 dX11_goOnBy_162 rfl (lv_at hl 2 rfl) ?_
  obtain ⟨a107, ea107, h⟩ := h
  have ka107 : kO σ a107 10 := g2 a107 ea107
  have h := h ka107
  refine W.eq (g2 := F0 m 163 ls [.ref a107]) (by rw [ea107]; rfl) ?_
  refine f_getp B hH ka107 (by decide) rfl wu_X10 3 (by decide) wf_X11_117 rfl rfl dX11_goOnBy_163 ?_
  refine lv_aloadQ B.1 B.2.1 dX11_goOnBy_166 (lv_at hl 4 rfl) ?_
  obtain ⟨a110, ea110, h⟩ := h
  have ka110 : kO σ a110 1 := (hYσ.get ka107 (by decide)) a110 ea110
  have h := h ka110
  refine W.eq (g2 := F0 m 168 ls [va_rf v4, .ref a110]) (by rw [ea110]; rfl) ?_
  refine c_V B hH hl hc K.2.2.1 (C := RX1) (T := TX1) (N := 3) (ci := 1) (As := [va_rf v4]) (ok_X1_cutBehind hl9 K.2.1 σ a110 v4 g4 ka110 hGσ hYσ h) wc_X11_238 1 hd_X1_cutBehind ⟨Nat.le_trans (Nat.le_of_ble_eq_true rfl) K.2.2.2.1, Nat.le_trans (Nat.le_of_ble_eq_true rfl) K.2.2.2.2.1⟩ ka110.1 ka110.2 (by decide) rfl rfl (rest := []) rfl (Nat.le_of_ble_eq_true rfl) dX11_goOnBy_168 (fun σ108 w hq => ?_) (fun σ9 E9 hx9 => hX σ9 E9 _ _ _ (tb_out K.2.2.2.2.2.1 rfl) hx9.1 hx9.2.1 hx9.2.2.1 (hE.trans hx9.2.2.2))
  obtain ⟨r109, rfl, tr109, h, hGσ108, hYσ108, xσ108⟩ := hq
  have h := h xσ108 tr109
  intro H locs ls hH hl hc
  refine W.eq (g2 := F0 m 171 ls [va_rf r109]) (rfl) ?_
  try dsimp only at h
  refine lv_pop B.1 B.2.1 dX11_goOnBy_171 (rf_cat _) ?_
  refine lv_aload_n B.1 B.2.1 dX11_goOnBy_172 rfl (lv_at hl 0 rfl) ?_
  refine lv_dup B.1 B.2.1 dX11_goOnBy_173 rfl ?_
  refine f_geti B hH (hth.up xσ108) (by decide) rfl wu_X11 4 (by decide) wf_X11_165 rfl rfl dX11_goOnBy_174 ?_
  refine lv_iconst (v := i32 1) B.1 B.2.1 dX11_goOnBy_177 (by decide) ?_
  obtain ⟨q1, h⟩ := h
  refine lv_isub B.1 B.2.1 dX11_goOnBy_178 ?_
  rw [i32_sub]
  obtain ⟨σ111, eσ111⟩ : ∃ z, z = pI σ108 th 4 (gI σ108 th 4 - 1) := ⟨_, rfl⟩
  have h := h σ111 eσ111
  refine f_puti B hH (hth.up xσ108) (by decide) rfl wu_X11 tyX11 tyX11_ok nmX11 4 (by decide) wf_X11_165 rfl (ty := .int) rfl rfl rfl rfl rfl dX11_goOnBy_179 (fun H locs hH => ?_)
  have hH : Hd D cA A s (pI σ108 th 4 (gI σ108 th 4 - 1)) H locs := hH
  rw [← eσ111] at hH
  have hGσ111 : RG σ111 := by rw [eσ111]; exact hGσ108.pI q1
  have hYσ111 : TY σ111 := by rw [eσ111]; exact hYσ108.pI
  have xσ111 : Ext σ108 σ111 := by rw [eσ111]; exact Ext.pI
  have hc : CB n0 s0 σ111 := by rw [eσ111]; exact hc
  rw [show gc σ108 = gc σ111 by rw [eσ111]; try rfl, show gs σ108 = gs σ111 by rw [eσ111]; try rfl]
  refine lv_aloadQ B.1 B.2.1 dX11_goOnBy_182 (lv_at hl 5 rfl) ?_
  refine lv_aload_nQ B.1 B.2.1 dX11_goOnBy_184 rfl (lv_at hl 3 rfl) ?_
  obtain ⟨a112, ea112, h⟩ := h
  have ka112 : kO σ111 a112 0 := (g3.up (xσ108.trans xσ111)) a112 ea112
  have h := h ka112
  refine W.eq (g2 := F0 m 185 ls [.ref a112, va_rf v5]) (by rw [ea112]; rfl) ?_
  refine f_getl B hH ka112 (by decide) rfl wu_X0 5 (by decide) wf_X11_85 rfl rfl dX11_goOnBy_185 ?_
  obtain ⟨a113, ea113, h⟩ := h
  have ka113 : kO σ111 a113 0 := (g5.up (xσ108.trans xσ111)) a113 ea113
  have h := h ka113
  obtain ⟨σ114, eσ114⟩ : ∃ z, z = pJ σ111 a113 5 (gJ σ111 a112 5) := ⟨_, rfl⟩
  have h := h σ114 eσ114
  refine W.eq (g2 := F0 m 188 ls [.long (gJ σ111 a112 5), .ref a113]) (by rw [ea113]; rfl) ?_
  refine f_putl B hH ka113 (by decide) rfl wu_X0 tyX0 tyX0_ok nmX0 5 (by decide) wf_X11_85 rfl (ty := .long) rfl rfl rfl rfl rfl dX11_goOnBy_188 (fun H locs hH => ?_)
  have hH : Hd D cA A s (pJ σ111 a113 5 (gJ σ111 a112 5)) H locs := hH
  rw [← eσ114] at hH
  have hGσ114 : RG σ114 := by rw [eσ114]; exact hGσ111.pJ
  have hYσ114 : TY σ114 := by rw [eσ114]; exact hYσ111.pJ
  have xσ114 : Ext σ111 σ114 := by rw [eσ114]; exact Ext.pJ
  have hc : CB n0 s0 σ114 := by rw [eσ114]; exact hc
  rw [show gc σ111 = gc σ114 by rw [eσ114]; try rfl, show gs σ111 = gs σ114 by rw [eσ114]; try rfl]
  refine lv_aloadQ B.1 B.2.1 dX11_goOnBy_191 (lv_at hl 5 rfl) ?_
  refine W.eq (g2 := F0 m 193 ls [.ref a113]) (by rw [ea113]; rfl) ?_
  refine f_getp B hH (ka113.up xσ114) (by decide) rfl wu_X0 0 (by decide) wf_X11_64 rfl rfl dX11_goOnBy_193 ?_
  refine lv_iconst (v := i32 0) B.1 B.2.1 dX11_goOnBy_196 (by decide) ?_
  refine lv_aloadQ B.1 B.2.1 dX11_goOnBy_197 (lv_at hl 5 rfl) ?_
  refine W.eq (g2 := F0 m 199 ls [.ref a113, .int (i32 0), va_rf (gP σ114 a113 0)]) (by rw [ea113]; rfl) ?_
  refine f_getl B hH (ka113.up xσ114) (by decide) rfl wu_X0 7 (by decide) wf_X11_72 rfl rfl dX11_goOnBy_199 ?_
  obtain ⟨a115, ea115, h⟩ := h
  have ka115 : kO σ114 a115 101 := (hYσ114.get (ka113.up xσ114) (by decide)) a115 ea115
  have h := h ka115
  obtain ⟨q2, h⟩ := h
  obtain ⟨σ116, eσ116⟩ : ∃ z, z = pJ σ114 a115 0 (gJ σ114 a113 7) := ⟨_, rfl⟩
  have h := h σ116 eσ116
  refine W.eq (g2 := F0 m 202 ls [.long (gJ σ114 a113 7), .int (i32 0), .ref a115]) (by rw [ea115]; rfl) ?_
  refine y_last B K.2.1 hH ka115 q2 dX11_goOnBy_202 (hYσ114.2 _) (fun H locs hH => ?_)
  have hH : Hd D cA A s (pJ σ114 a115 0 (gJ σ114 a113 7)) H locs := hH
  rw [← eσ116] at hH
  have hGσ116 : RG σ116 := by rw [eσ116]; exact hGσ114.pJ
  have hYσ116 : TY σ116 := by rw [eσ116]; exact hYσ114.pJ
  have xσ116 : Ext σ114 σ116 := by rw [eσ116]; exact Ext.pJ
  have hc : CB n0 s0 σ116 := by rw [eσ116]; exact hc
  rw [show gc σ114 = gc σ116 by rw [eσ116]; try rfl, show gs σ114 = gs σ116 by rw [eσ116]; try rfl]
  refine lv_aloadQ B.1 B.2.1 dX11_goOnBy_203 (lv_at hl 5 rfl) ?_
  refine W.eq (g2 := F0 m 205 ls [.ref a113]) (by rw [ea113]; rfl) ?_
  refine f_getp B hH (ka113.up (xσ114.trans xσ116)) (by decide) rfl wu_X0 0 (by decide) wf_X11_64 rfl rfl dX11_goOnBy_205 ?_
  refine lv_iconst (v := i32 1) B.1 B.2.1 dX11_goOnBy_208 (by decide) ?_
  refine lv_aloadQ B.1 B.2.1 dX11_goOnBy_209 (lv_at hl 5 rfl) ?_
  refine W.eq (g2 := F0 m 211 ls [.ref a113, .int (i32 1), va_rf (gP σ116 a113 0)]) (by rw [ea113]; rfl) ?_
  refine f_getl B hH (ka113.up (xσ114.trans xσ116)) (by decide) rfl wu_X0 6 (by decide) wf_X11_92 rfl rfl dX11_goOnBy_211 ?_
  obtain ⟨a117, ea117, h⟩ := h
  have ka117 : kO σ116 a117 101 := (hYσ116.get (ka113.up (xσ114.trans xσ116)) (by decide)) a117 ea117
  have h := h ka117
  obtain ⟨q3, h⟩ := h
  obtain ⟨σ118, eσ118⟩ : ∃ z, z = pJ σ116 a117 1 (gJ σ116 a113 6) := ⟨_, rfl⟩
  have h := h σ118 eσ118
  refine W.eq (g2 := F0 m 214 ls [.long (gJ σ116 a113 6), .int (i32 1), .ref a117]) (by rw [ea117]; rfl) ?_
  refine y_last B K.2.1 hH ka117 q3 dX11_goOnBy_214 (hYσ116.2 _) (fun H locs hH => ?_)
  have hH : Hd D cA A s (pJ σ116 a117 1 (gJ σ116 a113 6)) H locs := hH
  rw [← eσ118] at hH
  have hGσ118 : RG σ118 := by rw [eσ118]; exact hGσ116.pJ
  have hYσ118 : TY σ118 := by rw [eσ118]; exact hYσ116.pJ
  have xσ118 : Ext σ116 σ118 := by rw [eσ118]; exact Ext.pJ
  have hc : CB n0 s0 σ118 := by rw [eσ118]; exact hc
  rw [show gc σ116 = gc σ118 by rw [eσ118]; try rfl, show gs σ116 = gs σ118 by rw [eσ118]; try rfl]
  refine lv_aloadQ B.1 B.2.1 dX11_goOnBy_215 (lv_at hl 5 rfl) ?_
  refine W.eq (g2 := F0 m 217 ls [.ref a113]) (by rw [ea113]; rfl) ?_
  refine f_getp B hH (ka113.up (xσ114.trans (xσ116.trans xσ118))) (by decide) rfl wu_X0 0 (by decide) wf_X11_64 rfl rfl dX11_goOnBy_217 ?_
  refine lv_iconst (v := i32 2) B.1 B.2.1 dX11_goOnBy_220 (by decide) ?_
  refine lv_aload_nQ B.1 B.2.1 dX11_goOnBy_221 rfl (lv_at hl 3 rfl) ?_
  refine W.eq (g2 := F0 m 222 ls [.ref a112, .int (i32 2), va_rf (gP σ118 a113 0)]) (by rw [ea112]; rfl) ?_
  refine f_getl B hH (ka112.up (xσ114.trans (xσ116.trans xσ118))) (by decide) rfl wu_X0 5 (by decide) wf_X11_85 rfl rfl dX11_goOnBy_222 ?_
  obtain ⟨a119, ea119, h⟩ := h
  have ka119 : kO σ118 a119 101 := (hYσ118.get (ka113.up (xσ114.trans (xσ116.trans xσ118))) (by decide)) a119 ea119
  have h := h ka119
  obtain ⟨q4, h⟩ := h
  obtain ⟨σ120, eσ120⟩ : ∃ z, z = pJ σ118 a119 2 (gJ σ118 a112 5) := ⟨_, rfl⟩
  have h := h σ120 eσ120
  refine W.eq (g2 := F0 m 225 ls [.long (gJ σ118 a112 5), .int (i32 2), .ref a119]) (by rw [ea119]; rfl) ?_
  refine y_last B K.2.1 hH ka119 q4 dX11_goOnBy_225 (hYσ118.2 _) (fun H locs hH => ?_)
  have hH : Hd D cA A s (pJ σ118 a119 2 (gJ σ118 a112 5)) H locs := hH
  rw [← eσ120] at hH
  have hGσ120 : RG σ120 := by rw [eσ120]; exact hGσ118.pJ
  have hYσ120 : TY σ120 := by rw [eσ120]; exact hYσ118.pJ
  have xσ120 : Ext σ118 σ120 := by rw [eσ120]; exact Ext.pJ
  have hc : CB n0 s0 σ120 := by rw [eσ120]; exact hc
  rw [show gc σ118 = gc σ120 by rw [eσ120]; try rfl, show gs σ118 = gs σ120 by rw [eσ120]; try rfl]
  refine lv_aload_n B.1 B.2.1 dX11_goOnBy_226 rfl (lv_at hl 0 rfl) ?_
  refine f_getp B hH (hth.up (xσ108.trans (xσ111.trans (xσ114.trans (xσ116.trans (xσ118.trans xσ120)))))) (by decide) rfl wu_X11 2 (by decide) wf_X11_12 rfl rfl dX11_goOnBy_227 ?_
  refine lv_aloadQ B.1 B.2.1 dX11_goOnBy_230 (lv_at hl 5 rfl) ?_
  obtain ⟨a122, ea122, h⟩ := h
  have ka122 : kO σ120 a122 1 := (hYσ120.get (hth.up (xσ108.trans (xσ111.trans (xσ114.trans (xσ116.trans (xσ118.trans xσ120)))))) (by decide)) a122 ea122
  have h := h ka122
  refine W.eq (g2 := F0 m 232 ls [va_rf v5, .ref a122]) (by rw [ea122]; rfl) ?_
  refine c_V B hH hl hc K.2.2.1 (C := RX1) (T := TX1) (N := 3) (ci := 1) (As := [va_rf v5]) (ok_X1_add hl9 K.2.1 σ120 a122 v5 (g5.up (xσ108.trans (xσ111.trans (xσ114.trans (xσ116.trans (xσ118.trans xσ120)))))) ka122 hGσ120 hYσ120 h) wc_X11_42 1 hd_X1_add ⟨Nat.le_trans (Nat.le_of_ble_eq_true rfl) K.2.2.2.1, Nat.le_trans (Nat.le_of_ble_eq_true rfl) K.2.2.2.2.1⟩ ka122.1 ka122.2 (by decide) rfl rfl (rest := []) rfl (Nat.le_of_ble_eq_true rfl) dX11_goOnBy_232 (fun σ121 w hq => ?_) (fun σ9 E9 hx9 => hX σ9 E9 _ _ _ (tb_out K.2.2.2.2.2.1 rfl) hx9.1 hx9.2.1 hx9.2.2.1 (((((((hE.trans xσ108).trans xσ111).trans xσ114).trans xσ116).trans xσ118).trans xσ120).trans hx9.2.2.2))
  obtain ⟨rfl, h, hGσ121, hYσ121, xσ121⟩ := hq
  have h := h xσ121
  intro H locs ls hH hl hc
  refine W.eq (g2 := F0 m 235 ls []) (rfl) ?_
  try dsimp only at h
  refine lv_goto (tgt := 242) B.1 B.2.1 dX11_goOnBy_235 (by decide) ?_
  exact a_X11_goOnBy_242 K hQ hX hTh hK12 _ _ _ _ _ _ (g1.up (xσ108.trans (xσ111.trans (xσ114.trans (xσ116.trans (xσ118.trans (xσ120.trans xσ121))))))) (g2.up (xσ108.trans (xσ111.trans (xσ114.trans (xσ116.trans (xσ118.trans (xσ120.trans xσ121))))))) (g3.up (xσ108.trans (xσ111.trans (xσ114.trans (xσ116.trans (xσ118.trans (xσ120.trans xσ121))))))) (g4.up (xσ108.trans (xσ111.trans (xσ114.trans (xσ116.trans (xσ118.trans (xσ120.trans xσ121))))))) (g6.up (xσ108.trans (xσ111.trans (xσ114.trans (xσ116.trans (xσ118.trans (xσ120.trans xσ121))))))) h hGσ121 hYσ121 (((((((hE.trans xσ108).trans xσ111).trans xσ114).trans xσ116).trans xσ118).trans xσ120).trans xσ121) (hth.up (xσ108.trans (xσ111.trans (xσ114.trans (xσ116.trans (xσ118.trans (xσ120.trans xσ121))))))) _ _ _ hH (lv_sub (l' := [(0, .ref th), (1, va_rf v1), (2, va_rf v2), (3, va_rf v3), (4, va_rf v4), (6, va_rf v6)]) hl [0, 1, 2, 3, 4, 6] rfl) hc
set_option maxRecDepth 20000 in
theorem a_X11_goOnBy_150 {Q : Sg → Unit → Prop} {X : Sg → String → Prop} {th : Nat} (K : MD l R p s m args c cX11_goOnBy 9 RX11 D cA tys A n0 s0 8 136 []) (hQ : CQV p l e R s m args below meth c cX11_goOnBy D cA A n0 s0 QM σi Q) (hX : CX p l e R s m args below meth c 9 D cA A n0 s0 QM σi X) (hTh : CT p l e R s m args below meth c cX11_goOnBy 9 D cA A n0 s0 QM σi RX11 X) {K12 : Sg → Option Nat → Option Nat → Option Nat → Option Nat → Option Nat → Prop} (hK12 : ∀ (σ : Sg) (v1 : Option Nat) (v2 : Option Nat) (v3 : Option Nat) (v4 : Option Nat) (v5 : Option Nat) (g1 : tyV σ 5 v1) (g2 : tyV σ 10 v2) (g3 : tyV σ 0 v3) (g4 : tyV σ 0 v4) (g5 : tyV σ 0 v5), K12 σ v1 v2 v3 v4 v5 → RG σ → TY σ → Ext σi σ → kO σ th 11 → JJ p l e R s m args below meth c 9 D cA A n0 s0 QM σ 12 [(0, .ref th), (1, va_rf v1), (2, va_rf v2), (3, va_rf v3), (4, va_rf v4), (5, va_rf v5)] []) : ∀ (σ : Sg) (v1 : Option Nat) (v2 : Option Nat) (v3 : Option Nat) (v4 : Option Nat) (v5 : Option Nat) (v6 : Option Nat) (g1 : tyV σ 5 v1) (g2 : tyV σ 10 v2) (g3 : tyV σ 0 v3) (g4 : tyV σ 0 v4) (g5 : tyV σ 0 v5) (g6 : tyV σ 0 v6), w_X11_goOnBy_150 th K12 Q X σ v1 v2 v3 v4 v5 v6 → RG σ → TY σ → Ext σi σ → kO σ th 11 → JJ p l e R s m args below meth c 9 D cA A n0 s0 QM σ 150 [(0, .ref th), (1, va_rf v1), (2, va_rf v2), (3, va_rf v3), (4, va_rf v4), (5, va_rf v5), (6, va_rf v6)] [] := by
  intro σ v1 v2 v3 v4 v5 v6 g1 g2 g3 g4 g5 g6 h hGσ hYσ hE hth H locs ls hH hl hc
  have B := K.1
  have hl9 := K.2.2.2.2.2.2
  unfold w_X11_goOnBy_150 at h
  refine lv_aloadQ B.1 B.2.1 dX11_goOnBy_150 (lv_at hl 5 rfl) ?_
  obtain ⟨a123, ea123, h⟩ := h
  have ka123 : kO σ a123 0 := g5 a123 ea123
  have h := h ka123
  refine W.eq (g2 := F0 m 152 ls [.ref a123]) (by rw [ea123]; rfl) ?_
  refine f_geti B hH ka123 (by decide) rfl wu_X0 2 (by decide) wf_X11_276 rfl rfl dX11_goOnBy_152 ?_
  refine lv_aload_nQ B.1 B.2.1 dX11_goOnBy_155 rfl (lv_at hl 1 rfl) ?_
  obtain ⟨a124, ea124, h⟩ := h
  have ka124 : kO σ a124 5 := g1 a124 ea124
  have h := h ka124
  refine W.eq (g2 := F0 m 156 ls [.ref a124, .int (i32 (gI σ a123 2))]) (by rw [ea124]; rfl) ?_
  refine f_geti B hH ka124 (by decide) rfl wu_X5 4 (by decide) wf_X11_198 rfl rfl dX11_goOnBy_156 ?_
  refine lv_icmp_ne (tgt := 238) B.1 B.2.1 dX11_goOnBy_159 (by decide) (fun h9 => ?_) (fun h9 => ?_)
  · rw [if_pos (fun q => h9 ((i32_eq (hGσ _ _) (hGσ _ _)).mpr q))] at h
    exact a_X11_goOnBy_238 K hQ hX hTh hK12 _ _ _ _ _ _ g1 g2 g3 g5 g6 h hGσ hYσ hE hth _ _ _ hH (lv_sub (l' := [(0, .ref th), (1, va_rf v1), (2, va_rf v2), (3, va_rf v3), (5, va_rf v5), (6, va_rf v6)]) hl [0, 1, 2, 3, 5, 6] rfl) hc
  · rw [if_neg (fun q => q ((i32_eq (hGσ _ _) (hGσ _ _)).mp h9))] at h
    exact a_X11_goOnBy_162 K hQ hX hTh hK12 _ _ _ _ _ _ _ g1 g2 g3 g4 g5 g6 h hGσ hYσ hE hth _ _ _ hH (lv_sub (l' := [(0, .ref th), (1, va_rf v1), (2, va_rf v2), (3, va_rf v3), (4, va_rf v4), (5, va_rf v5), (6, va_rf v6)]) hl [0, 1, 2, 3, 4, 5, 6] rfl) hc
set_option maxRecDepth 20000 in
theorem a_X11_goOnBy_137 {Q : Sg → Unit → Prop} {X : Sg → String → Prop} {th : Nat} (K : MD l R p s m args c cX11_goOnBy 9 RX11 D cA tys A n0 s0 8 136 []) (hQ : CQV p l e R s m args below meth c cX11_goOnBy D cA A n0 s0 QM σi Q) (hX : CX p l e R s m args below meth c 9 D cA A n0 s0 QM σi X) (hTh : CT p l e R s m args below meth c cX11_goOnBy 9 D cA A n0 s0 QM σi RX11 X) {K12 : Sg → Option Nat → Option Nat → Option Nat → Option Nat → Option Nat → Prop} (hK12 : ∀ (σ : Sg) (v1 : Option Nat) (v2 : Option Nat) (v3 : Option Nat) (v4 : Option Nat) (v5 : Option Nat) (g1 : tyV σ 5 v1) (g2 : tyV σ 10 v2) (g3 : tyV σ 0 v3) (g4 : tyV σ 0 v4) (g5 : tyV σ 0 v5), K12 σ v1 v2 v3 v4 v5 → RG σ → TY σ → Ext σi σ → kO σ th 11 → JJ p l e R s m args below meth c 9 D cA A n0 s0 QM σ 12 [(0, .ref th), (1, va_rf v1), (2, va_rf v2), (3, va_rf v3), (4, va_rf v4), (5, va_rf v5)] []) : ∀ (σ : Sg) (v1 : Option Nat) (v2 : Option Nat) (v3 : Option Nat) (v4 : Option Nat) (v6 : Option Nat) (g1 : tyV σ 5 v1) (g2 : tyV σ 10 v2) (g3 : tyV σ 0 v3) (g4 : tyV σ 0 v4) (g6 : tyV σ 0 v6), w_X11_goOnBy_137 th K12 Q X σ v1 v2 v3 v4 v6 → RG σ → TY σ → Ext σi σ → kO σ th 11 → JJ p l e R s m args below meth c 9 D cA A n0 s0 QM σ 137 [(0, .ref th), (1, va_rf v1), (2, va_rf v2), (3, va_rf v3), (4, va_rf v4), (6, va_rf v6)] [] := by
  intro σ v1 v2 v3 v4 v6 g1 g2 g3 g4 g6 h hGσ hYσ hE hth H locs ls hH hl hc
  have B := K.1
  have hl9 := K.2.2.2.2.2.2
  unfold w_X11_goOnBy_137 at h
  refine lv_aload_n B.1 B.2.1 dX11_goOnBy_137 rfl (lv_at hl 0 rfl) ?_
  refine lv_aload_nQ B.1 B.2.1 dX11_goOnBy_138 rfl (lv_at hl 2 rfl) ?_
  obtain ⟨a125, ea125, h⟩ := h
  have ka125 : kO σ a125 10 := g2 a125 ea125
  have h := h ka125
  refine W.eq (g2 := F0 m 139 ls [.ref a125, .ref th]) (by rw [ea125]; rfl) ?_
  refine f_getp B hH ka125 (by decide) rfl wu_X10 3 (by decide) wf_X11_117 rfl rfl dX11_goOnBy_139 ?_
  refine lv_aloadQ B.1 B.2.1 dX11_goOnBy_142 (lv_at hl 4 rfl) ?_
  refine W.eq (g2 := F0 m 144 ls [va_rf v4, va_rf (gP σ a125 3), .ref th]) (rfl) ?_
  refine c_V B hH hl hc K.2.2.1 (C := RX11) (T := TX11) (N := 6) (ci := 11) (As := [va_rf (gP σ a125 3), va_rf v4]) (ok_X11_drop hl9 K.2.1 σ th (gP σ a125 3) v4 (hYσ.get ka125 (by decide)) g4 hth hGσ hYσ h) wc_X11_257 2 hd_X11_drop ⟨Nat.le_trans (Nat.le_of_ble_eq_true rfl) K.2.2.2.1, Nat.le_trans (Nat.le_of_ble_eq_true rfl) K.2.2.2.2.1⟩ hth.1 hth.2 (by decide) rfl rfl (rest := []) rfl (Nat.le_of_ble_eq_true rfl) dX11_goOnBy_144 (fun σ126 w hq => ?_) (fun σ9 E9 hx9 => hX σ9 E9 _ _ _ (tb_out K.2.2.2.2.2.1 rfl) hx9.1 hx9.2.1 hx9.2.2.1 (hE.trans hx9.2.2.2))
  obtain ⟨rfl, h, hGσ126, hYσ126, xσ126⟩ := hq
  have h := h xσ126
  intro H locs ls hH hl hc
  refine W.eq (g2 := F0 m 147 ls []) (rfl) ?_
  try dsimp only at h
  refine lv_goto (tgt := 242) B.1 B.2.1 dX11_goOnBy_147 (by decide) ?_
  exact a_X11_goOnBy_242 K hQ hX hTh hK12 _ _ _ _ _ _ (g1.up xσ126) (g2.up xσ126) (g3.up xσ126) (g4.up xσ126) (g6.up xσ126) h hGσ126 hYσ126 (hE.trans xσ126) (hth.up xσ126) _ _ _ hH (lv_sub (l' := [(0, .ref th), (1, va_rf v1), (2, va_rf v2), (3, va_rf v3), (4, va_rf v4), (6, va_rf v6)]) hl [0, 1, 2, 3, 4, 5] rfl) hc
set_option maxRecDepth 20000 in
theorem a_X11_goOnBy_132 {Q : Sg → Unit → Prop} {X : Sg → String → Prop} {th : Nat} (K : MD l R p s m args c cX11_goOnBy 9 RX11 D cA tys A n0 s0 8 136 []) (hQ : CQV p l e R s m args below meth c cX11_goOnBy D cA A n0 s0 QM σi Q) (hX : CX p l e R s m args below meth c 9 D cA A n0 s0 QM σi X) (hTh : CT p l e R s m args below meth c cX11_goOnBy 9 D cA A n0 s0 QM σi RX11 X) {K12 : Sg → Option Nat → Option Nat → Option Nat → Option Nat → Option Nat → Prop} (hK12 : ∀ (σ : Sg) (v1 : Option Nat) (v2 : Option Nat) (v3 : Option Nat) (v4 : Option Nat) (v5 : Option Nat) (g1 : tyV σ 5 v1) (g2 : tyV σ 10 v2) (g3 : tyV σ 0 v3) (g4 : tyV σ 0 v4) (g5 : tyV σ 0 v5), K12 σ v1 v2 v3 v4 v5 → RG σ → TY σ → Ext σi σ → kO σ th 11 → JJ p l e R s m args below meth c 9 D cA A n0 s0 QM σ 12 [(0, .ref th), (1, va_rf v1), (2, va_rf v2), (3, va_rf v3), (4, va_rf v4), (5, va_rf v5)] []) : ∀ (σ : Sg) (v1 : Option Nat) (v2 : Option Nat) (v3 : Option Nat) (v4 : Option Nat) (v5 : Option Nat) (v6 : Option Nat) (v8 : Int) (g1 : tyV σ 5 v1) (g2 : tyV σ 10 v2) (g3 : tyV σ 0 v3) (g4 : tyV σ 0 v4) (g5 : tyV σ 0 v5) (g6 : tyV σ 0 v6) (g8 : rng v8), w_X11_goOnBy_132 th K12 Q X σ v1 v2 v3 v4 v5 v6 v8 → RG σ → TY σ → Ext σi σ → kO σ th 11 → JJ p l e R s m args below meth c 9 D cA A n0 s0 QM σ 132 [(0, .ref th), (1, va_rf v1), (2, va_rf v2), (3, va_rf v3), (4, va_rf v4), (5, va_rf v5), (6, va_rf v6), (8, .int (i32 v8))] [] := by
  intro σ v1 v2 v3 v4 v5 v6 v8 g1 g2 g3 g4 g5 g6 g8 h hGσ hYσ hE hth H locs ls hH hl hc
  have B := K.1
  have hl9 := K.2.2.2.2.2.2
  unfold w_X11_goOnBy_132 at h
  refine lv_iload B.1 B.2.1 dX11_goOnBy_132 (lv_at hl 7 rfl) ?_
  refine lv_if_eq (tgt := 150) B.1 B.2.1 dX11_goOnBy_134 (by decide) (fun h9 => ?_) (fun h9 => ?_)
  · rw [if_pos ((z_eq g8).mp h9)] at h
    exact a_X11_goOnBy_150 K hQ hX hTh hK12 _ _ _ _ _ _ _ g1 g2 g3 g4 g5 g6 h hGσ hYσ hE hth _ _ _ hH (lv_sub (l' := [(0, .ref th), (1, va_rf v1), (2, va_rf v2), (3, va_rf v3), (4, va_rf v4), (5, va_rf v5), (6, va_rf v6)]) hl [0, 1, 2, 3, 4, 5, 6] rfl) hc
  · rw [if_neg (fun q => h9 ((z_eq g8).mpr q))] at h
    exact a_X11_goOnBy_137 K hQ hX hTh hK12 _ _ _ _ _ _ g1 g2 g3 g4 g6 h hGσ hYσ hE hth _ _ _ hH (lv_sub (l' := [(0, .ref th), (1, va_rf v1), (2, va_rf v2), (3, va_rf v3), (4, va_rf v4), (6, va_rf v6)]) hl [0, 1, 2, 3, 4, 6] rfl) hc
set_option maxRecDepth 20000 in
theorem a_X11_goOnBy_100 {Q : Sg → Unit → Prop} {X : Sg → String → Prop} {th : Nat} (K : MD l R p s m args c cX11_goOnBy 9 RX11 D cA tys A n0 s0 8 136 []) (hQ : CQV p l e R s m args below meth c cX11_goOnBy D cA A n0 s0 QM σi Q) (hX : CX p l e R s m args below meth c 9 D cA A n0 s0 QM σi X) (hTh : CT p l e R s m args below meth c cX11_goOnBy 9 D cA A n0 s0 QM σi RX11 X) {K12 : Sg → Option Nat → Option Nat → Option Nat → Option Nat → Option Nat → Prop} (hK12 : ∀ (σ : Sg) (v1 : Option Nat) (v2 : Option Nat) (v3 : Option Nat) (v4 : Option Nat) (v5 : Option Nat) (g1 : tyV σ 5 v1) (g2 : tyV σ 10 v2) (g3 : tyV σ 0 v3) (g4 : tyV σ 0 v4) (g5 : tyV σ 0 v5), K12 σ v1 v2 v3 v4 v5 → RG σ → TY σ → Ext σi σ → kO σ th 11 → JJ p l e R s m args below meth c 9 D cA A n0 s0 QM σ 12 [(0, .ref th), (1, va_rf v1), (2, va_rf v2), (3, va_rf v3), (4, va_rf v4), (5, va_rf v5)] []) : ∀ (σ : Sg) (v1 : Option Nat) (v2 : Option Nat) (v3 : Option Nat) (v4 : Option Nat) (v5 : Option Nat) (v6 : Option Nat) (v8 : Int) (g1 : tyV σ 5 v1) (g2 : tyV σ 10 v2) (g3 : tyV σ 0 v3) (g4 : tyV σ 0 v4) (g5 : tyV σ 0 v5) (g6 : tyV σ 0 v6) (g8 : rng v8), w_X11_goOnBy_100 th K12 Q X σ v1 v2 v3 v4 v5 v6 v8 → RG σ → TY σ → Ext σi σ → kO σ th 11 → JJ p l e R s m args below meth c 9 D cA A n0 s0 QM σ 100 [(0, .ref th), (1, va_rf v1), (2, va_rf v2), (3, va_rf v3), (4, va_rf v4), (5, va_rf v5), (6, va_rf v6), (8, .int (i32 v8))] [] := by
  intro σ v1 v2 v3 v4 v5 v6 v8 g1 g2 g3 g4 g5 g6 g8 h hGσ hYσ hE hth H locs ls hH hl hc
  have B := K.1
  have hl9 := K.2.2.2.2.2.2
  unfold w_X11_goOnBy_100 at h
  refine lv_aloadQ B.1 B.2.1 dX11_goOnBy_100 (lv_at hl 5 rfl) ?_
  refine lv_dup B.1 B.2.1 dX11_goOnBy_102 (rf_cat _) ?_
  obtain ⟨a127, ea127, h⟩ := h
  have ka127 : kO σ a127 0 := g5 a127 ea127
  have h := h ka127
  refine W.eq (g2 := F0 m 103 ls [.ref a127, va_rf v5]) (by rw [ea127]; rfl) ?_
  refine f_geti B hH ka127 (by decide) rfl wu_X0 2 (by decide) wf_X11_276 rfl rfl dX11_goOnBy_103 ?_
  refine lv_iconst (v := i32 1) B.1 B.2.1 dX11_goOnBy_106 (by decide) ?_
  refine lv_iadd B.1 B.2.1 dX11_goOnBy_107 ?_
  rw [i32_add]
  refine W.eq (g2 := F0 m 108 ls [.int (i32 (wr (gI σ a127 2 + 1))), va_rf v5]) (by rw [i32_wr]) ?_
  obtain ⟨σ128, eσ128⟩ : ∃ z, z = pI σ a127 2 (wr (gI σ a127 2 + 1)) := ⟨_, rfl⟩
  have h := h σ128 eσ128
  refine W.eq (g2 := F0 m 108 ls [.int (i32 (wr (gI σ a127 2 + 1))), .ref a127]) (by rw [ea127]; rfl) ?_
  refine f_puti B hH ka127 (by decide) rfl wu_X0 tyX0 tyX0_ok nmX0 2 (by decide) wf_X11_276 rfl (ty := .int) rfl rfl rfl rfl rfl dX11_goOnBy_108 (fun H locs hH => ?_)
  have hH : Hd D cA A s (pI σ a127 2 (wr (gI σ a127 2 + 1))) H locs := hH
  rw [← eσ128] at hH
  have hGσ128 : RG σ128 := by rw [eσ128]; exact hGσ.pI (rng_wr _)
  have hYσ128 : TY σ128 := by rw [eσ128]; exact hYσ.pI
  have xσ128 : Ext σ σ128 := by rw [eσ128]; exact Ext.pI
  have hc : CB n0 s0 σ128 := by rw [eσ128]; exact hc
  rw [show gc σ = gc σ128 by rw [eσ128]; try rfl, show gs σ = gs σ128 by rw [eσ128]; try rfl]
  refine lv_aloadQ B.1 B.2.1 dX11_goOnBy_111 (lv_at hl 5 rfl) ?_
  refine lv_aload_n B.1 B.2.1 dX11_goOnBy_113 rfl (lv_at hl 0 rfl) ?_
  refine f_getp B hH (hth.up xσ128) (by decide) rfl wu_X11 0 (by decide) wf_X11_22 rfl rfl dX11_goOnBy_114 ?_
  refine lv_aloadQ B.1 B.2.1 dX11_goOnBy_117 (lv_at hl 5 rfl) ?_
  refine W.eq (g2 := F0 m 119 ls [.ref a127, va_rf (gP σ128 th 0), va_rf v5]) (by rw [ea127]; rfl) ?_
  refine f_geti B hH (ka127.up xσ128) (by decide) rfl wu_X0 4 (by decide) wf_X11_195 rfl rfl dX11_goOnBy_119 ?_
  refine lv_aload_nQ B.1 B.2.1 dX11_goOnBy_122 rfl (lv_at hl 3 rfl) ?_
  obtain ⟨a129, ea129, h⟩ := h
  have ka129 : kO σ128 a129 0 := (g3.up xσ128) a129 ea129
  have h := h ka129
  refine W.eq (g2 := F0 m 123 ls [.ref a129, .int (i32 (gI σ128 a127 4)), va_rf (gP σ128 th 0), va_rf v5]) (by rw [ea129]; rfl) ?_
  refine f_geti B hH ka129 (by decide) rfl wu_X0 4 (by decide) wf_X11_195 rfl rfl dX11_goOnBy_123 ?_
  obtain ⟨a132, ea132, h⟩ := h
  have ka132 : kO σ128 a132 8 := (hYσ128.get (hth.up xσ128) (by decide)) a132 ea132
  have h := h ka132
  refine W.eq (g2 := F0 m 126 ls [.int (i32 (gI σ128 a129 4)), .int (i32 (gI σ128 a127 4)), .ref a132, va_rf v5]) (by rw [ea132]; rfl) ?_
  refine c_V B hH hl hc K.2.2.1 (C := RX8) (T := TX8) (N := 3) (ci := 8) (As := [.int (i32 (gI σ128 a127 4)), .int (i32 (gI σ128 a129 4))]) (ok_X8_together hl9 K.2.1 σ128 a132 (gI σ128 a127 4) (gI σ128 a129 4) (hGσ128 _ _) (hGσ128 _ _) ka132 hGσ128 hYσ128 h) wc_X11_228 2 hd_X8_together ⟨Nat.le_trans (Nat.le_of_ble_eq_true rfl) K.2.2.2.1, Nat.le_trans (Nat.le_of_ble_eq_true rfl) K.2.2.2.2.1⟩ ka132.1 ka132.2 (by decide) rfl rfl (rest := [va_rf v5]) rfl (by simp only [List.map_cons, List.map_nil, rf_cat]; exact Nat.le_of_ble_eq_true rfl) dX11_goOnBy_126 (fun σ130 w hq => ?_) (fun σ9 E9 hx9 => hX σ9 E9 _ _ _ (tb_out K.2.2.2.2.2.1 rfl) hx9.1 hx9.2.1 hx9.2.2.1 ((hE.trans xσ128).trans hx9.2.2.2))
  obtain ⟨r131, rfl, gr131, h, hGσ130, hYσ130, xσ130⟩ := hq
  have h := h xσ130
  intro H locs ls hH hl hc
  refine W.eq (g2 := F0 m 129 ls [.int (i32 r131), va_rf v5]) (rfl) ?_
  try dsimp only at h
  obtain ⟨σ133, eσ133⟩ : ∃ z, z = pI σ130 a127 4 r131 := ⟨_, rfl⟩
  have h := h σ133 eσ133
  refine W.eq (g2 := F0 m 129 ls [.int (i32 r131), .ref a127]) (by rw [ea127]; rfl) ?_
  refine f_puti B hH (ka127.up (xσ128.trans xσ130)) (by decide) rfl wu_X0 tyX0 tyX0_ok nmX0 4 (by decide) wf_X11_195 rfl (ty := .int) rfl rfl rfl rfl rfl dX11_goOnBy_129 (fun H locs hH => ?_)
  have hH : Hd D cA A s (pI σ130 a127 4 r131) H locs := hH
  rw [← eσ133] at hH
  have hGσ133 : RG σ133 := by rw [eσ133]; exact hGσ130.pI gr131
  have hYσ133 : TY σ133 := by rw [eσ133]; exact hYσ130.pI
  have xσ133 : Ext σ130 σ133 := by rw [eσ133]; exact Ext.pI
  have hc : CB n0 s0 σ133 := by rw [eσ133]; exact hc
  rw [show gc σ130 = gc σ133 by rw [eσ133]; try rfl, show gs σ130 = gs σ133 by rw [eσ133]; try rfl]
  exact a_X11_goOnBy_132 K hQ hX hTh hK12 _ _ _ _ _ _ _ _ (g1.up (xσ128.trans (xσ130.trans xσ133))) (g2.up (xσ128.trans (xσ130.trans xσ133))) (g3.up (xσ128.trans (xσ130.trans xσ133))) (g4.up (xσ128.trans (xσ130.trans xσ133))) (g5.up (xσ128.trans (xσ130.trans xσ133))) (g6.up (xσ128.trans (xσ130.trans xσ133))) g8 h hGσ133 hYσ133 (((hE.trans xσ128).trans xσ130).trans xσ133) (hth.up (xσ128.trans (xσ130.trans xσ133))) _ _ _ hH (lv_sub (l' := [(0, .ref th), (1, va_rf v1), (2, va_rf v2), (3, va_rf v3), (4, va_rf v4), (5, va_rf v5), (6, va_rf v6), (8, .int (i32 v8))]) hl [0, 1, 2, 3, 4, 5, 6, 7] rfl) hc
set_option maxRecDepth 20000 in
theorem a_X11_goOnBy_85 {Q : Sg → Unit → Prop} {X : Sg → String → Prop} {th : Nat} (K : MD l R p s m args c cX11_goOnBy 9 RX11 D cA tys A n0 s0 8 136 []) (hQ : CQV p l e R s m args below meth c cX11_goOnBy D cA A n0 s0 QM σi Q) (hX : CX p l e R s m args below meth c 9 D cA A n0 s0 QM σi X) (hTh : CT p l e R s m args below meth c cX11_goOnBy 9 D cA A n0 s0 QM σi RX11 X) {K12 : Sg → Option Nat → Option Nat → Option Nat → Option Nat → Option Nat → Prop} (hK12 : ∀ (σ : Sg) (v1 : Option Nat) (v2 : Option Nat) (v3 : Option Nat) (v4 : Option Nat) (v5 : Option Nat) (g1 : tyV σ 5 v1) (g2 : tyV σ 10 v2) (g3 : tyV σ 0 v3) (g4 : tyV σ 0 v4) (g5 : tyV σ 0 v5), K12 σ v1 v2 v3 v4 v5 → RG σ → TY σ → Ext σi σ → kO σ th 11 → JJ p l e R s m args below meth c 9 D cA A n0 s0 QM σ 12 [(0, .ref th), (1, va_rf v1), (2, va_rf v2), (3, va_rf v3), (4, va_rf v4), (5, va_rf v5)] []) : ∀ (σ : Sg) (v1 : Option Nat) (v2 : Option Nat) (v3 : Option Nat) (v4 : Option Nat) (v5 : Option Nat) (v6 : Option Nat) (v8 : Int) (g1 : tyV σ 5 v1) (g2 : tyV σ 10 v2) (g3 : tyV σ 0 v3) (g4 : tyV σ 0 v4) (g5 : tyV σ 0 v5) (g6 : tyV σ 0 v6) (g8 : rng v8), w_X11_goOnBy_85 th K12 Q X σ v1 v2 v3 v4 v5 v6 v8 → RG σ → TY σ → Ext σi σ → kO σ th 11 → JJ p l e R s m args below meth c 9 D cA A n0 s0 QM σ 85 [(0, .ref th), (1, va_rf v1), (2, va_rf v2), (3, va_rf v3), (4, va_rf v4), (5, va_rf v5), (6, va_rf v6), (8, .int (i32 v8))] [] := by
  intro σ v1 v2 v3 v4 v5 v6 v8 g1 g2 g3 g4 g5 g6 g8 h hGσ hYσ hE hth H locs ls hH hl hc
  have B := K.1
  have hl9 := K.2.2.2.2.2.2
  unfold w_X11_goOnBy_85 at h
  refine lv_aload_nQ B.1 B.2.1 dX11_goOnBy_85 rfl (lv_at hl 3 rfl) ?_
  obtain ⟨a134, ea134, h⟩ := h
  have ka134 : kO σ a134 0 := g3 a134 ea134
  have h := h ka134
  refine W.eq (g2 := F0 m 86 ls [.ref a134]) (by rw [ea134]; rfl) ?_
  refine f_geti B hH ka134 (by decide) rfl wu_X0 2 (by decide) wf_X11_276 rfl rfl dX11_goOnBy_86 ?_
  refine lv_aloadQ B.1 B.2.1 dX11_goOnBy_89 (lv_at hl 5 rfl) ?_
  obtain ⟨a135, ea135, h⟩ := h
  have ka135 : kO σ a135 0 := g5 a135 ea135
  have h := h ka135
  refine W.eq (g2 := F0 m 91 ls [.ref a135, .int (i32 (gI σ a134 2))]) (by rw [ea135]; rfl) ?_
  refine f_geti B hH ka135 (by decide) rfl wu_X0 2 (by decide) wf_X11_276 rfl rfl dX11_goOnBy_91 ?_
  refine lv_ishr B.1 B.2.1 dX11_goOnBy_94 ?_
  refine W.eq (g2 := F0 m 95 ls [.int (i32 (shrI (gI σ a134 2) (gI σ a135 2)))]) (by simp only [andI, orI, shlI, shrI, i32_self]) ?_
  refine lv_iconst (v := i32 1) B.1 B.2.1 dX11_goOnBy_95 (by decide) ?_
  refine lv_iand B.1 B.2.1 dX11_goOnBy_96 ?_
  refine W.eq (g2 := F0 m 97 ls [.int (i32 (andI (shrI (gI σ a134 2) (gI σ a135 2)) 1))]) (by simp only [andI, orI, shlI, shrI, i32_self]) ?_
  refine lv_if_eq (tgt := 132) B.1 B.2.1 dX11_goOnBy_97 (by decide) (fun h9 => ?_) (fun h9 => ?_)
  · rw [if_pos ((z_eq (rng_andI _ _)).mp h9)] at h
    exact a_X11_goOnBy_132 K hQ hX hTh hK12 _ _ _ _ _ _ _ _ g1 g2 g3 g4 g5 g6 g8 h hGσ hYσ hE hth _ _ _ hH (lv_sub (l' := [(0, .ref th), (1, va_rf v1), (2, va_rf v2), (3, va_rf v3), (4, va_rf v4), (5, va_rf v5), (6, va_rf v6), (8, .int (i32 v8))]) hl [0, 1, 2, 3, 4, 5, 6, 7] rfl) hc
  · rw [if_neg (fun q => h9 ((z_eq (rng_andI _ _)).mpr q))] at h
    exact a_X11_goOnBy_100 K hQ hX hTh hK12 _ _ _ _ _ _ _ _ g1 g2 g3 g4 g5 g6 g8 h hGσ hYσ hE hth _ _ _ hH (lv_sub (l' := [(0, .ref th), (1, va_rf v1), (2, va_rf v2), (3, va_rf v3), (4, va_rf v4), (5, va_rf v5), (6, va_rf v6), (8, .int (i32 v8))]) hl [0, 1, 2, 3, 4, 5, 6, 7] rfl) hc
set_option maxRecDepth 20000 in
theorem a_X11_goOnBy_80 {Q : Sg → Unit → Prop} {X : Sg → String → Prop} {th : Nat} (K : MD l R p s m args c cX11_goOnBy 9 RX11 D cA tys A n0 s0 8 136 []) (hQ : CQV p l e R s m args below meth c cX11_goOnBy D cA A n0 s0 QM σi Q) (hX : CX p l e R s m args below meth c 9 D cA A n0 s0 QM σi X) (hTh : CT p l e R s m args below meth c cX11_goOnBy 9 D cA A n0 s0 QM σi RX11 X) {K12 : Sg → Option Nat → Option Nat → Option Nat → Option Nat → Option Nat → Prop} (hK12 : ∀ (σ : Sg) (v1 : Option Nat) (v2 : Option Nat) (v3 : Option Nat) (v4 : Option Nat) (v5 : Option Nat) (g1 : tyV σ 5 v1) (g2 : tyV σ 10 v2) (g3 : tyV σ 0 v3) (g4 : tyV σ 0 v4) (g5 : tyV σ 0 v5), K12 σ v1 v2 v3 v4 v5 → RG σ → TY σ → Ext σi σ → kO σ th 11 → JJ p l e R s m args below meth c 9 D cA A n0 s0 QM σ 12 [(0, .ref th), (1, va_rf v1), (2, va_rf v2), (3, va_rf v3), (4, va_rf v4), (5, va_rf v5)] []) : ∀ (σ : Sg) (v1 : Option Nat) (v2 : Option Nat) (v3 : Option Nat) (v4 : Option Nat) (v5 : Option Nat) (v6 : Option Nat) (v8 : Int) (g1 : tyV σ 5 v1) (g2 : tyV σ 10 v2) (g3 : tyV σ 0 v3) (g4 : tyV σ 0 v4) (g5 : tyV σ 0 v5) (g6 : tyV σ 0 v6) (g8 : rng v8), w_X11_goOnBy_80 th K12 Q X σ v1 v2 v3 v4 v5 v6 v8 → RG σ → TY σ → Ext σi σ → kO σ th 11 → JJ p l e R s m args below meth c 9 D cA A n0 s0 QM σ 80 [(0, .ref th), (1, va_rf v1), (2, va_rf v2), (3, va_rf v3), (4, va_rf v4), (5, va_rf v5), (6, va_rf v6), (8, .int (i32 v8))] [] := by
  intro σ v1 v2 v3 v4 v5 v6 v8 g1 g2 g3 g4 g5 g6 g8 h hGσ hYσ hE hth H locs ls hH hl hc
  have B := K.1
  have hl9 := K.2.2.2.2.2.2
  unfold w_X11_goOnBy_80 at h
  refine lv_iload B.1 B.2.1 dX11_goOnBy_80 (lv_at hl 7 rfl) ?_
  refine lv_if_ne (tgt := 132) B.1 B.2.1 dX11_goOnBy_82 (by decide) (fun h9 => ?_) (fun h9 => ?_)
  · rw [if_pos (fun q => h9 ((z_eq g8).mpr q))] at h
    exact a_X11_goOnBy_132 K hQ hX hTh hK12 _ _ _ _ _ _ _ _ g1 g2 g3 g4 g5 g6 g8 h hGσ hYσ hE hth _ _ _ hH (lv_sub (l' := [(0, .ref th), (1, va_rf v1), (2, va_rf v2), (3, va_rf v3), (4, va_rf v4), (5, va_rf v5), (6, va_rf v6), (8, .int (i32 v8))]) hl [0, 1, 2, 3, 4, 5, 6, 7] rfl) hc
  · rw [if_neg (fun q => q ((z_eq g8).mp h9))] at h
    exact a_X11_goOnBy_85 K hQ hX hTh hK12 _ _ _ _ _ _ _ _ g1 g2 g3 g4 g5 g6 g8 h hGσ hYσ hE hth _ _ _ hH (lv_sub (l' := [(0, .ref th), (1, va_rf v1), (2, va_rf v2), (3, va_rf v3), (4, va_rf v4), (5, va_rf v5), (6, va_rf v6), (8, .int (i32 v8))]) hl [0, 1, 2, 3, 4, 5, 6, 7] rfl) hc
set_option maxRecDepth 20000 in
theorem a_X11_goOnBy_73 {Q : Sg → Unit → Prop} {X : Sg → String → Prop} {th : Nat} (K : MD l R p s m args c cX11_goOnBy 9 RX11 D cA tys A n0 s0 8 136 []) (hQ : CQV p l e R s m args below meth c cX11_goOnBy D cA A n0 s0 QM σi Q) (hX : CX p l e R s m args below meth c 9 D cA A n0 s0 QM σi X) (hTh : CT p l e R s m args below meth c cX11_goOnBy 9 D cA A n0 s0 QM σi RX11 X) {K12 : Sg → Option Nat → Option Nat → Option Nat → Option Nat → Option Nat → Prop} (hK12 : ∀ (σ : Sg) (v1 : Option Nat) (v2 : Option Nat) (v3 : Option Nat) (v4 : Option Nat) (v5 : Option Nat) (g1 : tyV σ 5 v1) (g2 : tyV σ 10 v2) (g3 : tyV σ 0 v3) (g4 : tyV σ 0 v4) (g5 : tyV σ 0 v5), K12 σ v1 v2 v3 v4 v5 → RG σ → TY σ → Ext σi σ → kO σ th 11 → JJ p l e R s m args below meth c 9 D cA A n0 s0 QM σ 12 [(0, .ref th), (1, va_rf v1), (2, va_rf v2), (3, va_rf v3), (4, va_rf v4), (5, va_rf v5)] []) : ∀ (σ : Sg) (v1 : Option Nat) (v2 : Option Nat) (v3 : Option Nat) (v4 : Option Nat) (v5 : Option Nat) (v6 : Option Nat) (v7 : Int) (u0 : Int) (g1 : tyV σ 5 v1) (g2 : tyV σ 10 v2) (g3 : tyV σ 0 v3) (g4 : tyV σ 0 v4) (g5 : tyV σ 0 v5) (g6 : tyV σ 0 v6) (g7 : rng v7) (gu0 : rng u0), w_X11_goOnBy_73 th K12 Q X σ v1 v2 v3 v4 v5 v6 v7 u0 → RG σ → TY σ → Ext σi σ → kO σ th 11 → JJ p l e R s m args below meth c 9 D cA A n0 s0 QM σ 73 [(0, .ref th), (1, va_rf v1), (2, va_rf v2), (3, va_rf v3), (4, va_rf v4), (5, va_rf v5), (6, va_rf v6), (7, .int (i32 v7))] [.int (i32 u0)] := by
  intro σ v1 v2 v3 v4 v5 v6 v7 u0 g1 g2 g3 g4 g5 g6 g7 gu0 h hGσ hYσ hE hth H locs ls hH hl hc
  have B := K.1
  have hl9 := K.2.2.2.2.2.2
  unfold w_X11_goOnBy_73 at h
  refine lv_istore (lv' := [(8, .int (i32 u0)), (0, .ref th), (1, va_rf v1), (2, va_rf v2), (3, va_rf v3), (4, va_rf v4), (5, va_rf v5), (6, va_rf v6), (7, .int (i32 v7))]) B.1 B.2.1 dX11_goOnBy_73 hl (by decide) rfl (fun ls hl => ?_)
  refine lv_iload B.1 B.2.1 dX11_goOnBy_75 (lv_at hl 8 rfl) ?_
  refine lv_if_eq (tgt := 132) B.1 B.2.1 dX11_goOnBy_77 (by decide) (fun h9 => ?_) (fun h9 => ?_)
  · rw [if_pos ((z_eq g7).mp h9)] at h
    exact a_X11_goOnBy_132 K hQ hX hTh hK12 _ _ _ _ _ _ _ _ g1 g2 g3 g4 g5 g6 gu0 h hGσ hYσ hE hth _ _ _ hH (lv_sub (l' := [(0, .ref th), (1, va_rf v1), (2, va_rf v2), (3, va_rf v3), (4, va_rf v4), (5, va_rf v5), (6, va_rf v6), (8, .int (i32 u0))]) hl [1, 2, 3, 4, 5, 6, 7, 0] rfl) hc
  · rw [if_neg (fun q => h9 ((z_eq g7).mpr q))] at h
    exact a_X11_goOnBy_80 K hQ hX hTh hK12 _ _ _ _ _ _ _ _ g1 g2 g3 g4 g5 g6 gu0 h hGσ hYσ hE hth _ _ _ hH (lv_sub (l' := [(0, .ref th), (1, va_rf v1), (2, va_rf v2), (3, va_rf v3), (4, va_rf v4), (5, va_rf v5), (6, va_rf v6), (8, .int (i32 u0))]) hl [1, 2, 3, 4, 5, 6, 7, 0] rfl) hc
set_option maxRecDepth 20000 in
theorem a_X11_goOnBy_72 {Q : Sg → Unit → Prop} {X : Sg → String → Prop} {th : Nat} (K : MD l R p s m args c cX11_goOnBy 9 RX11 D cA tys A n0 s0 8 136 []) (hQ : CQV p l e R s m args below meth c cX11_goOnBy D cA A n0 s0 QM σi Q) (hX : CX p l e R s m args below meth c 9 D cA A n0 s0 QM σi X) (hTh : CT p l e R s m args below meth c cX11_goOnBy 9 D cA A n0 s0 QM σi RX11 X) {K12 : Sg → Option Nat → Option Nat → Option Nat → Option Nat → Option Nat → Prop} (hK12 : ∀ (σ : Sg) (v1 : Option Nat) (v2 : Option Nat) (v3 : Option Nat) (v4 : Option Nat) (v5 : Option Nat) (g1 : tyV σ 5 v1) (g2 : tyV σ 10 v2) (g3 : tyV σ 0 v3) (g4 : tyV σ 0 v4) (g5 : tyV σ 0 v5), K12 σ v1 v2 v3 v4 v5 → RG σ → TY σ → Ext σi σ → kO σ th 11 → JJ p l e R s m args below meth c 9 D cA A n0 s0 QM σ 12 [(0, .ref th), (1, va_rf v1), (2, va_rf v2), (3, va_rf v3), (4, va_rf v4), (5, va_rf v5)] []) : ∀ (σ : Sg) (v1 : Option Nat) (v2 : Option Nat) (v3 : Option Nat) (v4 : Option Nat) (v5 : Option Nat) (v6 : Option Nat) (v7 : Int) (g1 : tyV σ 5 v1) (g2 : tyV σ 10 v2) (g3 : tyV σ 0 v3) (g4 : tyV σ 0 v4) (g5 : tyV σ 0 v5) (g6 : tyV σ 0 v6) (g7 : rng v7), w_X11_goOnBy_72 th K12 Q X σ v1 v2 v3 v4 v5 v6 v7 → RG σ → TY σ → Ext σi σ → kO σ th 11 → JJ p l e R s m args below meth c 9 D cA A n0 s0 QM σ 72 [(0, .ref th), (1, va_rf v1), (2, va_rf v2), (3, va_rf v3), (4, va_rf v4), (5, va_rf v5), (6, va_rf v6), (7, .int (i32 v7))] [] := by
  intro σ v1 v2 v3 v4 v5 v6 v7 g1 g2 g3 g4 g5 g6 g7 h hGσ hYσ hE hth H locs ls hH hl hc
  have B := K.1
  have hl9 := K.2.2.2.2.2.2
  unfold w_X11_goOnBy_72 at h
  refine lv_iconst (v := i32 0) B.1 B.2.1 dX11_goOnBy_72 (by decide) ?_
  exact a_X11_goOnBy_73 K hQ hX hTh hK12 _ _ _ _ _ _ _ _ _ g1 g2 g3 g4 g5 g6 g7 (by unfold rng; omega) h hGσ hYσ hE hth _ _ _ hH (lv_sub (l' := [(0, .ref th), (1, va_rf v1), (2, va_rf v2), (3, va_rf v3), (4, va_rf v4), (5, va_rf v5), (6, va_rf v6), (7, .int (i32 v7))]) hl [0, 1, 2, 3, 4, 5, 6, 7] rfl) hc
set_option maxRecDepth 20000 in
theorem a_X11_goOnBy_68 {Q : Sg → Unit → Prop} {X : Sg → String → Prop} {th : Nat} (K : MD l R p s m args c cX11_goOnBy 9 RX11 D cA tys A n0 s0 8 136 []) (hQ : CQV p l e R s m args below meth c cX11_goOnBy D cA A n0 s0 QM σi Q) (hX : CX p l e R s m args below meth c 9 D cA A n0 s0 QM σi X) (hTh : CT p l e R s m args below meth c cX11_goOnBy 9 D cA A n0 s0 QM σi RX11 X) {K12 : Sg → Option Nat → Option Nat → Option Nat → Option Nat → Option Nat → Prop} (hK12 : ∀ (σ : Sg) (v1 : Option Nat) (v2 : Option Nat) (v3 : Option Nat) (v4 : Option Nat) (v5 : Option Nat) (g1 : tyV σ 5 v1) (g2 : tyV σ 10 v2) (g3 : tyV σ 0 v3) (g4 : tyV σ 0 v4) (g5 : tyV σ 0 v5), K12 σ v1 v2 v3 v4 v5 → RG σ → TY σ → Ext σi σ → kO σ th 11 → JJ p l e R s m args below meth c 9 D cA A n0 s0 QM σ 12 [(0, .ref th), (1, va_rf v1), (2, va_rf v2), (3, va_rf v3), (4, va_rf v4), (5, va_rf v5)] []) : ∀ (σ : Sg) (v1 : Option Nat) (v2 : Option Nat) (v3 : Option Nat) (v4 : Option Nat) (v5 : Option Nat) (v6 : Option Nat) (v7 : Int) (g1 : tyV σ 5 v1) (g2 : tyV σ 10 v2) (g3 : tyV σ 0 v3) (g4 : tyV σ 0 v4) (g5 : tyV σ 0 v5) (g6 : tyV σ 0 v6) (g7 : rng v7), w_X11_goOnBy_68 th K12 Q X σ v1 v2 v3 v4 v5 v6 v7 → RG σ → TY σ → Ext σi σ → kO σ th 11 → JJ p l e R s m args below meth c 9 D cA A n0 s0 QM σ 68 [(0, .ref th), (1, va_rf v1), (2, va_rf v2), (3, va_rf v3), (4, va_rf v4), (5, va_rf v5), (6, va_rf v6), (7, .int (i32 v7))] [] := by
  intro σ v1 v2 v3 v4 v5 v6 v7 g1 g2 g3 g4 g5 g6 g7 h hGσ hYσ hE hth H locs ls hH hl hc
  have B := K.1
  have hl9 := K.2.2.2.2.2.2
  unfold w_X11_goOnBy_68 at h
  refine lv_iconst (v := i32 1) B.1 B.2.1 dX11_goOnBy_68 (by decide) ?_
  refine lv_goto (tgt := 73) B.1 B.2.1 dX11_goOnBy_69 (by decide) ?_
  exact a_X11_goOnBy_73 K hQ hX hTh hK12 _ _ _ _ _ _ _ _ _ g1 g2 g3 g4 g5 g6 g7 (by unfold rng; omega) h hGσ hYσ hE hth _ _ _ hH (lv_sub (l' := [(0, .ref th), (1, va_rf v1), (2, va_rf v2), (3, va_rf v3), (4, va_rf v4), (5, va_rf v5), (6, va_rf v6), (7, .int (i32 v7))]) hl [0, 1, 2, 3, 4, 5, 6, 7] rfl) hc
set_option maxRecDepth 20000 in
theorem a_X11_goOnBy_49 {Q : Sg → Unit → Prop} {X : Sg → String → Prop} {th : Nat} (K : MD l R p s m args c cX11_goOnBy 9 RX11 D cA tys A n0 s0 8 136 []) (hQ : CQV p l e R s m args below meth c cX11_goOnBy D cA A n0 s0 QM σi Q) (hX : CX p l e R s m args below meth c 9 D cA A n0 s0 QM σi X) (hTh : CT p l e R s m args below meth c cX11_goOnBy 9 D cA A n0 s0 QM σi RX11 X) {K12 : Sg → Option Nat → Option Nat → Option Nat → Option Nat → Option Nat → Prop} (hK12 : ∀ (σ : Sg) (v1 : Option Nat) (v2 : Option Nat) (v3 : Option Nat) (v4 : Option Nat) (v5 : Option Nat) (g1 : tyV σ 5 v1) (g2 : tyV σ 10 v2) (g3 : tyV σ 0 v3) (g4 : tyV σ 0 v4) (g5 : tyV σ 0 v5), K12 σ v1 v2 v3 v4 v5 → RG σ → TY σ → Ext σi σ → kO σ th 11 → JJ p l e R s m args below meth c 9 D cA A n0 s0 QM σ 12 [(0, .ref th), (1, va_rf v1), (2, va_rf v2), (3, va_rf v3), (4, va_rf v4), (5, va_rf v5)] []) : ∀ (σ : Sg) (v1 : Option Nat) (v2 : Option Nat) (v3 : Option Nat) (v4 : Option Nat) (v5 : Option Nat) (v6 : Option Nat) (v7 : Int) (g1 : tyV σ 5 v1) (g2 : tyV σ 10 v2) (g3 : tyV σ 0 v3) (g4 : tyV σ 0 v4) (g5 : tyV σ 0 v5) (g6 : tyV σ 0 v6) (g7 : rng v7), w_X11_goOnBy_49 th K12 Q X σ v1 v2 v3 v4 v5 v6 v7 → RG σ → TY σ → Ext σi σ → kO σ th 11 → JJ p l e R s m args below meth c 9 D cA A n0 s0 QM σ 49 [(0, .ref th), (1, va_rf v1), (2, va_rf v2), (3, va_rf v3), (4, va_rf v4), (5, va_rf v5), (6, va_rf v6), (7, .int (i32 v7))] [] := by
  intro σ v1 v2 v3 v4 v5 v6 v7 g1 g2 g3 g4 g5 g6 g7 h hGσ hYσ hE hth H locs ls hH hl hc
  have B := K.1
  have hl9 := K.2.2.2.2.2.2
  unfold w_X11_goOnBy_49 at h
  refine lv_aload_nQ B.1 B.2.1 dX11_goOnBy_49 rfl (lv_at hl 3 rfl) ?_
  obtain ⟨a136, ea136, h⟩ := h
  have ka136 : kO σ a136 0 := g3 a136 ea136
  have h := h ka136
  refine W.eq (g2 := F0 m 50 ls [.ref a136]) (by rw [ea136]; rfl) ?_
  refine f_getl B hH ka136 (by decide) rfl wu_X0 5 (by decide) wf_X11_85 rfl rfl dX11_goOnBy_50 ?_
  refine lv_aloadQ B.1 B.2.1 dX11_goOnBy_53 (lv_at hl 5 rfl) ?_
  obtain ⟨a137, ea137, h⟩ := h
  have ka137 : kO σ a137 0 := g5 a137 ea137
  have h := h ka137
  refine W.eq (g2 := F0 m 55 ls [.ref a137, .long (gJ σ a136 5)]) (by rw [ea137]; rfl) ?_
  refine f_getl B hH ka137 (by decide) rfl wu_X0 6 (by decide) wf_X11_92 rfl rfl dX11_goOnBy_55 ?_
  refine lv_lsub B.1 B.2.1 dX11_goOnBy_58 ?_
  refine lv_aload_nQ B.1 B.2.1 dX11_goOnBy_59 rfl (lv_at hl 1 rfl) ?_
  obtain ⟨a138, ea138, h⟩ := h
  have ka138 : kO σ a138 5 := g1 a138 ea138
  have h := h ka138
  refine W.eq (g2 := F0 m 60 ls [.ref a138, .long (gJ σ a136 5 - gJ σ a137 6)]) (by rw [ea138]; rfl) ?_
  refine f_geti B hH ka138 (by decide) rfl wu_X5 16 (by decide) wf_X11_110 rfl rfl dX11_goOnBy_60 ?_
  refine lv_i2l B.1 B.2.1 dX11_goOnBy_63 (i32_i64 (hGσ _ _)) ?_
  refine W.lcmp B.1 B.2.1 dX11_goOnBy_64 ?_
  refine lv_if_le (tgt := 72) B.1 B.2.1 dX11_goOnBy_65 (by decide) (fun h9 => ?_) (fun h9 => ?_)
  · rw [if_pos ((lg_cmp_le _ _).mp h9)] at h
    exact a_X11_goOnBy_72 K hQ hX hTh hK12 _ _ _ _ _ _ _ _ g1 g2 g3 g4 g5 g6 g7 h hGσ hYσ hE hth _ _ _ hH (lv_sub (l' := [(0, .ref th), (1, va_rf v1), (2, va_rf v2), (3, va_rf v3), (4, va_rf v4), (5, va_rf v5), (6, va_rf v6), (7, .int (i32 v7))]) hl [0, 1, 2, 3, 4, 5, 6, 7] rfl) hc
  · rw [if_neg (fun q => h9 ((lg_cmp_le _ _).mpr q))] at h
    exact a_X11_goOnBy_68 K hQ hX hTh hK12 _ _ _ _ _ _ _ _ g1 g2 g3 g4 g5 g6 g7 h hGσ hYσ hE hth _ _ _ hH (lv_sub (l' := [(0, .ref th), (1, va_rf v1), (2, va_rf v2), (3, va_rf v3), (4, va_rf v4), (5, va_rf v5), (6, va_rf v6), (7, .int (i32 v7))]) hl [0, 1, 2, 3, 4, 5, 6, 7] rfl) hc
set_option maxRecDepth 20000 in
theorem a_X11_goOnBy_42 {Q : Sg → Unit → Prop} {X : Sg → String → Prop} {th : Nat} (K : MD l R p s m args c cX11_goOnBy 9 RX11 D cA tys A n0 s0 8 136 []) (hQ : CQV p l e R s m args below meth c cX11_goOnBy D cA A n0 s0 QM σi Q) (hX : CX p l e R s m args below meth c 9 D cA A n0 s0 QM σi X) (hTh : CT p l e R s m args below meth c cX11_goOnBy 9 D cA A n0 s0 QM σi RX11 X) {K12 : Sg → Option Nat → Option Nat → Option Nat → Option Nat → Option Nat → Prop} (hK12 : ∀ (σ : Sg) (v1 : Option Nat) (v2 : Option Nat) (v3 : Option Nat) (v4 : Option Nat) (v5 : Option Nat) (g1 : tyV σ 5 v1) (g2 : tyV σ 10 v2) (g3 : tyV σ 0 v3) (g4 : tyV σ 0 v4) (g5 : tyV σ 0 v5), K12 σ v1 v2 v3 v4 v5 → RG σ → TY σ → Ext σi σ → kO σ th 11 → JJ p l e R s m args below meth c 9 D cA A n0 s0 QM σ 12 [(0, .ref th), (1, va_rf v1), (2, va_rf v2), (3, va_rf v3), (4, va_rf v4), (5, va_rf v5)] []) : ∀ (σ : Sg) (v1 : Option Nat) (v2 : Option Nat) (v3 : Option Nat) (v4 : Option Nat) (v5 : Option Nat) (v6 : Option Nat) (u0 : Int) (g1 : tyV σ 5 v1) (g2 : tyV σ 10 v2) (g3 : tyV σ 0 v3) (g4 : tyV σ 0 v4) (g5 : tyV σ 0 v5) (g6 : tyV σ 0 v6) (gu0 : rng u0), w_X11_goOnBy_42 th K12 Q X σ v1 v2 v3 v4 v5 v6 u0 → RG σ → TY σ → Ext σi σ → kO σ th 11 → JJ p l e R s m args below meth c 9 D cA A n0 s0 QM σ 42 [(0, .ref th), (1, va_rf v1), (2, va_rf v2), (3, va_rf v3), (4, va_rf v4), (5, va_rf v5), (6, va_rf v6)] [.int (i32 u0)] := by
  intro σ v1 v2 v3 v4 v5 v6 u0 g1 g2 g3 g4 g5 g6 gu0 h hGσ hYσ hE hth H locs ls hH hl hc
  have B := K.1
  have hl9 := K.2.2.2.2.2.2
  unfold w_X11_goOnBy_42 at h
  refine lv_istore (lv' := [(7, .int (i32 u0)), (0, .ref th), (1, va_rf v1), (2, va_rf v2), (3, va_rf v3), (4, va_rf v4), (5, va_rf v5), (6, va_rf v6)]) B.1 B.2.1 dX11_goOnBy_42 hl (by decide) (by generalize v6 = w9; cases w9 <;> rfl) (fun ls hl => ?_)
  refine lv_iload B.1 B.2.1 dX11_goOnBy_44 (lv_at hl 0 rfl) ?_
  refine lv_if_eq (tgt := 72) B.1 B.2.1 dX11_goOnBy_46 (by decide) (fun h9 => ?_) (fun h9 => ?_)
  · rw [if_pos ((z_eq gu0).mp h9)] at h
    exact a_X11_goOnBy_72 K hQ hX hTh hK12 _ _ _ _ _ _ _ _ g1 g2 g3 g4 g5 g6 gu0 h hGσ hYσ hE hth _ _ _ hH (lv_sub (l' := [(0, .ref th), (1, va_rf v1), (2, va_rf v2), (3, va_rf v3), (4, va_rf v4), (5, va_rf v5), (6, va_rf v6), (7, .int (i32 u0))]) hl [1, 2, 3, 4, 5, 6, 7, 0] rfl) hc
  · rw [if_neg (fun q => h9 ((z_eq gu0).mpr q))] at h
    exact a_X11_goOnBy_49 K hQ hX hTh hK12 _ _ _ _ _ _ _ _ g1 g2 g3 g4 g5 g6 gu0 h hGσ hYσ hE hth _ _ _ hH (lv_sub (l' := [(0, .ref th), (1, va_rf v1), (2, va_rf v2), (3, va_rf v3), (4, va_rf v4), (5, va_rf v5), (6, va_rf v6), (7, .int (i32 u0))]) hl [1, 2, 3, 4, 5, 6, 7, 0] rfl) hc
set_option maxRecDepth 20000 in
theorem a_X11_goOnBy_41 {Q : Sg → Unit → Prop} {X : Sg → String → Prop} {th : Nat} (K : MD l R p s m args c cX11_goOnBy 9 RX11 D cA tys A n0 s0 8 136 []) (hQ : CQV p l e R s m args below meth c cX11_goOnBy D cA A n0 s0 QM σi Q) (hX : CX p l e R s m args below meth c 9 D cA A n0 s0 QM σi X) (hTh : CT p l e R s m args below meth c cX11_goOnBy 9 D cA A n0 s0 QM σi RX11 X) {K12 : Sg → Option Nat → Option Nat → Option Nat → Option Nat → Option Nat → Prop} (hK12 : ∀ (σ : Sg) (v1 : Option Nat) (v2 : Option Nat) (v3 : Option Nat) (v4 : Option Nat) (v5 : Option Nat) (g1 : tyV σ 5 v1) (g2 : tyV σ 10 v2) (g3 : tyV σ 0 v3) (g4 : tyV σ 0 v4) (g5 : tyV σ 0 v5), K12 σ v1 v2 v3 v4 v5 → RG σ → TY σ → Ext σi σ → kO σ th 11 → JJ p l e R s m args below meth c 9 D cA A n0 s0 QM σ 12 [(0, .ref th), (1, va_rf v1), (2, va_rf v2), (3, va_rf v3), (4, va_rf v4), (5, va_rf v5)] []) : ∀ (σ : Sg) (v1 : Option Nat) (v2 : Option Nat) (v3 : Option Nat) (v4 : Option Nat) (v5 : Option Nat) (v6 : Option Nat) (g1 : tyV σ 5 v1) (g2 : tyV σ 10 v2) (g3 : tyV σ 0 v3) (g4 : tyV σ 0 v4) (g5 : tyV σ 0 v5) (g6 : tyV σ 0 v6), w_X11_goOnBy_41 th K12 Q X σ v1 v2 v3 v4 v5 v6 → RG σ → TY σ → Ext σi σ → kO σ th 11 → JJ p l e R s m args below meth c 9 D cA A n0 s0 QM σ 41 [(0, .ref th), (1, va_rf v1), (2, va_rf v2), (3, va_rf v3), (4, va_rf v4), (5, va_rf v5), (6, va_rf v6)] [] := by
  intro σ v1 v2 v3 v4 v5 v6 g1 g2 g3 g4 g5 g6 h hGσ hYσ hE hth H locs ls hH hl hc
  have B := K.1
  have hl9 := K.2.2.2.2.2.2
  unfold w_X11_goOnBy_41 at h
  refine lv_iconst (v := i32 0) B.1 B.2.1 dX11_goOnBy_41 (by decide) ?_
  exact a_X11_goOnBy_42 K hQ hX hTh hK12 _ _ _ _ _ _ _ _ g1 g2 g3 g4 g5 g6 (by unfold rng; omega) h hGσ hYσ hE hth _ _ _ hH (lv_sub (l' := [(0, .ref th), (1, va_rf v1), (2, va_rf v2), (3, va_rf v3), (4, va_rf v4), (5, va_rf v5), (6, va_rf v6)]) hl [0, 1, 2, 3, 4, 5, 6] rfl) hc
set_option maxRecDepth 20000 in
theorem a_X11_goOnBy_37 {Q : Sg → Unit → Prop} {X : Sg → String → Prop} {th : Nat} (K : MD l R p s m args c cX11_goOnBy 9 RX11 D cA tys A n0 s0 8 136 []) (hQ : CQV p l e R s m args below meth c cX11_goOnBy D cA A n0 s0 QM σi Q) (hX : CX p l e R s m args below meth c 9 D cA A n0 s0 QM σi X) (hTh : CT p l e R s m args below meth c cX11_goOnBy 9 D cA A n0 s0 QM σi RX11 X) {K12 : Sg → Option Nat → Option Nat → Option Nat → Option Nat → Option Nat → Prop} (hK12 : ∀ (σ : Sg) (v1 : Option Nat) (v2 : Option Nat) (v3 : Option Nat) (v4 : Option Nat) (v5 : Option Nat) (g1 : tyV σ 5 v1) (g2 : tyV σ 10 v2) (g3 : tyV σ 0 v3) (g4 : tyV σ 0 v4) (g5 : tyV σ 0 v5), K12 σ v1 v2 v3 v4 v5 → RG σ → TY σ → Ext σi σ → kO σ th 11 → JJ p l e R s m args below meth c 9 D cA A n0 s0 QM σ 12 [(0, .ref th), (1, va_rf v1), (2, va_rf v2), (3, va_rf v3), (4, va_rf v4), (5, va_rf v5)] []) : ∀ (σ : Sg) (v1 : Option Nat) (v2 : Option Nat) (v3 : Option Nat) (v4 : Option Nat) (v5 : Option Nat) (v6 : Option Nat) (g1 : tyV σ 5 v1) (g2 : tyV σ 10 v2) (g3 : tyV σ 0 v3) (g4 : tyV σ 0 v4) (g5 : tyV σ 0 v5) (g6 : tyV σ 0 v6), w_X11_goOnBy_37 th K12 Q X σ v1 v2 v3 v4 v5 v6 → RG σ → TY σ → Ext σi σ → kO σ th 11 → JJ p l e R s m args below meth c 9 D cA A n0 s0 QM σ 37 [(0, .ref th), (1, va_rf v1), (2, va_rf v2), (3, va_rf v3), (4, va_rf v4), (5, va_rf v5), (6, va_rf v6)] [] := by
  intro σ v1 v2 v3 v4 v5 v6 g1 g2 g3 g4 g5 g6 h hGσ hYσ hE hth H locs ls hH hl hc
  have B := K.1
  have hl9 := K.2.2.2.2.2.2
  unfold w_X11_goOnBy_37 at h
  refine lv_iconst (v := i32 1) B.1 B.2.1 dX11_goOnBy_37 (by decide) ?_
  refine lv_goto (tgt := 42) B.1 B.2.1 dX11_goOnBy_38 (by decide) ?_
  exact a_X11_goOnBy_42 K hQ hX hTh hK12 _ _ _ _ _ _ _ _ g1 g2 g3 g4 g5 g6 (by unfold rng; omega) h hGσ hYσ hE hth _ _ _ hH (lv_sub (l' := [(0, .ref th), (1, va_rf v1), (2, va_rf v2), (3, va_rf v3), (4, va_rf v4), (5, va_rf v5), (6, va_rf v6)]) hl [0, 1, 2, 3, 4, 5, 6] rfl) hc
set_option maxRecDepth 20000 in
theorem a_X11_goOnBy_17 {Q : Sg → Unit → Prop} {X : Sg → String → Prop} {th : Nat} (K : MD l R p s m args c cX11_goOnBy 9 RX11 D cA tys A n0 s0 8 136 []) (hQ : CQV p l e R s m args below meth c cX11_goOnBy D cA A n0 s0 QM σi Q) (hX : CX p l e R s m args below meth c 9 D cA A n0 s0 QM σi X) (hTh : CT p l e R s m args below meth c cX11_goOnBy 9 D cA A n0 s0 QM σi RX11 X) {K12 : Sg → Option Nat → Option Nat → Option Nat → Option Nat → Option Nat → Prop} (hK12 : ∀ (σ : Sg) (v1 : Option Nat) (v2 : Option Nat) (v3 : Option Nat) (v4 : Option Nat) (v5 : Option Nat) (g1 : tyV σ 5 v1) (g2 : tyV σ 10 v2) (g3 : tyV σ 0 v3) (g4 : tyV σ 0 v4) (g5 : tyV σ 0 v5), K12 σ v1 v2 v3 v4 v5 → RG σ → TY σ → Ext σi σ → kO σ th 11 → JJ p l e R s m args below meth c 9 D cA A n0 s0 QM σ 12 [(0, .ref th), (1, va_rf v1), (2, va_rf v2), (3, va_rf v3), (4, va_rf v4), (5, va_rf v5)] []) : ∀ (σ : Sg) (v1 : Option Nat) (v2 : Option Nat) (v3 : Option Nat) (v4 : Option Nat) (v5 : Option Nat) (g1 : tyV σ 5 v1) (g2 : tyV σ 10 v2) (g3 : tyV σ 0 v3) (g4 : tyV σ 0 v4) (g5 : tyV σ 0 v5), w_X11_goOnBy_17 th K12 Q X σ v1 v2 v3 v4 v5 → RG σ → TY σ → Ext σi σ → kO σ th 11 → JJ p l e R s m args below meth c 9 D cA A n0 s0 QM σ 17 [(0, .ref th), (1, va_rf v1), (2, va_rf v2), (3, va_rf v3), (4, va_rf v4), (5, va_rf v5)] [] := by
  intro σ v1 v2 v3 v4 v5 g1 g2 g3 g4 g5 h hGσ hYσ hE hth H locs ls hH hl hc
  have B := K.1
  have hl9 := K.2.2.2.2.2.2
  unfold w_X11_goOnBy_17 at h
  refine lv_aloadQ B.1 B.2.1 dX11_goOnBy_17 (lv_at hl 5 rfl) ?_
  obtain ⟨a139, ea139, h⟩ := h
  have ka139 : kO σ a139 0 := g5 a139 ea139
  have h := h ka139
  refine W.eq (g2 := F0 m 19 ls [.ref a139]) (by rw [ea139]; rfl) ?_
  refine f_getp B hH ka139 (by decide) rfl wu_X0 1 (by decide) wf_X11_235 rfl rfl dX11_goOnBy_19 ?_
  refine lv_astoreQ (lv' := [(6, va_rf (gP σ a139 1)), (0, .ref th), (1, va_rf v1), (2, va_rf v2), (3, va_rf v3), (4, va_rf v4), (5, va_rf v5)]) B.1 B.2.1 dX11_goOnBy_22 hl (by decide) (by generalize v5 = w9; cases w9 <;> rfl) (fun ls hl => ?_)
  refine lv_aloadQ B.1 B.2.1 dX11_goOnBy_24 (lv_at hl 6 rfl) ?_
  refine W.eq (g2 := F0 m 26 ls [.ref a139]) (by rw [ea139]; rfl) ?_
  refine f_getl B hH ka139 (by decide) rfl wu_X0 7 (by decide) wf_X11_72 rfl rfl dX11_goOnBy_26 ?_
  refine lv_aload_nQ B.1 B.2.1 dX11_goOnBy_29 rfl (lv_at hl 4 rfl) ?_
  obtain ⟨a140, ea140, h⟩ := h
  have ka140 : kO σ a140 0 := g3 a140 ea140
  have h := h ka140
  refine W.eq (g2 := F0 m 30 ls [.ref a140, .long (gJ σ a139 7)]) (by rw [ea140]; rfl) ?_
  refine f_getl B hH ka140 (by decide) rfl wu_X0 7 (by decide) wf_X11_72 rfl rfl dX11_goOnBy_30 ?_
  refine W.lcmp B.1 B.2.1 dX11_goOnBy_33 ?_
  refine lv_if_ne (tgt := 41) B.1 B.2.1 dX11_goOnBy_34 (by decide) (fun h9 => ?_) (fun h9 => ?_)
  · rw [if_pos (fun q => h9 ((lg_cmp_eq _ _).mpr q))] at h
    exact a_X11_goOnBy_41 K hQ hX hTh hK12 _ _ _ _ _ _ _ g1 g2 g3 g4 g5 (hYσ.get ka139 (by decide)) h hGσ hYσ hE hth _ _ _ hH (lv_sub (l' := [(0, .ref th), (1, va_rf v1), (2, va_rf v2), (3, va_rf v3), (4, va_rf v4), (5, va_rf v5), (6, va_rf (gP σ a139 1))]) hl [1, 2, 3, 4, 5, 6, 0] rfl) hc
  · rw [if_neg (fun q => q ((lg_cmp_eq _ _).mp h9))] at h
    exact a_X11_goOnBy_37 K hQ hX hTh hK12 _ _ _ _ _ _ _ g1 g2 g3 g4 g5 (hYσ.get ka139 (by decide)) h hGσ hYσ hE hth _ _ _ hH (lv_sub (l' := [(0, .ref th), (1, va_rf v1), (2, va_rf v2), (3, va_rf v3), (4, va_rf v4), (5, va_rf v5), (6, va_rf (gP σ a139 1))]) hl [1, 2, 3, 4, 5, 6, 0] rfl) hc
set_option maxRecDepth 20000 in
theorem a_X11_goOnBy_12 {Q : Sg → Unit → Prop} {X : Sg → String → Prop} {th : Nat} (K : MD l R p s m args c cX11_goOnBy 9 RX11 D cA tys A n0 s0 8 136 []) (hQ : CQV p l e R s m args below meth c cX11_goOnBy D cA A n0 s0 QM σi Q) (hX : CX p l e R s m args below meth c 9 D cA A n0 s0 QM σi X) (hTh : CT p l e R s m args below meth c cX11_goOnBy 9 D cA A n0 s0 QM σi RX11 X) {K12 : Sg → Option Nat → Option Nat → Option Nat → Option Nat → Option Nat → Prop} (hK12 : ∀ (σ : Sg) (v1 : Option Nat) (v2 : Option Nat) (v3 : Option Nat) (v4 : Option Nat) (v5 : Option Nat) (g1 : tyV σ 5 v1) (g2 : tyV σ 10 v2) (g3 : tyV σ 0 v3) (g4 : tyV σ 0 v4) (g5 : tyV σ 0 v5), K12 σ v1 v2 v3 v4 v5 → RG σ → TY σ → Ext σi σ → kO σ th 11 → JJ p l e R s m args below meth c 9 D cA A n0 s0 QM σ 12 [(0, .ref th), (1, va_rf v1), (2, va_rf v2), (3, va_rf v3), (4, va_rf v4), (5, va_rf v5)] []) : ∀ (σ : Sg) (v1 : Option Nat) (v2 : Option Nat) (v3 : Option Nat) (v4 : Option Nat) (v5 : Option Nat) (g1 : tyV σ 5 v1) (g2 : tyV σ 10 v2) (g3 : tyV σ 0 v3) (g4 : tyV σ 0 v4) (g5 : tyV σ 0 v5), w_X11_goOnBy_12 th K12 Q X σ v1 v2 v3 v4 v5 → RG σ → TY σ → Ext σi σ → kO σ th 11 → JJ p l e R s m args below meth c 9 D cA A n0 s0 QM σ 12 [(0, .ref th), (1, va_rf v1), (2, va_rf v2), (3, va_rf v3), (4, va_rf v4), (5, va_rf v5)] [] := by
  intro σ v1 v2 v3 v4 v5 g1 g2 g3 g4 g5 h hGσ hYσ hE hth H locs ls hH hl hc
  have B := K.1
  have hl9 := K.2.2.2.2.2.2
  unfold w_X11_goOnBy_12 at h
  refine lv_aloadQ B.1 B.2.1 dX11_goOnBy_12 (lv_at hl 5 rfl) ?_
  refine lv_ifnullQ (tgt := 249) B.1 B.2.1 dX11_goOnBy_14 (by decide) (fun h9 => ?_) (fun h9 => ?_)
  · rw [if_pos (h9)] at h
    exact a_X11_goOnBy_249 K hQ hX hTh _ h hGσ hYσ hE hth _ _ _ hH (lv_sub (l' := [(0, .ref th)]) hl [0] rfl) hc
  · rw [if_neg (h9)] at h
    exact a_X11_goOnBy_17 K hQ hX hTh hK12 _ _ _ _ _ _ g1 g2 g3 g4 g5 h hGσ hYσ hE hth _ _ _ hH (lv_sub (l' := [(0, .ref th), (1, va_rf v1), (2, va_rf v2), (3, va_rf v3), (4, va_rf v4), (5, va_rf v5)]) hl [0, 1, 2, 3, 4, 5] rfl) hc
theorem al_X11_goOnBy_12 {Q : Sg → Unit → Prop} {X : Sg → String → Prop} {th : Nat} (K : MD l R p s m args c cX11_goOnBy 9 RX11 D cA tys A n0 s0 8 136 []) (hQ : CQV p l e R s m args below meth c cX11_goOnBy D cA A n0 s0 QM σi Q) (hX : CX p l e R s m args below meth c 9 D cA A n0 s0 QM σi X) (hTh : CT p l e R s m args below meth c cX11_goOnBy 9 D cA A n0 s0 QM σi RX11 X) : ∀ (n : Nat), ∀ (σ : Sg) (v1 : Option Nat) (v2 : Option Nat) (v3 : Option Nat) (v4 : Option Nat) (v5 : Option Nat) (g1 : tyV σ 5 v1) (g2 : tyV σ 10 v2) (g3 : tyV σ 0 v3) (g4 : tyV σ 0 v4) (g5 : tyV σ 0 v5), wl_X11_goOnBy_12 th Q X n σ v1 v2 v3 v4 v5 → RG σ → TY σ → Ext σi σ → kO σ th 11 → JJ p l e R s m args below meth c 9 D cA A n0 s0 QM σ 12 [(0, .ref th), (1, va_rf v1), (2, va_rf v2), (3, va_rf v3), (4, va_rf v4), (5, va_rf v5)] [] := by
  intro n
  induction n with
  | zero => intro σ v1 v2 v3 v4 v5 g1 g2 g3 g4 g5 h; exact h.elim
  | succ n ih => exact fun σ v1 v2 v3 v4 v5 g1 g2 g3 g4 g5 h => a_X11_goOnBy_12 K hQ hX hTh ih σ v1 v2 v3 v4 v5 g1 g2 g3 g4 g5 h
set_option maxRecDepth 20000 in
theorem a_X11_goOnBy_0 {Q : Sg → Unit → Prop} {X : Sg → String → Prop} {th : Nat} (K : MD l R p s m args c cX11_goOnBy 9 RX11 D cA tys A n0 s0 8 136 []) (hQ : CQV p l e R s m args below meth c cX11_goOnBy D cA A n0 s0 QM σi Q) (hX : CX p l e R s m args below meth c 9 D cA A n0 s0 QM σi X) (hTh : CT p l e R s m args below meth c cX11_goOnBy 9 D cA A n0 s0 QM σi RX11 X) : ∀ (σ : Sg) (v1 : Option Nat) (v2 : Option Nat) (v3 : Option Nat) (g1 : tyV σ 5 v1) (g2 : tyV σ 10 v2) (g3 : tyV σ 0 v3), w_X11_goOnBy_0 th Q X σ v1 v2 v3 → RG σ → TY σ → Ext σi σ → kO σ th 11 → JJ p l e R s m args below meth c 9 D cA A n0 s0 QM σ 0 [(0, .ref th), (1, va_rf v1), (2, va_rf v2), (3, va_rf v3)] [] := by
  intro σ v1 v2 v3 g1 g2 g3 h hGσ hYσ hE hth H locs ls hH hl hc
  have B := K.1
  have hl9 := K.2.2.2.2.2.2
  unfold w_X11_goOnBy_0 at h
  refine lv_null B.1 B.2.1 dX11_goOnBy_0 ?_
  refine W.eq (g2 := F0 m 1 ls [va_rf none]) (rfl) ?_
  refine lv_astoreQ (lv' := [(4, va_rf none), (0, .ref th), (1, va_rf v1), (2, va_rf v2), (3, va_rf v3)]) B.1 B.2.1 dX11_goOnBy_1 hl (by decide) (by generalize v3 = w9; cases w9 <;> rfl) (fun ls hl => ?_)
  refine lv_aload_nQ B.1 B.2.1 dX11_goOnBy_3 rfl (lv_at hl 3 rfl) ?_
  obtain ⟨a141, ea141, h⟩ := h
  have ka141 : kO σ a141 10 := g2 a141 ea141
  have h := h ka141
  refine W.eq (g2 := F0 m 4 ls [.ref a141]) (by rw [ea141]; rfl) ?_
  refine f_getp B hH ka141 (by decide) rfl wu_X10 3 (by decide) wf_X11_117 rfl rfl dX11_goOnBy_4 ?_
  obtain ⟨a142, ea142, h⟩ := h
  have ka142 : kO σ a142 1 := (hYσ.get ka141 (by decide)) a142 ea142
  have h := h ka142
  refine W.eq (g2 := F0 m 7 ls [.ref a142]) (by rw [ea142]; rfl) ?_
  refine f_getp B hH ka142 (by decide) rfl wu_X1 0 (by decide) wf_X11_225 rfl rfl dX11_goOnBy_7 ?_
  refine lv_astoreQ (lv' := [(5, va_rf (gP σ a142 0)), (4, va_rf none), (0, .ref th), (1, va_rf v1), (2, va_rf v2), (3, va_rf v3)]) B.1 B.2.1 dX11_goOnBy_10 hl (by decide) rfl (fun ls hl => ?_)
  obtain ⟨n9, h⟩ := h
  exact al_X11_goOnBy_12 K hQ hX hTh n9 _ _ _ _ _ _ g1 g2 g3 (tyn _ _) (hYσ.get ka142 (by decide)) h hGσ hYσ hE hth _ _ _ hH (lv_sub (l' := [(0, .ref th), (1, va_rf v1), (2, va_rf v2), (3, va_rf v3), (4, va_rf none), (5, va_rf (gP σ a142 0))]) hl [2, 3, 4, 5, 1, 0] rfl) hc
theorem ok_X11_goOnBy (hl0 : l.stackTraces = false) (hT : TyC cA tys) {Q : Sg → Unit → Prop} {X : Sg → String → Prop} (σ : Sg) (th : Nat) (v1 : Option Nat) (v2 : Option Nat) (v3 : Option Nat) (g1 : tyV σ 5 v1) (g2 : tyV σ 10 v2) (g3 : tyV σ 0 v3) (hth : kO σ th 11) (hG : RG σ) (hY : TY σ) (h : wp_X11_goOnBy th v1 v2 v3 σ Q X) : Ok l D cA tys A yX11_goOnBy (.code yX11_goOnBy cX11_goOnBy 9 none) 8 136 [.ref th, va_rf v1, va_rf v2, va_rf v3] σ (QcV σ Q) (QxC σ X) := by
  unfold wp_X11_goOnBy at h
  exact oc_V hl0 (by decide) (by cases v1 <;> cases v2 <;> cases v3 <;> exact Nat.le_of_ble_eq_true rfl) hT (fun p e R s m args below meth c K hQ hX hTh hin9 H locs ls hH hl hc => a_X11_goOnBy_0 K hQ hX hTh σ v1 v2 v3 g1 g2 g3 h hG hY (Ext.rfl' σ) hth H locs ls hH (lv_sub (l' := [(0, .ref th), (1, va_rf v1), (2, va_rf v2), (3, va_rf v3)]) hl [0, 1, 2, 3] (by cases v1 <;> cases v2 <;> cases v3 <;> rfl)) hc)
theorem dX11_matchUpTo_0 : decode cX11_matchUpTo 0 = .ok (.aload_n 2, 1) := by decide +kernel
theorem dX11_matchUpTo_1 : decode cX11_matchUpTo 1 = .ok (.getfield 105, 3) := by decide +kernel
theorem dX11_matchUpTo_4 : decode cX11_matchUpTo 4 = .ok (.getfield 225, 3) := by decide +kernel
theorem dX11_matchUpTo_7 : decode cX11_matchUpTo 7 = .ok (.astore 5, 2) := by decide +kernel
theorem dX11_matchUpTo_9 : decode cX11_matchUpTo 9 = .ok (.aload 5, 2) := by decide +kernel
theorem dX11_matchUpTo_11 : decode cX11_matchUpTo 11 = .ok (.ifnull 124, 3) := by decide +kernel
theorem dX11_matchUpTo_14 : decode cX11_matchUpTo 14 = .ok (.aload 5, 2) := by decide +kernel
theorem dX11_matchUpTo_16 : decode cX11_matchUpTo 16 = .ok (.getfield 85, 3) := by decide +kernel
theorem dX11_matchUpTo_19 : decode cX11_matchUpTo 19 = .ok (.lload_n 3, 1) := by decide +kernel
theorem dX11_matchUpTo_20 : decode cX11_matchUpTo 20 = .ok (.lcmp, 1) := by decide +kernel
theorem dX11_matchUpTo_21 : decode cX11_matchUpTo 21 = .ok (.ifCond .gt 114, 3) := by decide +kernel
theorem dX11_matchUpTo_24 : decode cX11_matchUpTo 24 = .ok (.aload_n 2, 1) := by decide +kernel
theorem dX11_matchUpTo_25 : decode cX11_matchUpTo 25 = .ok (.getfield 105, 3) := by decide +kernel
theorem dX11_matchUpTo_28 : decode cX11_matchUpTo 28 = .ok (.invokevirtual 261, 3) := by decide +kernel
theorem dX11_matchUpTo_31 : decode cX11_matchUpTo 31 = .ok (.pop, 1) := by decide +kernel
theorem dX11_matchUpTo_32 : decode cX11_matchUpTo 32 = .ok (.aload_n 0, 1) := by decide +kernel
theorem dX11_matchUpTo_33 : decode cX11_matchUpTo 33 = .ok (.dup, 1) := by decide +kernel
theorem dX11_matchUpTo_34 : decode cX11_matchUpTo 34 = .ok (.getfield 165, 3) := by decide +kernel
theorem dX11_matchUpTo_37 : decode cX11_matchUpTo 37 = .ok (.iconst 1, 1) := by decide +kernel
theorem dX11_matchUpTo_38 : decode cX11_matchUpTo 38 = .ok (.isub, 1) := by decide +kernel
theorem dX11_matchUpTo_39 : decode cX11_matchUpTo 39 = .ok (.putfield 165, 3) := by decide +kernel
theorem dX11_matchUpTo_42 : decode cX11_matchUpTo 42 = .ok (.aload_n 0, 1) := by decide +kernel
theorem dX11_matchUpTo_43 : decode cX11_matchUpTo 43 = .ok (.aload_n 1, 1) := by decide +kernel
theorem dX11_matchUpTo_44 : decode cX11_matchUpTo 44 = .ok (.aload_n 2, 1) := by decide +kernel
theorem dX11_matchUpTo_45 : decode cX11_matchUpTo 45 = .ok (.aload 5, 2) := by decide +kernel
theorem dX11_matchUpTo_47 : decode cX11_matchUpTo 47 = .ok (.invokevirtual 279, 3) := by decide +kernel
theorem dX11_matchUpTo_50 : decode cX11_matchUpTo 50 = .ok (.aload 5, 2) := by decide +kernel
theorem dX11_matchUpTo_52 : decode cX11_matchUpTo 52 = .ok (.getfield 276, 3) := by decide +kernel
theorem dX11_matchUpTo_55 : decode cX11_matchUpTo 55 = .ok (.iconst 1, 1) := by decide +kernel
theorem dX11_matchUpTo_56 : decode cX11_matchUpTo 56 = .ok (.iand, 1) := by decide +kernel
theorem dX11_matchUpTo_57 : decode cX11_matchUpTo 57 = .ok (.ifCond .eq 57, 3) := by decide +kernel
theorem dX11_matchUpTo_60 : decode cX11_matchUpTo 60 = .ok (.aload_n 0, 1) := by decide +kernel
theorem dX11_matchUpTo_61 : decode cX11_matchUpTo 61 = .ok (.getfield 22, 3) := by decide +kernel
theorem dX11_matchUpTo_64 : decode cX11_matchUpTo 64 = .ok (.invokevirtual 191, 3) := by decide +kernel
theorem dX11_matchUpTo_67 : decode cX11_matchUpTo 67 = .ok (.astore 6, 2) := by decide +kernel
theorem dX11_matchUpTo_69 : decode cX11_matchUpTo 69 = .ok (.aload 6, 2) := by decide +kernel
theorem dX11_matchUpTo_71 : decode cX11_matchUpTo 71 = .ok (.aload 5, 2) := by decide +kernel
theorem dX11_matchUpTo_73 : decode cX11_matchUpTo 73 = .ok (.getfield 72, 3) := by decide +kernel
theorem dX11_matchUpTo_76 : decode cX11_matchUpTo 76 = .ok (.putfield 72, 3) := by decide +kernel
theorem dX11_matchUpTo_79 : decode cX11_matchUpTo 79 = .ok (.aload 6, 2) := by decide +kernel
theorem dX11_matchUpTo_81 : decode cX11_matchUpTo 81 = .ok (.aload 5, 2) := by decide +kernel
theorem dX11_matchUpTo_83 : decode cX11_matchUpTo 83 = .ok (.getfield 85, 3) := by decide +kernel
theorem dX11_matchUpTo_86 : decode cX11_matchUpTo 86 = .ok (.putfield 92, 3) := by decide +kernel
theorem dX11_matchUpTo_89 : decode cX11_matchUpTo 89 = .ok (.aload 6, 2) := by decide +kernel
theorem dX11_matchUpTo_91 : decode cX11_matchUpTo 91 = .ok (.iconst 1, 1) := by decide +kernel
theorem dX11_matchUpTo_92 : decode cX11_matchUpTo 92 = .ok (.putfield 276, 3) := by decide +kernel
theorem dX11_matchUpTo_95 : decode cX11_matchUpTo 95 = .ok (.aload 6, 2) := by decide +kernel
theorem dX11_matchUpTo_97 : decode cX11_matchUpTo 97 = .ok (.aload 5, 2) := by decide +kernel
theorem dX11_matchUpTo_99 : decode cX11_matchUpTo 99 = .ok (.getfield 195, 3) := by decide +kernel
theorem dX11_matchUpTo_102 : decode cX11_matchUpTo 102 = .ok (.putfield 195, 3) := by decide +kernel
theorem dX11_matchUpTo_105 : decode cX11_matchUpTo 105 = .ok (.aload_n 0, 1) := by decide +kernel
theorem dX11_matchUpTo_106 : decode cX11_matchUpTo 106 = .ok (.aload_n 1, 1) := by decide +kernel
theorem dX11_matchUpTo_107 : decode cX11_matchUpTo 107 = .ok (.aload_n 2, 1) := by decide +kernel
theorem dX11_matchUpTo_108 : decode cX11_matchUpTo 108 = .ok (.iconst 1, 1) := by decide +kernel
theorem dX11_matchUpTo_109 : decode cX11_matchUpTo 109 = .ok (.aload 6, 2) := by decide +kernel
theorem dX11_matchUpTo_111 : decode cX11_matchUpTo 111 = .ok (.invokevirtual 95, 3) := by decide +kernel
theorem dX11_matchUpTo_114 : decode cX11_matchUpTo 114 = .ok (.aload_n 0, 1) := by decide +kernel
theorem dX11_matchUpTo_115 : decode cX11_matchUpTo 115 = .ok (.getfield 22, 3) := by decide +kernel
theorem dX11_matchUpTo_118 : decode cX11_matchUpTo 118 = .ok (.aload 5, 2) := by decide +kernel
theorem dX11_matchUpTo_120 : decode cX11_matchUpTo 120 = .ok (.invokevirtual 174, 3) := by decide +kernel
theorem dX11_matchUpTo_123 : decode cX11_matchUpTo 123 = .ok (.aload_n 2, 1) := by decide +kernel
theorem dX11_matchUpTo_124 : decode cX11_matchUpTo 124 = .ok (.getfield 105, 3) := by decide +kernel
theorem dX11_matchUpTo_127 : decode cX11_matchUpTo 127 = .ok (.getfield 225, 3) := by decide +kernel
theorem dX11_matchUpTo_130 : decode cX11_matchUpTo 130 = .ok (.astore 5, 2) := by decide +kernel
theorem dX11_matchUpTo_132 : decode cX11_matchUpTo 132 = .ok (.goto (-123), 3) := by decide +kernel
theorem dX11_matchUpTo_135 : decode cX11_matchUpTo 135 = .ok (.aconst_null, 1) := by decide +kernel
theorem dX11_matchUpTo_136 : decode cX11_matchUpTo 136 = .ok (.astore 5, 2) := by decide +kernel
theorem dX11_matchUpTo_138 : decode cX11_matchUpTo 138 = .ok (.aload_n 2, 1) := by decide +kernel
theorem dX11_matchUpTo_139 : decode cX11_matchUpTo 139 = .ok (.getfield 117, 3) := by decide +kernel
theorem dX11_matchUpTo_142 : decode cX11_matchUpTo 142 = .ok (.getfield 225, 3) := by decide +kernel
theorem dX11_matchUpTo_145 : decode cX11_matchUpTo 145 = .ok (.astore 6, 2) := by decide +kernel
theorem dX11_matchUpTo_147 : decode cX11_matchUpTo 147 = .ok (.aload 6, 2) := by decide +kernel
theorem dX11_matchUpTo_149 : decode cX11_matchUpTo 149 = .ok (.ifnull 52, 3) := by decide +kernel
theorem dX11_matchUpTo_152 : decode cX11_matchUpTo 152 = .ok (.aload 6, 2) := by decide +kernel
theorem dX11_matchUpTo_154 : decode cX11_matchUpTo 154 = .ok (.getfield 235, 3) := by decide +kernel
theorem dX11_matchUpTo_157 : decode cX11_matchUpTo 157 = .ok (.astore 7, 2) := by decide +kernel
theorem dX11_matchUpTo_159 : decode cX11_matchUpTo 159 = .ok (.lload_n 3, 1) := by decide +kernel
theorem dX11_matchUpTo_160 : decode cX11_matchUpTo 160 = .ok (.lconst 1, 1) := by decide +kernel
theorem dX11_matchUpTo_161 : decode cX11_matchUpTo 161 = .ok (.ladd, 1) := by decide +kernel
theorem dX11_matchUpTo_162 : decode cX11_matchUpTo 162 = .ok (.aload 6, 2) := by decide +kernel
theorem dX11_matchUpTo_164 : decode cX11_matchUpTo 164 = .ok (.getfield 92, 3) := by decide +kernel
theorem dX11_matchUpTo_167 : decode cX11_matchUpTo 167 = .ok (.lsub, 1) := by decide +kernel
theorem dX11_matchUpTo_168 : decode cX11_matchUpTo 168 = .ok (.aload_n 1, 1) := by decide +kernel
theorem dX11_matchUpTo_169 : decode cX11_matchUpTo 169 = .ok (.getfield 110, 3) := by decide +kernel
theorem dX11_matchUpTo_172 : decode cX11_matchUpTo 172 = .ok (.i2l, 1) := by decide +kernel
theorem dX11_matchUpTo_173 : decode cX11_matchUpTo 173 = .ok (.lcmp, 1) := by decide +kernel
theorem dX11_matchUpTo_174 : decode cX11_matchUpTo 174 = .ok (.ifCond .le 16, 3) := by decide +kernel
theorem dX11_matchUpTo_177 : decode cX11_matchUpTo 177 = .ok (.aload_n 0, 1) := by decide +kernel
theorem dX11_matchUpTo_178 : decode cX11_matchUpTo 178 = .ok (.aload_n 2, 1) := by decide +kernel
theorem dX11_matchUpTo_179 : decode cX11_matchUpTo 179 = .ok (.getfield 117, 3) := by decide +kernel
theorem dX11_matchUpTo_182 : decode cX11_matchUpTo 182 = .ok (.aload 5, 2) := by decide +kernel
theorem dX11_matchUpTo_184 : decode cX11_matchUpTo 184 = .ok (.invokevirtual 257, 3) := by decide +kernel
theorem dX11_matchUpTo_187 : decode cX11_matchUpTo 187 = .ok (.goto 7, 3) := by decide +kernel
theorem dX11_matchUpTo_190 : decode cX11_matchUpTo 190 = .ok (.aload 6, 2) := by decide +kernel
theorem dX11_matchUpTo_192 : decode cX11_matchUpTo 192 = .ok (.astore 5, 2) := by decide +kernel
theorem dX11_matchUpTo_194 : decode cX11_matchUpTo 194 = .ok (.aload 7, 2) := by decide +kernel
theorem dX11_matchUpTo_196 : decode cX11_matchUpTo 196 = .ok (.astore 6, 2) := by decide +kernel
theorem dX11_matchUpTo_198 : decode cX11_matchUpTo 198 = .ok (.goto (-51), 3) := by decide +kernel
theorem dX11_matchUpTo_201 : decode cX11_matchUpTo 201 = .ok (.return_, 1) := by decide +kernel
set_option maxRecDepth 20000 in
theorem a_X11_matchUpTo_201 {Q : Sg → Unit → Prop} {X : Sg → String → Prop} {th : Nat} (K : MD l R p s m args c cX11_matchUpTo 8 RX11 D cA tys A n0 s0 9 164 []) (hQ : CQV p l e R s m args below meth c cX11_matchUpTo D cA A n0 s0 QM σi Q) (hX : CX p l e R s m args below meth c 8 D cA A n0 s0 QM σi X) (hTh : CT p l e R s m args below meth c cX11_matchUpTo 8 D cA A n0 s0 QM σi RX11 X) : ∀ (σ : Sg), w_X11_matchUpTo_201 th Q X σ → RG σ → TY σ → Ext σi σ → kO σ th 11 → JJ p l e R s m args below meth c 8 D cA A n0 s0 QM σ 201 [(0, .ref th)] [] := by
  intro σ h hGσ hYσ hE hth H locs ls hH hl hc
  have B := K.1
  have hl9 := K.2.2.2.2.2.2
  unfold w_X11_matchUpTo_201 at h
  exact hQ _ _ _ _ _ dX11_matchUpTo_201 hH hc h hGσ hYσ hE
set_option maxRecDepth 20000 in
theorem a_X11_matchUpTo_194 {Q : Sg → Unit → Prop} {X : Sg → String → Prop} {th : Nat} (K : MD l R p s m args c cX11_matchUpTo 8 RX11 D cA tys A n0 s0 9 164 []) (hQ : CQV p l e R s m args below meth c cX11_matchUpTo D cA A n0 s0 QM σi Q) (hX : CX p l e R s m args below meth c 8 D cA A n0 s0 QM σi X) (hTh : CT p l e R s m args below meth c cX11_matchUpTo 8 D cA A n0 s0 QM σi RX11 X) {K147 : Sg → Option Nat → Option Nat → Int64 → Option Nat → Option Nat → Prop} (hK147 : ∀ (σ : Sg) (v1 : Option Nat) (v2 : Option Nat) (v3 : Int64) (v5 : Option Nat) (v6 : Option Nat) (g1 : tyV σ 5 v1) (g2 : tyV σ 10 v2) (g5 : tyV σ 0 v5) (g6 : tyV σ 0 v6), K147 σ v1 v2 v3 v5 v6 → RG σ → TY σ → Ext σi σ → kO σ th 11 → JJ p l e R s m args below meth c 8 D cA A n0 s0 QM σ 147 [(0, .ref th), (1, va_rf v1), (2, va_rf v2), (3, .long v3), (5, va_rf v5), (6, va_rf v6)] []) : ∀ (σ : Sg) (v1 : Option Nat) (v2 : Option Nat) (v3 : Int64) (v5 : Option Nat) (v7 : Option Nat) (g1 : tyV σ 5 v1) (g2 : tyV σ 10 v2) (g5 : tyV σ 0 v5) (g7 : tyV σ 0 v7), w_X11_matchUpTo_194 th K147 Q X σ v1 v2 v3 v5 v7 → RG σ → TY σ → Ext σi σ → kO σ th 11 → JJ p l e R s m args below meth c 8 D cA A n0 s0 QM σ 194 [(0, .ref th), (1, va_rf v1), (2, va_rf v2), (3, .long v3), (5, va_rf v5), (7, va_rf v7)] [] := by
  intro σ v1 v2 v3 v5 v7 g1 g2 g5 g7 h hGσ hYσ hE hth H locs ls hH hl hc
  have B := K.1
  have hl9 := K.2.2.2.2.2.2
  unfold w_X11_matchUpTo_194 at h
  refine lv_aloadQ B.1 B.2.1 dX11_matchUpTo_194 (lv_at hl 5 rfl) ?_
  refine lv_astoreQ (lv' := [(6, va_rf v7), (0, .ref th), (1, va_rf v1), (2, va_rf v2), (3, .long v3), (5, va_rf v5), (7, va_rf v7)]) B.1 B.2.1 dX11_matchUpTo_196 hl (by decide) (by generalize v5 = w9; cases w9 <;> rfl) (fun ls hl => ?_)
  refine lv_goto (tgt := 147) B.1 B.2.1 dX11_matchUpTo_198 (by decide) ?_
  exact hK147 _ _ _ _ _ _ g1 g2 g5 g7 h hGσ hYσ hE hth _ _ _ hH (lv_sub (l' := [(0, .ref th), (1, va_rf v1), (2, va_rf v2), (3, .long v3), (5, va_rf v5), (6, va_rf v7)]) hl [1, 2, 3, 4, 5, 0] rfl) hc
set_option maxRecDepth 20000 in
theorem a_X11_matchUpTo_190 {Q : Sg → Unit → Prop} {X : Sg → String → Prop} {th : Nat} (K : MD l R p s m args c cX11_matchUpTo 8 RX11 D cA tys A n0 s0 9 164 []) (hQ : CQV p l e R s m args below meth c cX11_matchUpTo D cA A n0 s0 QM σi Q) (hX : CX p l e R s m args below meth c 8 D cA A n0 s0 QM σi X) (hTh : CT p l e R s m args below meth c cX11_matchUpTo 8 D cA A n0 s0 QM σi RX11 X) {K147 : Sg → Option Nat → Option Nat → Int64 → Option Nat → Option Nat → Prop} (hK147 : ∀ (σ : Sg) (v1 : Option Nat) (v2 : Option Nat) (v3 : Int64) (v5 : Option Nat) (v6 : Option Nat) (g1 : tyV σ 5 v1) (g2 : tyV σ 10 v2) (g5 : tyV σ 0 v5) (g6 : tyV σ 0 v6), K147 σ v1 v2 v3 v5 v6 → RG σ → TY σ → Ext σi σ → kO σ th 11 → JJ p l e R s m args below meth c 8 D cA A n0 s0 QM σ 147 [(0, .ref th), (1, va_rf v1), (2, va_rf v2), (3, .long v3), (5, va_rf v5), (6, va_rf v6)] []) : ∀ (σ : Sg) (v1 : Option Nat) (v2 : Option Nat) (v3 : Int64) (v6 : Option Nat) (v7 : Option Nat) (g1 : tyV σ 5 v1) (g2 : tyV σ 10 v2) (g6 : tyV σ 0 v6) (g7 : tyV σ 0 v7), w_X11_matchUpTo_190 th K147 Q X σ v1 v2 v3 v6 v7 → RG σ → TY σ → Ext σi σ → kO σ th 11 → JJ p l e R s m args below meth c 8 D cA A n0 s0 QM σ 190 [(0, .ref th), (1, va_rf v1), (2, va_rf v2), (3, .long v3), (6, va_rf v6), (7, va_rf v7)] [] := by
  intro σ v1 v2 v3 v6 v7 g1 g2 g6 g7 h hGσ hYσ hE hth H locs ls hH hl hc
  have B := K.1
  have hl9 := K.2.2.2.2.2.2
  unfold w_X11_matchUpTo_190 at h
  refine lv_aloadQ B.1 B.2.1 dX11_matchUpTo_190 (lv_at hl 4 rfl) ?_
  refine lv_astoreQ (lv' := [(5, va_rf v6), (0, .ref th), (1, va_rf v1), (2, va_rf v2), (3, .long v3), (6, va_rf v6), (7, va_rf v7)]) B.1 B.2.1 dX11_matchUpTo_192 hl (by decide) rfl (fun ls hl => ?_)
  exact a_X11_matchUpTo_194 K hQ hX hTh hK147 _ _ _ _ _ _ g1 g2 g6 g7 h hGσ hYσ hE hth _ _ _ hH (lv_sub (l' := [(0, .ref th), (1, va_rf v1), (2, va_rf v2), (3, .long v3), (5, va_rf v6), (7, va_rf v7)]) hl [1, 2, 3, 4, 0, 6] rfl) hc
set_option maxRecDepth 20000 in
theorem a_X11_matchUpTo_177 {Q : Sg → Unit → Prop} {X : Sg → String → Prop} {th : Nat} (K : MD l R p s m args c cX11_matchUpTo 8 RX11 D cA tys A n0 s0 9 164 []) (hQ : CQV p l e R s m args below meth c cX11_matchUpTo D cA A n0 s0 QM σi Q) (hX : CX p l e R s m args below meth c 8 D cA A n0 s0 QM σi X) (hTh : CT p l e R s m args below meth c cX11_matchUpTo 8 D cA A n0 s0 QM σi RX11 X) {K147 : Sg → Option Nat → Option Nat → Int64 → Option Nat → Option Nat → Prop} (hK147 : ∀ (σ : Sg) (v1 : Option Nat) (v2 : Option Nat) (v3 : Int64) (v5 : Option Nat) (v6 : Option Nat) (g1 : tyV σ 5 v1) (g2 : tyV σ 10 v2) (g5 : tyV σ 0 v5) (g6 : tyV σ 0 v6), K147 σ v1 v2 v3 v5 v6 → RG σ → TY σ → Ext σi σ → kO σ th 11 → JJ p l e R s m args below meth c 8 D cA A n0 s0 QM σ 147 [(0, .ref th), (1, va_rf v1), (2, va_rf v2), (3, .long v3), (5, va_rf v5), (6, va_rf v6)] []) : ∀ (σ : Sg) (v1 : Option Nat) (v2 : Option Nat) (v3 : Int64) (v5 : Option Nat) (v7 : Option Nat) (g1 : tyV σ 5 v1) (g2 : tyV σ 10 v2) (g5 : tyV σ 0 v5) (g7 : tyV σ 0 v7), w_X11_matchUpTo_177 th K147 Q X σ v1 v2 v3 v5 v7 → RG σ → TY σ → Ext σi σ → kO σ th 11 → JJ p l e R s m args below meth c 8 D cA A n0 s0 QM σ 177 [(0, .ref th), (1, va_rf v1), (2, va_rf v2), (3, .long v3), (5, va_rf v5), (7, va_rf v7)] [] := by
  intro σ v1 v2 v3 v5 v7 g1 g2 g5 g7 h hGσ hYσ hE hth H locs ls hH hl hc
  have B := K.1
  have hl9 := K.2.2.2.2.2.2
  unfold w_X11_matchUpTo_177 at h
  refine lv_aload_n B.1 B.2.1 dX11_matchUpTo_177 rfl (lv_at hl 0 rfl) ?_
  refine lv_aload_nQ B.1 B.2.1 dX11_matchUpTo_178 rfl (lv_at hl 2 rfl) ?_
  obtain ⟨a69, ea69, h⟩ := h
  have ka69 : kO σ a69 10 := g2 a69 ea69
  have h := h ka69
  refine W.eq (g2 := F0 m 179 ls [.ref a69, .ref th]) (by rw [ea69]; rfl) ?_
  refine f_getp B hH ka69 (by decide) rfl wu_X10 3 (by decide) wf_X11_117 rfl rfl dX11_matchUpTo_179 ?_
  refine lv_aloadQ B.1 B.2.1 dX11_matchUpTo_182 (lv_at hl 4 rfl) ?_
  refine W.eq (g2 := F0 m 184 ls [va_rf v5, va_rf (gP σ a69 3), .ref th]) (rfl) ?_
  refine c_V B hH hl hc K.2.2.1 (C := RX11) (T := TX11) (N := 6) (ci := 11) (As := [va_rf (gP σ a69 3), va_rf v5]) (ok_X11_drop hl9 K.2.1 σ th (gP σ a69 3) v5 (hYσ.get ka69 (by decide)) g5 hth hGσ hYσ h) wc_X11_257 2 hd_X11_drop ⟨Nat.le_trans (Nat.le_of_ble_eq_true rfl) K.2.2.2.1, Nat.le_trans (Nat.le_of_ble_eq_true rfl) K.2.2.2.2.1⟩ hth.1 hth.2 (by decide) rfl rfl (rest := []) rfl (Nat.le_of_ble_eq_true rfl) dX11_matchUpTo_184 (fun σ70 w hq => ?_) (fun σ9 E9 hx9 => hX σ9 E9 _ _ _ (tb_out K.2.2.2.2.2.1 rfl) hx9.1 hx9.2.1 hx9.2.2.1 (hE.trans hx9.2.2.2))
  obtain ⟨rfl, h, hGσ70, hYσ70, xσ70⟩ := hq
  have h := h xσ70
  intro H locs ls hH hl hc
  refine W.eq (g2 := F0 m 187 ls []) (rfl) ?_
  try dsimp only at h
  refine lv_goto (tgt := 194) B.1 B.2.1 dX11_matchUpTo_187 (by decide) ?_
  exact a_X11_matchUpTo_194 K hQ hX hTh hK147 _ _ _ _ _ _ (g1.up xσ70) (g2.up xσ70) (g5.up xσ70) (g7.up xσ70) h hGσ70 hYσ70 (hE.trans xσ70) (hth.up xσ70) _ _ _ hH (lv_sub (l' := [(0, .ref th), (1, va_rf v1), (2, va_rf v2), (3, .long v3), (5, va_rf v5), (7, va_rf v7)]) hl [0, 1, 2, 3, 4, 5] rfl) hc
set_option maxRecDepth 20000 in
theorem a_X11_matchUpTo_152 {Q : Sg → Unit → Prop} {X : Sg → String → Prop} {th : Nat} (K : MD l R p s m args c cX11_matchUpTo 8 RX11 D cA tys A n0 s0 9 164 []) (hQ : CQV p l e R s m args below meth c cX11_matchUpTo D cA A n0 s0 QM σi Q) (hX : CX p l e R s m args below meth c 8 D cA A n0 s0 QM σi X) (hTh : CT p l e R s m args below meth c cX11_matchUpTo 8 D cA A n0 s0 QM σi RX11 X) {K147 : Sg → Option Nat → Option Nat → Int64 → Option Nat → Option Nat → Prop} (hK147 : ∀ (σ : Sg) (v1 : Option Nat) (v2 : Option Nat) (v3 : Int64) (v5 : Option Nat) (v6 : Option Nat) (g1 : tyV σ 5 v1) (g2 : tyV σ 10 v2) (g5 : tyV σ 0 v5) (g6 : tyV σ 0 v6), K147 σ v1 v2 v3 v5 v6 → RG σ → TY σ → Ext σi σ → kO σ th 11 → JJ p l e R s m args below meth c 8 D cA A n0 s0 QM σ 147 [(0, .ref th), (1, va_rf v1), (2, va_rf v2), (3, .long v3), (5, va_rf v5), (6, va_rf v6)] []) : ∀ (σ : Sg) (v1 : Option Nat) (v2 : Option Nat) (v3 : Int64) (v5 : Option Nat) (v6 : Option Nat) (g1 : tyV σ 5 v1) (g2 : tyV σ 10 v2) (g5 : tyV σ 0 v5) (g6 : tyV σ 0 v6), w_X11_matchUpTo_152 th K147 Q X σ v1 v2 v3 v5 v6 → RG σ → TY σ → Ext σi σ → kO σ th 11 → JJ p l e R s m args below meth c 8 D cA A n0 s0 QM σ 152 [(0, .ref th), (1, va_rf v1), (2, va_rf v2), (3, .long v3), (5, va_rf v5), (6, va_rf v6)] [] := by
  intro σ v1 v2 v3 v5 v6 g1 g2 g5 g6 h hGσ hYσ hE hth H locs ls hH hl hc
  have B := K.1
  have hl9 := K.2.2.2.2.2.2
  unfold w_X11_matchUpTo_152 at h
  refine lv_aloadQ B.1 B.2.1 dX11_matchUpTo_152 (lv_at hl 5 rfl) ?_
  obtain ⟨a71, ea71, h⟩ := h
  have ka71 : kO σ a71 0 := g6 a71 ea71
  have h := h ka71
  refine W.eq (g2 := F0 m 154 ls [.ref a71]) (by rw [ea71]; rfl) ?_
  refine f_getp B hH ka71 (by decide) rfl wu_X0 1 (by decide) wf_X11_235 rfl rfl dX11_matchUpTo_154 ?_
  refine lv_astoreQ (lv' := [(7, va_rf (gP σ a71 1)), (0, .ref th), (1, va_rf v1), (2, va_rf v2), (3, .long v3), (5, va_rf v5), (6, va_rf v6)]) B.1 B.2.1 dX11_matchUpTo_157 hl (by decide) (by generalize v6 = w9; cases w9 <;> rfl) (fun ls hl => ?_)
  refine lv_lload_n B.1 B.2.1 dX11_matchUpTo_159 rfl (lv_at hl 4 rfl) ?_
  refine lv_lconst (v := 1) B.1 B.2.1 dX11_matchUpTo_160 (by decide) ?_
  refine lv_ladd B.1 B.2.1 dX11_matchUpTo_161 ?_
  refine lv_aloadQ B.1 B.2.1 dX11_matchUpTo_162 (lv_at hl 6 rfl) ?_
  refine W.eq (g2 := F0 m 164 ls [.ref a71, .long (v3 + 1)]) (by rw [ea71]; rfl) ?_
  refine f_getl B hH ka71 (by decide) rfl wu_X0 6 (by decide) wf_X11_92 rfl rfl dX11_matchUpTo_164 ?_
  refine lv_lsub B.1 B.2.1 dX11_matchUpTo_167 ?_
  refine lv_aload_nQ B.1 B.2.1 dX11_matchUpTo_168 rfl (lv_at hl 2 rfl) ?_
  obtain ⟨a72, ea72, h⟩ := h
  have ka72 : kO σ a72 5 := g1 a72 ea72
  have h := h ka72
  refine W.eq (g2 := F0 m 169 ls [.ref a72, .long ((v3 + 1) - gJ σ a71 6)]) (by rw [ea72]; rfl) ?_
  refine f_geti B hH ka72 (by decide) rfl wu_X5 16 (by decide) wf_X11_110 rfl rfl dX11_matchUpTo_169 ?_
  refine lv_i2l B.1 B.2.1 dX11_matchUpTo_172 (i32_i64 (hGσ _ _)) ?_
  refine W.lcmp B.1 B.2.1 dX11_matchUpTo_173 ?_
  refine lv_if_le (tgt := 190) B.1 B.2.1 dX11_matchUpTo_174 (by decide) (fun h9 => ?_) (fun h9 => ?_)
  · rw [if_pos ((lg_cmp_le _ _).mp h9)] at h
    exact a_X11_matchUpTo_190 K hQ hX hTh hK147 _ _ _ _ _ _ g1 g2 g6 (hYσ.get ka71 (by decide)) h hGσ hYσ hE hth _ _ _ hH (lv_sub (l' := [(0, .ref th), (1, va_rf v1), (2, va_rf v2), (3, .long v3), (6, va_rf v6), (7, va_rf (gP σ a71 1))]) hl [1, 2, 3, 4, 6, 0] rfl) hc
  · rw [if_neg (fun q => h9 ((lg_cmp_le _ _).mpr q))] at h
    exact a_X11_matchUpTo_177 K hQ hX hTh hK147 _ _ _ _ _ _ g1 g2 g5 (hYσ.get ka71 (by decide)) h hGσ hYσ hE hth _ _ _ hH (lv_sub (l' := [(0, .ref th), (1, va_rf v1), (2, va_rf v2), (3, .long v3), (5, va_rf v5), (7, va_rf (gP σ a71 1))]) hl [1, 2, 3, 4, 5, 0] rfl) hc
set_option maxRecDepth 20000 in
theorem a_X11_matchUpTo_147 {Q : Sg → Unit → Prop} {X : Sg → String → Prop} {th : Nat} (K : MD l R p s m args c cX11_matchUpTo 8 RX11 D cA tys A n0 s0 9 164 []) (hQ : CQV p l e R s m args below meth c cX11_matchUpTo D cA A n0 s0 QM σi Q) (hX : CX p l e R s m args below meth c 8 D cA A n0 s0 QM σi X) (hTh : CT p l e R s m args below meth c cX11_matchUpTo 8 D cA A n0 s0 QM σi RX11 X) {K147 : Sg → Option Nat → Option Nat → Int64 → Option Nat → Option Nat → Prop} (hK147 : ∀ (σ : Sg) (v1 : Option Nat) (v2 : Option Nat) (v3 : Int64) (v5 : Option Nat) (v6 : Option Nat) (g1 : tyV σ 5 v1) (g2 : tyV σ 10 v2) (g5 : tyV σ 0 v5) (g6 : tyV σ 0 v6), K147 σ v1 v2 v3 v5 v6 → RG σ → TY σ → Ext σi σ → kO σ th 11 → JJ p l e R s m args below meth c 8 D cA A n0 s0 QM σ 147 [(0, .ref th), (1, va_rf v1), (2, va_rf v2), (3, .long v3), (5, va_rf v5), (6, va_rf v6)] []) : ∀ (σ : Sg) (v1 : Option Nat) (v2 : Option Nat) (v3 : Int64) (v5 : Option Nat) (v6 : Option Nat) (g1 : tyV σ 5 v1) (g2 : tyV σ 10 v2) (g5 : tyV σ 0 v5) (g6 : tyV σ 0 v6), w_X11_matchUpTo_147 th K147 Q X σ v1 v2 v3 v5 v6 → RG σ → TY σ → Ext σi σ → kO σ th 11 → JJ p l e R s m args below meth c 8 D cA A n0 s0 QM σ 147 [(0, .ref th), (1, va_rf v1), (2, va_rf v2), (3, .long v3), (5, va_rf v5), (6, va_rf v6)] [] := by
  intro σ v1 v2 v3 v5 v6 g1 g2 g5 g6 h hGσ hYσ hE hth H locs ls hH hl hc
  have B := K.1
  have hl9 := K.2.2.2.2.2.2
  unfold w_X11_matchUpTo_147 at h
  refine lv_aloadQ B.1 B.2.1 dX11_matchUpTo_147 (lv_at hl 5 rfl) ?_
  refine lv_ifnullQ (tgt := 201) B.1 B.2.1 dX11_matchUpTo_149 (by decide) (fun h9 => ?_) (fun h9 => ?_)
  · rw [if_pos (h9)] at h
    exact a_X11_matchUpTo_201 K hQ hX hTh _ h hGσ hYσ hE hth _ _ _ hH (lv_sub (l' := [(0, .ref th)]) hl [0] rfl) hc
  · rw [if_neg (h9)] at h
    exact a_X11_matchUpTo_152 K hQ hX hTh hK147 _ _ _ _ _ _ g1 g2 g5 g6 h hGσ hYσ hE hth _ _ _ hH (lv_sub (l' := [(0, .ref th), (1, va_rf v1), (2, va_rf v2), (3, .long v3), (5, va_rf v5), (6, va_rf v6)]) hl [0, 1, 2, 3, 4, 5] rfl) hc
theorem al_X11_matchUpTo_147 {Q : Sg → Unit → Prop} {X : Sg → String → Prop} {th : Nat} (K : MD l R p s m args c cX11_matchUpTo 8 RX11 D cA tys A n0 s0 9 164 []) (hQ : CQV p l e R s m args below meth c cX11_matchUpTo D cA A n0 s0 QM σi Q) (hX : CX p l e R s m args below meth c 8 D cA A n0 s0 QM σi X) (hTh : CT p l e R s m args below meth c cX11_matchUpTo 8 D cA A n0 s0 QM σi RX11 X) : ∀ (n : Nat), ∀ (σ : Sg) (v1 : Option Nat) (v2 : Option Nat) (v3 : Int64) (v5 : Option Nat) (v6 : Option Nat) (g1 : tyV σ 5 v1) (g2 : tyV σ 10 v2) (g5 : tyV σ 0 v5) (g6 : tyV σ 0 v6), wl_X11_matchUpTo_147 th Q X n σ v1 v2 v3 v5 v6 → RG σ → TY σ → Ext σi σ → kO σ th 11 → JJ p l e R s m args below meth c 8 D cA A n0 s0 QM σ 147 [(0, .ref th), (1, va_rf v1), (2, va_rf v2), (3, .long v3), (5, va_rf v5), (6, va_rf v6)] [] := by
  intro n
  induction n with
  | zero => intro σ v1 v2 v3 v5 v6 g1 g2 g5 g6 h; exact h.elim
  | succ n ih => exact fun σ v1 v2 v3 v5 v6 g1 g2 g5 g6 h => a_X11_matchUpTo_147 K hQ hX hTh ih σ v1 v2 v3 v5 v6 g1 g2 g5 g6 h
set_option maxRecDepth 20000 in
theorem a_X11_matchUpTo_135 {Q : Sg → Unit → Prop} {X : Sg → String → Prop} {th : Nat} (K : MD l R p s m args c cX11_matchUpTo 8 RX11 D cA tys A n0 s0 9 164 []) (hQ : CQV p l e R s m args below meth c cX11_matchUpTo D cA A n0 s0 QM σi Q) (hX : CX p l e R s m args below meth c 8 D cA A n0 s0 QM σi X) (hTh : CT p l e R s m args below meth c cX11_matchUpTo 8 D cA A n0 s0 QM σi RX11 X) : ∀ (σ : Sg) (v1 : Option Nat) (v2 : Option Nat) (v3 : Int64) (g1 : tyV σ 5 v1) (g2 : tyV σ 10 v2), w_X11_matchUpTo_135 th Q X σ v1 v2 v3 → RG σ → TY σ → Ext σi σ → kO σ th 11 → JJ p l e R s m args below meth c 8 D cA A n0 s0 QM σ 135 [(0, .ref th), (1, va_rf v1), (2, va_rf v2), (3, .long v3)] [] := by
  intro σ v1 v2 v3 g1 g2 h hGσ hYσ hE hth H locs ls hH hl hc
  have B := K.1
  have hl9 := K.2.2.2.2.2.2
  unfold w_X11_matchUpTo_135 at h
  refine lv_null B.1 B.2.1 dX11_matchUpTo_135 ?_
  refine W.eq (g2 := F0 m 136 ls [va_rf none]) (rfl) ?_
  refine lv_astoreQ (lv' := [(5, va_rf none), (0, .ref th), (1, va_rf v1), (2, va_rf v2), (3, .long v3)]) B.1 B.2.1 dX11_matchUpTo_136 hl (by decide) rfl (fun ls hl => ?_)
  refine lv_aload_nQ B.1 B.2.1 dX11_matchUpTo_138 rfl (lv_at hl 3 rfl) ?_
  obtain ⟨a73, ea73, h⟩ := h
  have ka73 : kO σ a73 10 := g2 a73 ea73
  have h := h ka73
  refine W.eq (g2 := F0 m 139 ls [.ref a73]) (by rw [ea73]; rfl) ?_
  refine f_getp B hH ka73 (by decide) rfl wu_X10 3 (by decide) wf_X11_117 rfl rfl dX11_matchUpTo_139 ?_
  obtain ⟨a74, ea74, h⟩ := h
  have ka74 : kO σ a74 1 := (hYσ.get ka73 (by decide)) a74 ea74
  have h := h ka74
  refine W.eq (g2 := F0 m 142 ls [.ref a74]) (by rw [ea74]; rfl) ?_
  refine f_getp B hH ka74 (by decide) rfl wu_X1 0 (by decide) wf_X11_225 rfl rfl dX11_matchUpTo_142 ?_
  refine lv_astoreQ (lv' := [(6, va_rf (gP σ a74 0)), (5, va_rf none), (0, .ref th), (1, va_rf v1), (2, va_rf v2), (3, .long v3)]) B.1 B.2.1 dX11_matchUpTo_145 hl (by decide) rfl (fun ls hl => ?_)
  obtain ⟨n9, h⟩ := h
  exact al_X11_matchUpTo_147 K hQ hX hTh n9 _ _ _ _ _ _ g1 g2 (tyn _ _) (hYσ.get ka74 (by decide)) h hGσ hYσ hE hth _ _ _ hH (lv_sub (l' := [(0, .ref th), (1, va_rf v1), (2, va_rf v2), (3, .long v3), (5, va_rf none), (6, va_rf (gP σ a74 0))]) hl [2, 3, 4, 5, 1, 0] rfl) hc
set_option maxRecDepth 20000 in
theorem a_X11_matchUpTo_114 {Q : Sg → Unit → Prop} {X : Sg → String → Prop} {th : Nat} (K : MD l R p s m args c cX11_matchUpTo 8 RX11 D cA tys A n0 s0 9 164 []) (hQ : CQV p l e R s m args below meth c cX11_matchUpTo D cA A n0 s0 QM σi Q) (hX : CX p l e R s m args below meth c 8 D cA A n0 s0 QM σi X) (hTh : CT p l e R s m args below meth c cX11_matchUpTo 8 D cA A n0 s0 QM σi RX11 X) {K9 : Sg → Option Nat → Option Nat → Int64 → Option Nat → Prop} (hK9 : ∀ (σ : Sg) (v1 : Option Nat) (v2 : Option Nat) (v3 : Int64) (v5 : Option Nat) (g1 : tyV σ 5 v1) (g2 : tyV σ 10 v2) (g5 : tyV σ 0 v5), K9 σ v1 v2 v3 v5 → RG σ → TY σ → Ext σi σ → kO σ th 11 → JJ p l e R s m args below meth c 8 D cA A n0 s0 QM σ 9 [(0, .ref th), (1, va_rf v1), (2, va_rf v2), (3, .long v3), (5, va_rf v5)] []) : ∀ (σ : Sg) (v1 : Option Nat) (v2 : Option Nat) (v3 : Int64) (v5 : Option Nat) (g1 : tyV σ 5 v1) (g2 : tyV σ 10 v2) (g5 : tyV σ 0 v5), w_X11_matchUpTo_114 th K9 Q X σ v1 v2 v3 v5 → RG σ → TY σ → Ext σi σ → kO σ th 11 → JJ p l e R s m args below meth c 8 D cA A n0 s0 QM σ 114 [(0, .ref th), (1, va_rf v1), (2, va_rf v2), (3, .long v3), (5, va_rf v5)] [] := by
  intro σ v1 v2 v3 v5 g1 g2 g5 h hGσ hYσ hE hth H locs ls hH hl hc
  have B := K.1
  have hl9 := K.2.2.2.2.2.2
  unfold w_X11_matchUpTo_114 at h
  refine lv_aload_n B.1 B.2.1 dX11_matchUpTo_114 rfl (lv_at hl 0 rfl) ?_
  refine f_getp B hH hth (by decide) rfl wu_X11 0 (by decide) wf_X11_22 rfl rfl dX11_matchUpTo_115 ?_
  refine lv_aloadQ B.1 B.2.1 dX11_matchUpTo_118 (lv_at hl 4 rfl) ?_
  obtain ⟨a76, ea76, h⟩ := h
  have ka76 : kO σ a76 8 := (hYσ.get hth (by decide)) a76 ea76
  have h := h ka76
  refine W.eq (g2 := F0 m 120 ls [va_rf v5, .ref a76]) (by rw [ea76]; rfl) ?_
  refine c_V B hH hl hc K.2.2.1 (C := RX8) (T := TX8) (N := 3) (ci := 8) (As := [va_rf v5]) (ok_X8_release hl9 K.2.1 σ a76 v5 g5 ka76 hGσ hYσ h) wc_X11_174 1 hd_X8_release ⟨Nat.le_trans (Nat.le_of_ble_eq_true rfl) K.2.2.2.1, Nat.le_trans (Nat.le_of_ble_eq_true rfl) K.2.2.2.2.1⟩ ka76.1 ka76.2 (by decide) rfl rfl (rest := []) rfl (Nat.le_of_ble_eq_true rfl) dX11_matchUpTo_120 (fun σ75 w hq => ?_) (fun σ9 E9 hx9 => hX σ9 E9 _ _ _ (tb_out K.2.2.2.2.2.1 rfl) hx9.1 hx9.2.1 hx9.2.2.1 (hE.trans hx9.2.2.2))
  obtain ⟨rfl, h, hGσ75, hYσ75, xσ75⟩ := hq
  have h := h xσ75
  intro H locs ls hH hl hc
  refine W.eq (g2 := F0 m 123 ls []) (rfl) ?_
  try dsimp only at h
  refine lv_aload_nQ B.1 B.2.1 dX11_matchUpTo_123 rfl (lv_at hl 2 rfl) ?_
  obtain ⟨a77, ea77, h⟩ := h
  have ka77 : kO σ75 a77 10 := (g2.up xσ75) a77 ea77
  have h := h ka77
  refine W.eq (g2 := F0 m 124 ls [.ref a77]) (by rw [ea77]; rfl) ?_
  refine f_getp B hH ka77 (by decide) rfl wu_X10 2 (by decide) wf_X11_105 rfl rfl dX11_matchUpTo_124 ?_
  obtain ⟨a78, ea78, h⟩ := h
  have ka78 : kO σ75 a78 1 := (hYσ75.get ka77 (by decide)) a78 ea78
  have h := h ka78
  refine W.eq (g2 := F0 m 127 ls [.ref a78]) (by rw [ea78]; rfl) ?_
  refine f_getp B hH ka78 (by decide) rfl wu_X1 0 (by decide) wf_X11_225 rfl rfl dX11_matchUpTo_127 ?_
  refine lv_astoreQ (lv' := [(5, va_rf (gP σ75 a78 0)), (0, .ref th), (1, va_rf v1), (2, va_rf v2), (3, .long v3)]) B.1 B.2.1 dX11_matchUpTo_130 hl (by decide) rfl (fun ls hl => ?_)
  refine lv_goto (tgt := 9) B.1 B.2.1 dX11_matchUpTo_132 (by decide) ?_
  exact hK9 _ _ _ _ _ (g1.up xσ75) (g2.up xσ75) (hYσ75.get ka78 (by decide)) h hGσ75 hYσ75 (hE.trans xσ75) (hth.up xσ75) _ _ _ hH (lv_sub (l' := [(0, .ref th), (1, va_rf v1), (2, va_rf v2), (3, .long v3), (5, va_rf (gP σ75 a78 0))]) hl [1, 2, 3, 4, 0] rfl) hc
set_option maxRecDepth 20000 in
theorem a_X11_matchUpTo_60 {Q : Sg → Unit → Prop} {X : Sg → String → Prop} {th : Nat} (K : MD l R p s m args c cX11_matchUpTo 8 RX11 D cA tys A n0 s0 9 164 []) (hQ : CQV p l e R s m args below meth c cX11_matchUpTo D cA A n0 s0 QM σi Q) (hX : CX p l e R s m args below meth c 8 D cA A n0 s0 QM σi X) (hTh : CT p l e R s m args below meth c cX11_matchUpTo 8 D cA A n0 s0 QM σi RX11 X) {K9 : Sg → Option Nat → Option Nat → Int64 → Option Nat → Prop} (hK9 : ∀ (σ : Sg) (v1 : Option Nat) (v2 : Option Nat) (v3 : Int64) (v5 : Option Nat) (g1 : tyV σ 5 v1) (g2 : tyV σ 10 v2) (g5 : tyV σ 0 v5), K9 σ v1 v2 v3 v5 → RG σ → TY σ → Ext σi σ → kO σ th 11 → JJ p l e R s m args below meth c 8 D cA A n0 s0 QM σ 9 [(0, .ref th), (1, va_rf v1), (2, va_rf v2), (3, .long v3), (5, va_rf v5)] []) : ∀ (σ : Sg) (v1 : Option Nat) (v2 : Option Nat) (v3 : Int64) (v5 : Option Nat) (g1 : tyV σ 5 v1) (g2 : tyV σ 10 v2) (g5 : tyV σ 0 v5), w_X11_matchUpTo_60 th K9 Q X σ v1 v2 v3 v5 → RG σ → TY σ → Ext σi σ → kO σ th 11 → JJ p l e R s m args below meth c 8 D cA A n0 s0 QM σ 60 [(0, .ref th), (1, va_rf v1), (2, va_rf v2), (3, .long v3), (5, va_rf v5)] [] := by
  intro σ v1 v2 v3 v5 g1 g2 g5 h hGσ hYσ hE hth H locs ls hH hl hc
  have B := K.1
  have hl9 := K.2.2.2.2.2.2
  unfold w_X11_matchUpTo_60 at h
  refine lv_aload_n B.1 B.2.1 dX11_matchUpTo_60 rfl (lv_at hl 0 rfl) ?_
  refine f_getp B hH hth (by decide) rfl wu_X11 0 (by decide) wf_X11_22 rfl rfl dX11_matchUpTo_61 ?_
  obtain ⟨a81, ea81, h⟩ := h
  have ka81 : kO σ a81 8 := (hYσ.get hth (by decide)) a81 ea81
  have h := h ka81
  refine W.eq (g2 := F0 m 64 ls [.ref a81]) (by rw [ea81]; rfl) ?_
  refine c_V B hH hl hc K.2.2.1 (C := RX8) (T := TX8) (N := 3) (ci := 8) (As := []) (ok_X8_fresh hl9 K.2.1 σ a81 ka81 hGσ hYσ h) wc_X11_191 0 hd_X8_fresh ⟨Nat.le_trans (Nat.le_of_ble_eq_true rfl) K.2.2.2.1, Nat.le_trans (Nat.le_of_ble_eq_true rfl) K.2.2.2.2.1⟩ ka81.1 ka81.2 (by decide) rfl rfl (rest := []) rfl (Nat.le_of_ble_eq_true rfl) dX11_matchUpTo_64 (fun σ79 w hq => ?_) (fun σ9 E9 hx9 => hX σ9 E9 _ _ _ (tb_out K.2.2.2.2.2.1 rfl) hx9.1 hx9.2.1 hx9.2.2.1 (hE.trans hx9.2.2.2))
  obtain ⟨r80, rfl, tr80, h, hGσ79, hYσ79, xσ79⟩ := hq
  have h := h xσ79 tr80
  intro H locs ls hH hl hc
  refine W.eq (g2 := F0 m 67 ls [va_rf r80]) (rfl) ?_
  try dsimp only at h
  refine lv_astoreQ (lv' := [(6, va_rf r80), (0, .ref th), (1, va_rf v1), (2, va_rf v2), (3, .long v3), (5, va_rf v5)]) B.1 B.2.1 dX11_matchUpTo_67 hl (by decide) (by generalize v5 = w9; cases w9 <;> rfl) (fun ls hl => ?_)
  refine lv_aloadQ B.1 B.2.1 dX11_matchUpTo_69 (lv_at hl 0 rfl) ?_
  refine lv_aloadQ B.1 B.2.1 dX11_matchUpTo_71 (lv_at hl 5 rfl) ?_
  obtain ⟨a82, ea82, h⟩ := h
  have ka82 : kO σ79 a82 0 := (g5.up xσ79) a82 ea82
  have h := h ka82
  refine W.eq (g2 := F0 m 73 ls [.ref a82, va_rf r80]) (by rw [ea82]; rfl) ?_
  refine f_getl B hH ka82 (by decide) rfl wu_X0 7 (by decide) wf_X11_72 rfl rfl dX11_matchUpTo_73 ?_
  obtain ⟨a83, ea83, h⟩ := h
  have ka83 : kO σ79 a83 0 := tr80 a83 ea83
  have h := h ka83
  obtain ⟨σ84, eσ84⟩ : ∃ z, z = pJ σ79 a83 7 (gJ σ79 a82 7) := ⟨_, rfl⟩
  have h := h σ84 eσ84
  refine W.eq (g2 := F0 m 76 ls [.long (gJ σ79 a82 7), .ref a83]) (by rw [ea83]; rfl) ?_
  refine f_putl B hH ka83 (by decide) rfl wu_X0 tyX0 tyX0_ok nmX0 7 (by decide) wf_X11_72 rfl (ty := .long) rfl rfl rfl rfl rfl dX11_matchUpTo_76 (fun H locs hH => ?_)
  have hH : Hd D cA A s (pJ σ79 a83 7 (gJ σ79 a82 7)) H locs := hH
  rw [← eσ84] at hH
  have hGσ84 : RG σ84 := by rw [eσ84]; exact hGσ79.pJ
  have hYσ84 : TY σ84 := by rw [eσ84]; exact hYσ79.pJ
  have xσ84 : Ext σ79 σ84 := by rw [eσ84]; exact Ext.pJ
  have hc : CB n0 s0 σ84 := by rw [eσ84]; exact hc
  rw [show gc σ79 = gc σ84 by rw [eσ84]; try rfl, show gs σ79 = gs σ84 by rw [eσ84]; try rfl]
  refine lv_aloadQ B.1 B.2.1 dX11_matchUpTo_79 (lv_at hl 0 rfl) ?_
  refine lv_aloadQ B.1 B.2.1 dX11_matchUpTo_81 (lv_at hl 5 rfl) ?_
  refine W.eq (g2 := F0 m 83 ls [.ref a82, va_rf r80]) (by rw [ea82]; rfl) ?_
  refine f_getl B hH (ka82.up xσ84) (by decide) rfl wu_X0 5 (by decide) wf_X11_85 rfl rfl dX11_matchUpTo_83 ?_
  obtain ⟨σ85, eσ85⟩ : ∃ z, z = pJ σ84 a83 6 (gJ σ84 a82 5) := ⟨_, rfl⟩
  have h := h σ85 eσ85
  refine W.eq (g2 := F0 m 86 ls [.long (gJ σ84 a82 5), .ref a83]) (by rw [ea83]; rfl) ?_
  refine f_putl B hH (ka83.up xσ84) (by decide) rfl wu_X0 tyX0 tyX0_ok nmX0 6 (by decide) wf_X11_92 rfl (ty := .long) rfl rfl rfl rfl rfl dX11_matchUpTo_86 (fun H locs hH => ?_)
  have hH : Hd D cA A s (pJ σ84 a83 6 (gJ σ84 a82 5)) H locs := hH
  rw [← eσ85] at hH
  have hGσ85 : RG σ85 := by rw [eσ85]; exact hGσ84.pJ
  have hYσ85 : TY σ85 := by rw [eσ85]; exact hYσ84.pJ
  have xσ85 : Ext σ84 σ85 := by rw [eσ85]; exact Ext.pJ
  have hc : CB n0 s0 σ85 := by rw [eσ85]; exact hc
  rw [show gc σ84 = gc σ85 by rw [eσ85]; try rfl, show gs σ84 = gs σ85 by rw [eσ85]; try rfl]
  refine lv_aloadQ B.1 B.2.1 dX11_matchUpTo_89 (lv_at hl 0 rfl) ?_
  refine lv_iconst (v := i32 1) B.1 B.2.1 dX11_matchUpTo_91 (by decide) ?_
  obtain ⟨σ86, eσ86⟩ : ∃ z, z = pI σ85 a83 2 1 := ⟨_, rfl⟩
  have h := h σ86 eσ86
  refine W.eq (g2 := F0 m 92 ls [.int (i32 1), .ref a83]) (by rw [ea83]; rfl) ?_
  refine f_puti B hH (ka83.up (xσ84.trans xσ85)) (by decide) rfl wu_X0 tyX0 tyX0_ok nmX0 2 (by decide) wf_X11_276 rfl (ty := .int) rfl rfl rfl rfl rfl dX11_matchUpTo_92 (fun H locs hH => ?_)
  have hH : Hd D cA A s (pI σ85 a83 2 1) H locs := hH
  rw [← eσ86] at hH
  have hGσ86 : RG σ86 := by rw [eσ86]; exact hGσ85.pI (by unfold rng; omega)
  have hYσ86 : TY σ86 := by rw [eσ86]; exact hYσ85.pI
  have xσ86 : Ext σ85 σ86 := by rw [eσ86]; exact Ext.pI
  have hc : CB n0 s0 σ86 := by rw [eσ86]; exact hc
  rw [show gc σ85 = gc σ86 by rw [eσ86]; try rfl, show gs σ85 = gs σ86 by rw [eσ86]; try rfl]
  refine lv_aloadQ B.1 B.2.1 dX11_matchUpTo_95 (lv_at hl 0 rfl) ?_
  refine lv_aloadQ B.1 B.2.1 dX11_matchUpTo_97 (lv_at hl 5 rfl) ?_
  refine W.eq (g2 := F0 m 99 ls [.ref a82, va_rf r80]) (by rw [ea82]; rfl) ?_
  refine f_geti B hH (ka82.up (xσ84.trans (xσ85.trans xσ86))) (by decide) rfl wu_X0 4 (by decide) wf_X11_195 rfl rfl dX11_matchUpTo_99 ?_
  obtain ⟨σ87, eσ87⟩ : ∃ z, z = pI σ86 a83 4 (gI σ86 a82 4) := ⟨_, rfl⟩
  have h := h σ87 eσ87
  refine W.eq (g2 := F0 m 102 ls [.int (i32 (gI σ86 a82 4)), .ref a83]) (by rw [ea83]; rfl) ?_
  refine f_puti B hH (ka83.up (xσ84.trans (xσ85.trans xσ86))) (by decide) rfl wu_X0 tyX0 tyX0_ok nmX0 4 (by decide) wf_X11_195 rfl (ty := .int) rfl rfl rfl rfl rfl dX11_matchUpTo_102 (fun H locs hH => ?_)
  have hH : Hd D cA A s (pI σ86 a83 4 (gI σ86 a82 4)) H locs := hH
  rw [← eσ87] at hH
  have hGσ87 : RG σ87 := by rw [eσ87]; exact hGσ86.pI (hGσ86 _ _)
  have hYσ87 : TY σ87 := by rw [eσ87]; exact hYσ86.pI
  have xσ87 : Ext σ86 σ87 := by rw [eσ87]; exact Ext.pI
  have hc : CB n0 s0 σ87 := by rw [eσ87]; exact hc
  rw [show gc σ86 = gc σ87 by rw [eσ87]; try rfl, show gs σ86 = gs σ87 by rw [eσ87]; try rfl]
  refine lv_aload_n B.1 B.2.1 dX11_matchUpTo_105 rfl (lv_at hl 1 rfl) ?_
  refine lv_aload_nQ B.1 B.2.1 dX11_matchUpTo_106 rfl (lv_at hl 2 rfl) ?_
  refine lv_aload_nQ B.1 B.2.1 dX11_matchUpTo_107 rfl (lv_at hl 3 rfl) ?_
  refine lv_iconst (v := i32 1) B.1 B.2.1 dX11_matchUpTo_108 (by decide) ?_
  refine lv_aloadQ B.1 B.2.1 dX11_matchUpTo_109 (lv_at hl 0 rfl) ?_
  refine W.eq (g2 := F0 m 111 ls [va_rf r80, .int (i32 1), va_rf v2, va_rf v1, .ref th]) (rfl) ?_
  refine c_V B hH hl hc K.2.2.1 (C := RX11) (T := TX11) (N := 6) (ci := 11) (As := [va_rf v1, va_rf v2, .int (i32 1), va_rf r80]) (ok_X11_keep hl9 K.2.1 σ87 th v1 v2 1 r80 (g1.up (xσ79.trans (xσ84.trans (xσ85.trans (xσ86.trans xσ87))))) (g2.up (xσ79.trans (xσ84.trans (xσ85.trans (xσ86.trans xσ87))))) (by unfold rng; omega) (tr80.up (xσ84.trans (xσ85.trans (xσ86.trans xσ87)))) (hth.up (xσ79.trans (xσ84.trans (xσ85.trans (xσ86.trans xσ87))))) hGσ87 hYσ87 h) wc_X11_95 4 hd_X11_keep ⟨Nat.le_trans (Nat.le_of_ble_eq_true rfl) K.2.2.2.1, Nat.le_trans (Nat.le_of_ble_eq_true rfl) K.2.2.2.2.1⟩ (hth.up (xσ79.trans (xσ84.trans (xσ85.trans (xσ86.trans xσ87))))).1 (hth.up (xσ79.trans (xσ84.trans (xσ85.trans (xσ86.trans xσ87))))).2 (by decide) rfl rfl (rest := []) rfl (Nat.le_of_ble_eq_true rfl) dX11_matchUpTo_111 (fun σ88 w hq => ?_) (fun σ9 E9 hx9 => hX σ9 E9 _ _ _ (tb_out K.2.2.2.2.2.1 rfl) hx9.1 hx9.2.1 hx9.2.2.1 ((((((hE.trans xσ79).trans xσ84).trans xσ85).trans xσ86).trans xσ87).trans hx9.2.2.2))
  obtain ⟨rfl, h, hGσ88, hYσ88, xσ88⟩ := hq
  have h := h xσ88
  intro H locs ls hH hl hc
  refine W.eq (g2 := F0 m 114 ls []) (rfl) ?_
  try dsimp only at h
  exact a_X11_matchUpTo_114 K hQ hX hTh hK9 _ _ _ _ _ (g1.up (xσ79.trans (xσ84.trans (xσ85.trans (xσ86.trans (xσ87.trans xσ88)))))) (g2.up (xσ79.trans (xσ84.trans (xσ85.trans (xσ86.trans (xσ87.trans xσ88)))))) (g5.up (xσ79.trans (xσ84.trans (xσ85.trans (xσ86.trans (xσ87.trans xσ88)))))) h hGσ88 hYσ88 ((((((hE.trans xσ79).trans xσ84).trans xσ85).trans xσ86).trans xσ87).trans xσ88) (hth.up (xσ79.trans (xσ84.trans (xσ85.trans (xσ86.trans (xσ87.trans xσ88)))))) _ _ _ hH (lv_sub (l' := [(0, .ref th), (1, va_rf v1), (2, va_rf v2), (3, .long v3), (5, va_rf v5)]) hl [1, 2, 3, 4, 5] rfl) hc
set_option maxRecDepth 20000 in
theorem a_X11_matchUpTo_24 {Q : Sg → Unit → Prop} {X : Sg → String → Prop} {th : Nat} (K : MD l R p s m args c cX11_matchUpTo 8 RX11 D cA tys A n0 s0 9 164 []) (hQ : CQV p l e R s m args below meth c cX11_matchUpTo D cA A n0 s0 QM σi Q) (hX : CX p l e R s m args below meth c 8 D cA A n0 s0 QM σi X) (hTh : CT p l e R s m args below meth c cX11_matchUpTo 8 D cA A n0 s0 QM σi RX11 X) {K9 : Sg → Option Nat → Option Nat → Int64 → Option Nat → Prop} (hK9 : ∀ (σ : Sg) (v1 : Option Nat) (v2 : Option Nat) (v3 : Int64) (v5 : Option Nat) (g1 : tyV σ 5 v1) (g2 : tyV σ 10 v2) (g5 : tyV σ 0 v5), K9 σ v1 v2 v3 v5 → RG σ → TY σ → Ext σi σ → kO σ th 11 → JJ p l e R s m args below meth c 8 D cA A n0 s0 QM σ 9 [(0, .ref th), (1, va_rf v1), (2, va_rf v2), (3, .long v3), (5, va_rf v5)] []) : ∀ (σ : Sg) (v1 : Option Nat) (v2 : Option Nat) (v3 : Int64) (v5 : Option Nat) (g1 : tyV σ 5 v1) (g2 : tyV σ 10 v2) (g5 : tyV σ 0 v5), w_X11_matchUpTo_24 th K9 Q X σ v1 v2 v3 v5 → RG σ → TY σ → Ext σi σ → kO σ th 11 → JJ p l e R s m args below meth c 8 D cA A n0 s0 QM σ 24 [(0, .ref th), (1, va_rf v1), (2, va_rf v2), (3, .long v3), (5, va_rf v5)] [] := by
  intro σ v1 v2 v3 v5 g1 g2 g5 h hGσ hYσ hE hth H locs ls hH hl hc
  have B := K.1
  have hl9 := K.2.2.2.2.2.2
  unfold w_X11_matchUpTo_24 at h
  refine lv_aload_nQ B.1 B.2.1 dX11_matchUpTo_24 rfl (lv_at hl 2 rfl) ?_
  obtain ⟨a89, ea89, h⟩ := h
  have ka89 : kO σ a89 10 := g2 a89 ea89
  have h := h ka89
  refine W.eq (g2 := F0 m 25 ls [.ref a89]) (by rw [ea89]; rfl) ?_
  refine f_getp B hH ka89 (by decide) rfl wu_X10 2 (by decide) wf_X11_105 rfl rfl dX11_matchUpTo_25 ?_
  obtain ⟨a92, ea92, h⟩ := h
  have ka92 : kO σ a92 1 := (hYσ.get ka89 (by decide)) a92 ea92
  have h := h ka92
  refine W.eq (g2 := F0 m 28 ls [.ref a92]) (by rw [ea92]; rfl) ?_
  refine c_V B hH hl hc K.2.2.1 (C := RX1) (T := TX1) (N := 3) (ci := 1) (As := []) (ok_X1_takeFirst hl9 K.2.1 σ a92 ka92 hGσ hYσ h) wc_X11_261 0 hd_X1_takeFirst ⟨Nat.le_trans (Nat.le_of_ble_eq_true rfl) K.2.2.2.1, Nat.le_trans (Nat.le_of_ble_eq_true rfl) K.2.2.2.2.1⟩ ka92.1 ka92.2 (by decide) rfl rfl (rest := []) rfl (Nat.le_of_ble_eq_true rfl) dX11_matchUpTo_28 (fun σ90 w hq => ?_) (fun σ9 E9 hx9 => hX σ9 E9 _ _ _ (tb_out K.2.2.2.2.2.1 rfl) hx9.1 hx9.2.1 hx9.2.2.1 (hE.trans hx9.2.2.2))
  obtain ⟨r91, rfl, tr91, h, hGσ90, hYσ90, xσ90⟩ := hq
  have h := h xσ90 tr91
  intro H locs ls hH hl hc
  refine W.eq (g2 := F0 m 31 ls [va_rf r91]) (rfl) ?_
  try dsimp only at h
  refine lv_pop B.1 B.2.1 dX11_matchUpTo_31 (rf_cat _) ?_
  refine lv_aload_n B.1 B.2.1 dX11_matchUpTo_32 rfl (lv_at hl 0 rfl) ?_
  refine lv_dup B.1 B.2.1 dX11_matchUpTo_33 rfl ?_
  refine f_geti B hH (hth.up xσ90) (by decide) rfl wu_X11 4 (by decide) wf_X11_165 rfl rfl dX11_matchUpTo_34 ?_
  refine lv_iconst (v := i32 1) B.1 B.2.1 dX11_matchUpTo_37 (by decide) ?_
  obtain ⟨q1, h⟩ := h
  refine lv_isub B.1 B.2.1 dX11_matchUpTo_38 ?_
  rw [i32_sub]
  obtain ⟨σ93, eσ93⟩ : ∃ z, z = pI σ90 th 4 (gI σ90 th 4 - 1) := ⟨_, rfl⟩
  have h := h σ93 eσ93
  refine f_puti B hH (hth.up xσ90) (by decide) rfl wu_X11 tyX11 tyX11_ok nmX11 4 (by decide) wf_X11_165 rfl (ty := .int) rfl rfl rfl rfl rfl dX11_matchUpTo_39 (fun H locs hH => ?_)
  have hH : Hd D cA A s (pI σ90 th 4 (gI σ90 th 4 - 1)) H locs := hH
  rw [← eσ93] at hH
  have hGσ93 : RG σ93 := by rw [eσ93]; exact hGσ90.pI q1
  have hYσ93 : TY σ93 := by rw [eσ93]; exact hYσ90.pI
  have xσ93 : Ext σ90 σ93 := by rw [eσ93]; exact Ext.pI
  have hc : CB n0 s0 σ93 := by rw [eσ93]; exact hc
  rw [show gc σ90 = gc σ93 by rw [eσ93]; try rfl, show gs σ90 = gs σ93 by rw [eσ93]; try rfl]
  refine lv_aload_n B.1 B.2.1 dX11_matchUpTo_42 rfl (lv_at hl 0 rfl) ?_
  refine lv_aload_nQ B.1 B.2.1 dX11_matchUpTo_43 rfl (lv_at hl 1 rfl) ?_
  refine lv_aload_nQ B.1 B.2.1 dX11_matchUpTo_44 rfl (lv_at hl 2 rfl) ?_
  refine lv_aloadQ B.1 B.2.1 dX11_matchUpTo_45 (lv_at hl 4 rfl) ?_
  refine W.eq (g2 := F0 m 47 ls [va_rf v5, va_rf v2, va_rf v1, .ref th]) (rfl) ?_
  refine c_V B hH hl hc K.2.2.1 (C := RX11) (T := TX11) (N := 6) (ci := 11) (As := [va_rf v1, va_rf v2, va_rf v5]) (ok_X11_goOnBy hl9 K.2.1 σ93 th v1 v2 v5 (g1.up (xσ90.trans xσ93)) (g2.up (xσ90.trans xσ93)) (g5.up (xσ90.trans xσ93)) (hth.up (xσ90.trans xσ93)) hGσ93 hYσ93 h) wc_X11_279 3 hd_X11_goOnBy ⟨Nat.le_trans (Nat.le_of_ble_eq_true rfl) K.2.2.2.1, Nat.le_trans (Nat.le_of_ble_eq_true rfl) K.2.2.2.2.1⟩ (hth.up (xσ90.trans xσ93)).1 (hth.up (xσ90.trans xσ93)).2 (by decide) rfl rfl (rest := []) rfl (Nat.le_of_ble_eq_true rfl) dX11_matchUpTo_47 (fun σ94 w hq => ?_) (fun σ9 E9 hx9 => hX σ9 E9 _ _ _ (tb_out K.2.2.2.2.2.1 rfl) hx9.1 hx9.2.1 hx9.2.2.1 (((hE.trans xσ90).trans xσ93).trans hx9.2.2.2))
  obtain ⟨rfl, h, hGσ94, hYσ94, xσ94⟩ := hq
  have h := h xσ94
  intro H locs ls hH hl hc
  refine W.eq (g2 := F0 m 50 ls []) (rfl) ?_
  try dsimp only at h
  refine lv_aloadQ B.1 B.2.1 dX11_matchUpTo_50 (lv_at hl 4 rfl) ?_
  obtain ⟨a95, ea95, h⟩ := h
  have ka95 : kO σ94 a95 0 := (g5.up (xσ90.trans (xσ93.trans xσ94))) a95 ea95
  have h := h ka95
  refine W.eq (g2 := F0 m 52 ls [.ref a95]) (by rw [ea95]; rfl) ?_
  refine f_geti B hH ka95 (by decide) rfl wu_X0 2 (by decide) wf_X11_276 rfl rfl dX11_matchUpTo_52 ?_
  refine lv_iconst (v := i32 1) B.1 B.2.1 dX11_matchUpTo_55 (by decide) ?_
  refine lv_iand B.1 B.2.1 dX11_matchUpTo_56 ?_
  refine W.eq (g2 := F0 m 57 ls [.int (i32 (andI (gI σ94 a95 2) 1))]) (by simp only [andI, orI, shlI, shrI, i32_self]) ?_
  refine lv_if_eq (tgt := 114) B.1 B.2.1 dX11_matchUpTo_57 (by decide) (fun h9 => ?_) (fun h9 => ?_)
  · rw [if_pos ((z_eq (rng_andI _ _)).mp h9)] at h
    exact a_X11_matchUpTo_114 K hQ hX hTh hK9 _ _ _ _ _ (g1.up (xσ90.trans (xσ93.trans xσ94))) (g2.up (xσ90.trans (xσ93.trans xσ94))) (g5.up (xσ90.trans (xσ93.trans xσ94))) h hGσ94 hYσ94 (((hE.trans xσ90).trans xσ93).trans xσ94) (hth.up (xσ90.trans (xσ93.trans xσ94))) _ _ _ hH (lv_sub (l' := [(0, .ref th), (1, va_rf v1), (2, va_rf v2), (3, .long v3), (5, va_rf v5)]) hl [0, 1, 2, 3, 4] rfl) hc
  · rw [if_neg (fun q => h9 ((z_eq (rng_andI _ _)).mpr q))] at h
    exact a_X11_matchUpTo_60 K hQ hX hTh hK9 _ _ _ _ _ (g1.up (xσ90.trans (xσ93.trans xσ94))) (g2.up (xσ90.trans (xσ93.trans xσ94))) (g5.up (xσ90.trans (xσ93.trans xσ94))) h hGσ94 hYσ94 (((hE.trans xσ90).trans xσ93).trans xσ94) (hth.up (xσ90.trans (xσ93.trans xσ94))) _ _ _ hH (lv_sub (l' := [(0, .ref th), (1, va_rf v1), (2, va_rf v2), (3, .long v3), (5, va_rf v5)]) hl [0, 1, 2, 3, 4] rfl) hc
set_option maxRecDepth 20000 in
theorem a_X11_matchUpTo_14 {Q : Sg → Unit → Prop} {X : Sg → String → Prop} {th : Nat} (K : MD l R p s m args c cX11_matchUpTo 8 RX11 D cA tys A n0 s0 9 164 []) (hQ : CQV p l e R s m args below meth c cX11_matchUpTo D cA A n0 s0 QM σi Q) (hX : CX p l e R s m args below meth c 8 D cA A n0 s0 QM σi X) (hTh : CT p l e R s m args below meth c cX11_matchUpTo 8 D cA A n0 s0 QM σi RX11 X) {K9 : Sg → Option Nat → Option Nat → Int64 → Option Nat → Prop} (hK9 : ∀ (σ : Sg) (v1 : Option Nat) (v2 : Option Nat) (v3 : Int64) (v5 : Option Nat) (g1 : tyV σ 5 v1) (g2 : tyV σ 10 v2) (g5 : tyV σ 0 v5), K9 σ v1 v2 v3 v5 → RG σ → TY σ → Ext σi σ → kO σ th 11 → JJ p l e R s m args below meth c 8 D cA A n0 s0 QM σ 9 [(0, .ref th), (1, va_rf v1), (2, va_rf v2), (3, .long v3), (5, va_rf v5)] []) : ∀ (σ : Sg) (v1 : Option Nat) (v2 : Option Nat) (v3 : Int64) (v5 : Option Nat) (g1 : tyV σ 5 v1) (g2 : tyV σ 10 v2) (g5 : tyV σ 0 v5), w_X11_matchUpTo_14 th K9 Q X σ v1 v2 v3 v5 → RG σ → TY σ → Ext σi σ → kO σ th 11 → JJ p l e R s m args below meth c 8 D cA A n0 s0 QM σ 14 [(0, .ref th), (1, va_rf v1), (2, va_rf v2), (3, .long v3), (5, va_rf v5)] [] := by
  intro σ v1 v2 v3 v5 g1 g2 g5 h hGσ hYσ hE hth H locs ls hH hl hc
  have B := K.1
  have hl9 := K.2.2.2.2.2.2
  unfold w_X11_matchUpTo_14 at h
  refine lv_aloadQ B.1 B.2.1 dX11_matchUpTo_14 (lv_at hl 4 rfl) ?_
  obtain ⟨a96, ea96, h⟩ := h
  have ka96 : kO σ a96 0 := g5 a96 ea96
  have h := h ka96
  refine W.eq (g2 := F0 m 16 ls [.ref a96]) (by rw [ea96]; rfl) ?_
  refine f_getl B hH ka96 (by decide) rfl wu_X0 5 (by decide) wf_X11_85 rfl rfl dX11_matchUpTo_16 ?_
  refine lv_lload_n B.1 B.2.1 dX11_matchUpTo_19 rfl (lv_at hl 3 rfl) ?_
  refine W.lcmp B.1 B.2.1 dX11_matchUpTo_20 ?_
  refine lv_if_gt (tgt := 135) B.1 B.2.1 dX11_matchUpTo_21 (by decide) (fun h9 => ?_) (fun h9 => ?_)
  · rw [if_pos ((lg_cmp_gt _ _).mp h9)] at h
    exact a_X11_matchUpTo_135 K hQ hX hTh _ _ _ _ g1 g2 h hGσ hYσ hE hth _ _ _ hH (lv_sub (l' := [(0, .ref th), (1, va_rf v1), (2, va_rf v2), (3, .long v3)]) hl [0, 1, 2, 3] rfl) hc
  · rw [if_neg (fun q => h9 ((lg_cmp_gt _ _).mpr q))] at h
    exact a_X11_matchUpTo_24 K hQ hX hTh hK9 _ _ _ _ _ g1 g2 g5 h hGσ hYσ hE hth _ _ _ hH (lv_sub (l' := [(0, .ref th), (1, va_rf v1), (2, va_rf v2), (3, .long v3), (5, va_rf v5)]) hl [0, 1, 2, 3, 4] rfl) hc
set_option maxRecDepth 20000 in
theorem a_X11_matchUpTo_9 {Q : Sg → Unit → Prop} {X : Sg → String → Prop} {th : Nat} (K : MD l R p s m args c cX11_matchUpTo 8 RX11 D cA tys A n0 s0 9 164 []) (hQ : CQV p l e R s m args below meth c cX11_matchUpTo D cA A n0 s0 QM σi Q) (hX : CX p l e R s m args below meth c 8 D cA A n0 s0 QM σi X) (hTh : CT p l e R s m args below meth c cX11_matchUpTo 8 D cA A n0 s0 QM σi RX11 X) {K9 : Sg → Option Nat → Option Nat → Int64 → Option Nat → Prop} (hK9 : ∀ (σ : Sg) (v1 : Option Nat) (v2 : Option Nat) (v3 : Int64) (v5 : Option Nat) (g1 : tyV σ 5 v1) (g2 : tyV σ 10 v2) (g5 : tyV σ 0 v5), K9 σ v1 v2 v3 v5 → RG σ → TY σ → Ext σi σ → kO σ th 11 → JJ p l e R s m args below meth c 8 D cA A n0 s0 QM σ 9 [(0, .ref th), (1, va_rf v1), (2, va_rf v2), (3, .long v3), (5, va_rf v5)] []) : ∀ (σ : Sg) (v1 : Option Nat) (v2 : Option Nat) (v3 : Int64) (v5 : Option Nat) (g1 : tyV σ 5 v1) (g2 : tyV σ 10 v2) (g5 : tyV σ 0 v5), w_X11_matchUpTo_9 th K9 Q X σ v1 v2 v3 v5 → RG σ → TY σ → Ext σi σ → kO σ th 11 → JJ p l e R s m args below meth c 8 D cA A n0 s0 QM σ 9 [(0, .ref th), (1, va_rf v1), (2, va_rf v2), (3, .long v3), (5, va_rf v5)] [] := by
  intro σ v1 v2 v3 v5 g1 g2 g5 h hGσ hYσ hE hth H locs ls hH hl hc
  have B := K.1
  have hl9 := K.2.2.2.2.2.2
  unfold w_X11_matchUpTo_9 at h
  refine lv_aloadQ B.1 B.2.1 dX11_matchUpTo_9 (lv_at hl 4 rfl) ?_
  refine lv_ifnullQ (tgt := 135) B.1 B.2.1 dX11_matchUpTo_11 (by decide) (fun h9 => ?_) (fun h9 => ?_)
  · rw [if_pos (h9)] at h
    exact a_X11_matchUpTo_135 K hQ hX hTh _ _ _ _ g1 g2 h hGσ hYσ hE hth _ _ _ hH (lv_sub (l' := [(0, .ref th), (1, va_rf v1), (2, va_rf v2), (3, .long v3)]) hl [0, 1, 2, 3] rfl) hc
  · rw [if_neg (h9)] at h
    exact a_X11_matchUpTo_14 K hQ hX hTh hK9 _ _ _ _ _ g1 g2 g5 h hGσ hYσ hE hth _ _ _ hH (lv_sub (l' := [(0, .ref th), (1, va_rf v1), (2, va_rf v2), (3, .long v3), (5, va_rf v5)]) hl [0, 1, 2, 3, 4] rfl) hc
theorem al_X11_matchUpTo_9 {Q : Sg → Unit → Prop} {X : Sg → String → Prop} {th : Nat} (K : MD l R p s m args c cX11_matchUpTo 8 RX11 D cA tys A n0 s0 9 164 []) (hQ : CQV p l e R s m args below meth c cX11_matchUpTo D cA A n0 s0 QM σi Q) (hX : CX p l e R s m args below meth c 8 D cA A n0 s0 QM σi X) (hTh : CT p l e R s m args below meth c cX11_matchUpTo 8 D cA A n0 s0 QM σi RX11 X) : ∀ (n : Nat), ∀ (σ : Sg) (v1 : Option Nat) (v2 : Option Nat) (v3 : Int64) (v5 : Option Nat) (g1 : tyV σ 5 v1) (g2 : tyV σ 10 v2) (g5 : tyV σ 0 v5), wl_X11_matchUpTo_9 th Q X n σ v1 v2 v3 v5 → RG σ → TY σ → Ext σi σ → kO σ th 11 → JJ p l e R s m args below meth c 8 D cA A n0 s0 QM σ 9 [(0, .ref th), (1, va_rf v1), (2, va_rf v2), (3, .long v3), (5, va_rf v5)] [] := by
  intro n
  induction n with
  | zero => intro σ v1 v2 v3 v5 g1 g2 g5 h; exact h.elim
  | succ n ih => exact fun σ v1 v2 v3 v5 g1 g2 g5 h => a_X11_matchUpTo_9 K hQ hX hTh ih σ v1 v2 v3 v5 g1 g2 g5 h
set_option maxRecDepth 20000 in
theorem a_X11_matchUpTo_0 {Q : Sg → Unit → Prop} {X : Sg → String → Prop} {th : Nat} (K : MD l R p s m args c cX11_matchUpTo 8 RX11 D cA tys A n0 s0 9 164 []) (hQ : CQV p l e R s m args below meth c cX11_matchUpTo D cA A n0 s0 QM σi Q) (hX : CX p l e R s m args below meth c 8 D cA A n0 s0 QM σi X) (hTh : CT p l e R s m args below meth c cX11_matchUpTo 8 D cA A n0 s0 QM σi RX11 X) : ∀ (σ : Sg) (v1 : Option Nat) (v2 : Option Nat) (v3 : Int64) (g1 : tyV σ 5 v1) (g2 : tyV σ 10 v2), w_X11_matchUpTo_0 th Q X σ v1 v2 v3 → RG σ → TY σ → Ext σi σ → kO σ th 11 → JJ p l e R s m args below meth c 8 D cA A n0 s0 QM σ 0 [(0, .ref th), (1, va_rf v1), (2, va_rf v2), (3, .long v3)] [] := by
  intro σ v1 v2 v3 g1 g2 h hGσ hYσ hE hth H locs ls hH hl hc
  have B := K.1
  have hl9 := K.2.2.2.2.2.2
  unfold w_X11_matchUpTo_0 at h
  refine lv_aload_nQ B.1 B.2.1 dX11_matchUpTo_0 rfl (lv_at hl 2 rfl) ?_
  obtain ⟨a97, ea97, h⟩ := h
  have ka97 : kO σ a97 10 := g2 a97 ea97
  have h := h ka97
  refine W.eq (g2 := F0 m 1 ls [.ref a97]) (by rw [ea97]; rfl) ?_
  refine f_getp B hH ka97 (by decide) rfl wu_X10 2 (by decide) wf_X11_105 rfl rfl dX11_matchUpTo_1 ?_
  obtain ⟨a98, ea98, h⟩ := h
  have ka98 : kO σ a98 1 := (hYσ.get ka97 (by decide)) a98 ea98
  have h := h ka98
  refine W.eq (g2 := F0 m 4 ls [.ref a98]) (by rw [ea98]; rfl) ?_
  refine f_getp B hH ka98 (by decide) rfl wu_X1 0 (by decide) wf_X11_225 rfl rfl dX11_matchUpTo_4 ?_
  refine lv_astoreQ (lv' := [(5, va_rf (gP σ a98 0)), (0, .ref th), (1, va_rf v1), (2, va_rf v2), (3, .long v3)]) B.1 B.2.1 dX11_matchUpTo_7 hl (by decide) rfl (fun ls hl => ?_)
  obtain ⟨n9, h⟩ := h
  exact al_X11_matchUpTo_9 K hQ hX hTh n9 _ _ _ _ _ g1 g2 (hYσ.get ka98 (by decide)) h hGσ hYσ hE hth _ _ _ hH (lv_sub (l' := [(0, .ref th), (1, va_rf v1), (2, va_rf v2), (3, .long v3), (5, va_rf (gP σ a98 0))]) hl [1, 2, 3, 4, 0] rfl) hc
theorem ok_X11_matchUpTo (hl0 : l.stackTraces = false) (hT : TyC cA tys) {Q : Sg → Unit → Prop} {X : Sg → String → Prop} (σ : Sg) (th : Nat) (v1 : Option Nat) (v2 : Option Nat) (v3 : Int64) (g1 : tyV σ 5 v1) (g2 : tyV σ 10 v2) (hth : kO σ th 11) (hG : RG σ) (hY : TY σ) (h : wp_X11_matchUpTo th v1 v2 v3 σ Q X) : Ok l D cA tys A yX11_matchUpTo (.code yX11_matchUpTo cX11_matchUpTo 8 none) 9 164 [.ref th, va_rf v1, va_rf v2, .long v3] σ (QcV σ Q) (QxC σ X) := by
  unfold wp_X11_matchUpTo at h
  exact oc_V hl0 (by decide) (by cases v1 <;> cases v2 <;> exact Nat.le_of_ble_eq_true rfl) hT (fun p e R s m args below meth c K hQ hX hTh hin9 H locs ls hH hl hc => a_X11_matchUpTo_0 K hQ hX hTh σ v1 v2 v3 g1 g2 h hG hY (Ext.rfl' σ) hth H locs ls hH (lv_sub (l' := [(0, .ref th), (1, va_rf v1), (2, va_rf v2), (3, .long v3)]) hl [0, 1, 2, 3] (by cases v1 <;> cases v2 <;> rfl)) hc)
theorem dX11_topUpTo_0 : decode cX11_topUpTo 0 = .ok (.aload_n 0, 1) := by decide +kernel
theorem dX11_topUpTo_1 : decode cX11_topUpTo 1 = .ok (.getfield 136, 3) := by decide +kernel
theorem dX11_topUpTo_4 : decode cX11_topUpTo 4 = .ok (.getfield 140, 3) := by decide +kernel
theorem dX11_topUpTo_7 : decode cX11_topUpTo 7 = .ok (.aload_n 1, 1) := by decide +kernel
theorem dX11_topUpTo_8 : decode cX11_topUpTo 8 = .ok (.getfield 149, 3) := by decide +kernel
theorem dX11_topUpTo_11 : decode cX11_topUpTo 11 = .ok (.aaload, 1) := by decide +kernel
theorem dX11_topUpTo_12 : decode cX11_topUpTo 12 = .ok (.getfield 152, 3) := by decide +kernel
theorem dX11_topUpTo_15 : decode cX11_topUpTo 15 = .ok (.istore 5, 2) := by decide +kernel
theorem dX11_topUpTo_17 : decode cX11_topUpTo 17 = .ok (.ldc2_w 282, 3) := by decide +kernel
theorem dX11_topUpTo_20 : decode cX11_topUpTo 20 = .ok (.lstore 6, 2) := by decide +kernel
theorem dX11_topUpTo_22 : decode cX11_topUpTo 22 = .ok (.iconst 0, 1) := by decide +kernel
theorem dX11_topUpTo_23 : decode cX11_topUpTo 23 = .ok (.istore 8, 2) := by decide +kernel
theorem dX11_topUpTo_25 : decode cX11_topUpTo 25 = .ok (.aload_n 2, 1) := by decide +kernel
theorem dX11_topUpTo_26 : decode cX11_topUpTo 26 = .ok (.getfield 105, 3) := by decide +kernel
theorem dX11_topUpTo_29 : decode cX11_topUpTo 29 = .ok (.getfield 225, 3) := by decide +kernel
theorem dX11_topUpTo_32 : decode cX11_topUpTo 32 = .ok (.astore 9, 2) := by decide +kernel
theorem dX11_topUpTo_34 : decode cX11_topUpTo 34 = .ok (.aload 9, 2) := by decide +kernel
theorem dX11_topUpTo_36 : decode cX11_topUpTo 36 = .ok (.ifnull 119, 3) := by decide +kernel
theorem dX11_topUpTo_39 : decode cX11_topUpTo 39 = .ok (.aload 9, 2) := by decide +kernel
theorem dX11_topUpTo_41 : decode cX11_topUpTo 41 = .ok (.getfield 92, 3) := by decide +kernel
theorem dX11_topUpTo_44 : decode cX11_topUpTo 44 = .ok (.lload_n 3, 1) := by decide +kernel
theorem dX11_topUpTo_45 : decode cX11_topUpTo 45 = .ok (.lcmp, 1) := by decide +kernel
theorem dX11_topUpTo_46 : decode cX11_topUpTo 46 = .ok (.ifCond .gt 109, 3) := by decide +kernel
theorem dX11_topUpTo_49 : decode cX11_topUpTo 49 = .ok (.aload_n 2, 1) := by decide +kernel
theorem dX11_topUpTo_50 : decode cX11_topUpTo 50 = .ok (.getfield 105, 3) := by decide +kernel
theorem dX11_topUpTo_53 : decode cX11_topUpTo 53 = .ok (.invokevirtual 261, 3) := by decide +kernel
theorem dX11_topUpTo_56 : decode cX11_topUpTo 56 = .ok (.pop, 1) := by decide +kernel
theorem dX11_topUpTo_57 : decode cX11_topUpTo 57 = .ok (.aload_n 0, 1) := by decide +kernel
theorem dX11_topUpTo_58 : decode cX11_topUpTo 58 = .ok (.dup, 1) := by decide +kernel
theorem dX11_topUpTo_59 : decode cX11_topUpTo 59 = .ok (.getfield 165, 3) := by decide +kernel
theorem dX11_topUpTo_62 : decode cX11_topUpTo 62 = .ok (.iconst 1, 1) := by decide +kernel
theorem dX11_topUpTo_63 : decode cX11_topUpTo 63 = .ok (.isub, 1) := by decide +kernel
theorem dX11_topUpTo_64 : decode cX11_topUpTo 64 = .ok (.putfield 165, 3) := by decide +kernel
theorem dX11_topUpTo_67 : decode cX11_topUpTo 67 = .ok (.aload 9, 2) := by decide +kernel
theorem dX11_topUpTo_69 : decode cX11_topUpTo 69 = .ok (.getfield 92, 3) := by decide +kernel
theorem dX11_topUpTo_72 : decode cX11_topUpTo 72 = .ok (.lload 6, 2) := by decide +kernel
theorem dX11_topUpTo_74 : decode cX11_topUpTo 74 = .ok (.lcmp, 1) := by decide +kernel
theorem dX11_topUpTo_75 : decode cX11_topUpTo 75 = .ok (.ifCond .ne 10, 3) := by decide +kernel
theorem dX11_topUpTo_78 : decode cX11_topUpTo 78 = .ok (.iload 8, 2) := by decide +kernel
theorem dX11_topUpTo_80 : decode cX11_topUpTo 80 = .ok (.iconst 1, 1) := by decide +kernel
theorem dX11_topUpTo_81 : decode cX11_topUpTo 81 = .ok (.iadd, 1) := by decide +kernel
theorem dX11_topUpTo_82 : decode cX11_topUpTo 82 = .ok (.goto 4, 3) := by decide +kernel
theorem dX11_topUpTo_85 : decode cX11_topUpTo 85 = .ok (.iconst 1, 1) := by decide +kernel
theorem dX11_topUpTo_86 : decode cX11_topUpTo 86 = .ok (.istore 8, 2) := by decide +kernel
theorem dX11_topUpTo_88 : decode cX11_topUpTo 88 = .ok (.aload 9, 2) := by decide +kernel
theorem dX11_topUpTo_90 : decode cX11_topUpTo 90 = .ok (.getfield 92, 3) := by decide +kernel
theorem dX11_topUpTo_93 : decode cX11_topUpTo 93 = .ok (.lstore 6, 2) := by decide +kernel
theorem dX11_topUpTo_95 : decode cX11_topUpTo 95 = .ok (.iload 8, 2) := by decide +kernel
theorem dX11_topUpTo_97 : decode cX11_topUpTo 97 = .ok (.aload_n 1, 1) := by decide +kernel
theorem dX11_topUpTo_98 : decode cX11_topUpTo 98 = .ok (.getfield 284, 3) := by decide +kernel
theorem dX11_topUpTo_101 : decode cX11_topUpTo 101 = .ok (.if_icmp .le 15, 3) := by decide +kernel
theorem dX11_topUpTo_104 : decode cX11_topUpTo 104 = .ok (.aload_n 0, 1) := by decide +kernel
theorem dX11_topUpTo_105 : decode cX11_topUpTo 105 = .ok (.getfield 22, 3) := by decide +kernel
theorem dX11_topUpTo_108 : decode cX11_topUpTo 108 = .ok (.aload 9, 2) := by decide +kernel
theorem dX11_topUpTo_110 : decode cX11_topUpTo 110 = .ok (.invokevirtual 174, 3) := by decide +kernel
theorem dX11_topUpTo_113 : decode cX11_topUpTo 113 = .ok (.goto 30, 3) := by decide +kernel
theorem dX11_topUpTo_116 : decode cX11_topUpTo 116 = .ok (.aload 9, 2) := by decide +kernel
theorem dX11_topUpTo_118 : decode cX11_topUpTo 118 = .ok (.lload 6, 2) := by decide +kernel
theorem dX11_topUpTo_120 : decode cX11_topUpTo 120 = .ok (.putfield 85, 3) := by decide +kernel
theorem dX11_topUpTo_123 : decode cX11_topUpTo 123 = .ok (.aload 9, 2) := by decide +kernel
theorem dX11_topUpTo_125 : decode cX11_topUpTo 125 = .ok (.getfield 64, 3) := by decide +kernel
theorem dX11_topUpTo_128 : decode cX11_topUpTo 128 = .ok (.iload 5, 2) := by decide +kernel
theorem dX11_topUpTo_130 : decode cX11_topUpTo 130 = .ok (.iload 8, 2) := by decide +kernel
theorem dX11_topUpTo_132 : decode cX11_topUpTo 132 = .ok (.i2l, 1) := by decide +kernel
theorem dX11_topUpTo_133 : decode cX11_topUpTo 133 = .ok (.lastore, 1) := by decide +kernel
theorem dX11_topUpTo_134 : decode cX11_topUpTo 134 = .ok (.aload_n 0, 1) := by decide +kernel
theorem dX11_topUpTo_135 : decode cX11_topUpTo 135 = .ok (.getfield 12, 3) := by decide +kernel
theorem dX11_topUpTo_138 : decode cX11_topUpTo 138 = .ok (.aload 9, 2) := by decide +kernel
theorem dX11_topUpTo_140 : decode cX11_topUpTo 140 = .ok (.invokevirtual 42, 3) := by decide +kernel
theorem dX11_topUpTo_143 : decode cX11_topUpTo 143 = .ok (.aload_n 2, 1) := by decide +kernel
theorem dX11_topUpTo_144 : decode cX11_topUpTo 144 = .ok (.getfield 105, 3) := by decide +kernel
theorem dX11_topUpTo_147 : decode cX11_topUpTo 147 = .ok (.getfield 225, 3) := by decide +kernel
theorem dX11_topUpTo_150 : decode cX11_topUpTo 150 = .ok (.astore 9, 2) := by decide +kernel
theorem dX11_topUpTo_152 : decode cX11_topUpTo 152 = .ok (.goto (-118), 3) := by decide +kernel
theorem dX11_topUpTo_155 : decode cX11_topUpTo 155 = .ok (.return_, 1) := by decide +kernel
set_option maxRecDepth 20000 in
theorem a_X11_topUpTo_155 {Q : Sg → Unit → Prop} {X : Sg → String → Prop} {th : Nat} (K : MD l R p s m args c cX11_topUpTo 10 RX11 D cA tys A n0 s0 2 42 []) (hQ : CQV p l e R s m args below meth c cX11_topUpTo D cA A n0 s0 QM σi Q) (hX : CX p l e R s m args below meth c 10 D cA A n0 s0 QM σi X) (hTh : CT p l e R s m args below meth c cX11_topUpTo 10 D cA A n0 s0 QM σi RX11 X) : ∀ (σ : Sg), w_X11_topUpTo_155 th Q X σ → RG σ → TY σ → Ext σi σ → kO σ th 11 → JJ p l e R s m args below meth c 10 D cA A n0 s0 QM σ 155 [(0, .ref th)] [] := by
  intro σ h hGσ hYσ hE hth H locs ls hH hl hc
  have B := K.1
  have hl9 := K.2.2.2.2.2.2
  unfold w_X11_topUpTo_155 at h
  exact hQ _ _ _ _ _ dX11_topUpTo_155 hH hc h hGσ hYσ hE
set_option maxRecDepth 20000 in
theorem a_X11_topUpTo_143 {Q : Sg → Unit → Prop} {X : Sg → String → Prop} {th : Nat} (K : MD l R p s m args c cX11_topUpTo 10 RX11 D cA tys A n0 s0 2 42 []) (hQ : CQV p l e R s m args below meth c cX11_topUpTo D cA A n0 s0 QM σi Q) (hX : CX p l e R s m args below meth c 10 D cA A n0 s0 QM σi X) (hTh : CT p l e R s m args below meth c cX11_topUpTo 10 D cA A n0 s0 QM σi RX11 X) {K34 : Sg → Option Nat → Option Nat → Int64 → Int → Int64 → Int → Option Nat → Prop} (hK34 : ∀ (σ : Sg) (v1 : Option Nat) (v2 : Option Nat) (v3 : Int64) (v5 : Int) (v6 : Int64) (v8 : Int) (v9 : Option Nat) (g1 : tyV σ 5 v1) (g2 : tyV σ 10 v2) (g5 : rng v5) (g8 : rng v8) (g9 : tyV σ 0 v9), K34 σ v1 v2 v3 v5 v6 v8 v9 → RG σ → TY σ → Ext σi σ → kO σ th 11 → JJ p l e R s m args below meth c 10 D cA A n0 s0 QM σ 34 [(0, .ref th), (1, va_rf v1), (2, va_rf v2), (3, .long v3), (5, .int (i32 v5)), (6, .long v6), (8, .int (i32 v8)), (9, va_rf v9)] []) : ∀ (σ : Sg) (v1 : Option Nat) (v2 : Option Nat) (v3 : Int64) (v5 : Int) (v6 : Int64) (v8 : Int) (g1 : tyV σ 5 v1) (g2 : tyV σ 10 v2) (g5 : rng v5) (g8 : rng v8), w_X11_topUpTo_143 th K34 Q X σ v1 v2 v3 v5 v6 v8 → RG σ → TY σ → Ext σi σ → kO σ th 11 → JJ p l e R s m args below meth c 10 D cA A n0 s0 QM σ 143 [(0, .ref th), (1, va_rf v1), (2, va_rf v2), (3, .long v3), (5, .int (i32 v5)), (6, .long v6), (8, .int (i32 v8))] [] := by
  intro σ v1 v2 v3 v5 v6 v8 g1 g2 g5 g8 h hGσ hYσ hE hth H locs ls hH hl hc
  have B := K.1
  have hl9 := K.2.2.2.2.2.2
  unfold w_X11_topUpTo_143 at h
  refine lv_aload_nQ B.1 B.2.1 dX11_topUpTo_143 rfl (lv_at hl 2 rfl) ?_
  obtain ⟨a51, ea51, h⟩ := h
  have ka51 : kO σ a51 10 := g2 a51 ea51
  have h := h ka51
  refine W.eq (g2 := F0 m 144 ls [.ref a51]) (by rw [ea51]; rfl) ?_
  refine f_getp B hH ka51 (by decide) rfl wu_X10 2 (by decide) wf_X11_105 rfl rfl dX11_topUpTo_144 ?_
  obtain ⟨a52, ea52, h⟩ := h
  have ka52 : kO σ a52 1 := (hYσ.get ka51 (by decide)) a52 ea52
  have h := h ka52
  refine W.eq (g2 := F0 m 147 ls [.ref a52]) (by rw [ea52]; rfl) ?_
  refine f_getp B hH ka52 (by decide) rfl wu_X1 0 (by decide) wf_X11_225 rfl rfl dX11_topUpTo_147 ?_
  refine lv_astoreQ (lv' := [(9, va_rf (gP σ a52 0)), (0, .ref th), (1, va_rf v1), (2, va_rf v2), (3, .long v3), (5, .int (i32 v5)), (6, .long v6), (8, .int (i32 v8))]) B.1 B.2.1 dX11_topUpTo_150 hl (by decide) rfl (fun ls hl => ?_)
  refine lv_goto (tgt := 34) B.1 B.2.1 dX11_topUpTo_152 (by decide) ?_
  exact hK34 _ _ _ _ _ _ _ _ g1 g2 g5 g8 (hYσ.get ka52 (by decide)) h hGσ hYσ hE hth _ _ _ hH (lv_sub (l' := [(0, .ref th), (1, va_rf v1), (2, va_rf v2), (3, .long v3), (5, .int (i32 v5)), (6, .long v6), (8, .int (i32 v8)), (9, va_rf (gP σ a52 0))]) hl [1, 2, 3, 4, 5, 6, 7, 0] rfl) hc
set_option maxRecDepth 20000 in
theorem a_X11_topUpTo_116 {Q : Sg → Unit → Prop} {X : Sg → String → Prop} {th : Nat} (K : MD l R p s m args c cX11_topUpTo 10 RX11 D cA tys A n0 s0 2 42 []) (hQ : CQV p l e R s m args below meth c cX11_topUpTo D cA A n0 s0 QM σi Q) (hX : CX p l e R s m args below meth c 10 D cA A n0 s0 QM σi X) (hTh : CT p l e R s m args below meth c cX11_topUpTo 10 D cA A n0 s0 QM σi RX11 X) {K34 : Sg → Option Nat → Option Nat → Int64 → Int → Int64 → Int → Option Nat → Prop} (hK34 : ∀ (σ : Sg) (v1 : Option Nat) (v2 : Option Nat) (v3 : Int64) (v5 : Int) (v6 : Int64) (v8 : Int) (v9 : Option Nat) (g1 : tyV σ 5 v1) (g2 : tyV σ 10 v2) (g5 : rng v5) (g8 : rng v8) (g9 : tyV σ 0 v9), K34 σ v1 v2 v3 v5 v6 v8 v9 → RG σ → TY σ → Ext σi σ → kO σ th 11 → JJ p l e R s m args below meth c 10 D cA A n0 s0 QM σ 34 [(0, .ref th), (1, va_rf v1), (2, va_rf v2), (3, .long v3), (5, .int (i32 v5)), (6, .long v6), (8, .int (i32 v8)), (9, va_rf v9)] []) : ∀ (σ : Sg) (v1 : Option Nat) (v2 : Option Nat) (v3 : Int64) (v5 : Int) (v6 : Int64) (v8 : Int) (v9 : Option Nat) (g1 : tyV σ 5 v1) (g2 : tyV σ 10 v2) (g5 : rng v5) (g8 : rng v8) (g9 : tyV σ 0 v9), w_X11_topUpTo_116 th K34 Q X σ v1 v2 v3 v5 v6 v8 v9 → RG σ → TY σ → Ext σi σ → kO σ th 11 → JJ p l e R s m args below meth c 10 D cA A n0 s0 QM σ 116 [(0, .ref th), (1, va_rf v1), (2, va_rf v2), (3, .long v3), (5, .int (i32 v5)), (6, .long v6), (8, .int (i32 v8)), (9, va_rf v9)] [] := by
  intro σ v1 v2 v3 v5 v6 v8 v9 g1 g2 g5 g8 g9 h hGσ hYσ hE hth H locs ls hH hl hc
  have B := K.1
  have hl9 := K.2.2.2.2.2.2
  unfold w_X11_topUpTo_116 at h
  refine lv_aloadQ B.1 B.2.1 dX11_topUpTo_116 (lv_at hl 7 rfl) ?_
  refine lv_lload B.1 B.2.1 dX11_topUpTo_118 (lv_at hl 5 rfl) ?_
  obtain ⟨a53, ea53, h⟩ := h
  have ka53 : kO σ a53 0 := g9 a53 ea53
  have h := h ka53
  obtain ⟨σ54, eσ54⟩ : ∃ z, z = pJ σ a53 5 v6 := ⟨_, rfl⟩
  have h := h σ54 eσ54
  refine W.eq (g2 := F0 m 120 ls [.long v6, .ref a53]) (by rw [ea53]; rfl) ?_
  refine f_putl B hH ka53 (by decide) rfl wu_X0 tyX0 tyX0_ok nmX0 5 (by decide) wf_X11_85 rfl (ty := .long) rfl rfl rfl rfl rfl dX11_topUpTo_120 (fun H locs hH => ?_)
  have hH : Hd D cA A s (pJ σ a53 5 v6) H locs := hH
  rw [← eσ54] at hH
  have hGσ54 : RG σ54 := by rw [eσ54]; exact hGσ.pJ
  have hYσ54 : TY σ54 := by rw [eσ54]; exact hYσ.pJ
  have xσ54 : Ext σ σ54 := by rw [eσ54]; exact Ext.pJ
  have hc : CB n0 s0 σ54 := by rw [eσ54]; exact hc
  rw [show gc σ = gc σ54 by rw [eσ54]; try rfl, show gs σ = gs σ54 by rw [eσ54]; try rfl]
  refine lv_aloadQ B.1 B.2.1 dX11_topUpTo_123 (lv_at hl 7 rfl) ?_
  refine W.eq (g2 := F0 m 125 ls [.ref a53]) (by rw [ea53]; rfl) ?_
  refine f_getp B hH (ka53.up xσ54) (by decide) rfl wu_X0 0 (by decide) wf_X11_64 rfl rfl dX11_topUpTo_125 ?_
  refine lv_iload B.1 B.2.1 dX11_topUpTo_128 (lv_at hl 4 rfl) ?_
  refine lv_iload B.1 B.2.1 dX11_topUpTo_130 (lv_at hl 6 rfl) ?_
  refine lv_i2l B.1 B.2.1 dX11_topUpTo_132 (i32_i64 g8) ?_
  obtain ⟨a55, ea55, h⟩ := h
  have ka55 : kO σ54 a55 101 := (hYσ54.get (ka53.up xσ54) (by decide)) a55 ea55
  have h := h ka55
  obtain ⟨q1, h⟩ := h
  obtain ⟨σ56, eσ56⟩ : ∃ z, z = pJ σ54 a55 v5.toNat (Int64.ofInt v8) := ⟨_, rfl⟩
  have h := h σ56 eσ56
  refine W.eq (g2 := F0 m 133 ls [.long (Int64.ofInt v8), .int (i32 v5), .ref a55]) (by rw [ea55]; rfl) ?_
  refine y_last B K.2.1 hH ka55 q1 dX11_topUpTo_133 (hYσ54.2 _) (fun H locs hH => ?_)
  have hH : Hd D cA A s (pJ σ54 a55 v5.toNat (Int64.ofInt v8)) H locs := hH
  rw [← eσ56] at hH
  have hGσ56 : RG σ56 := by rw [eσ56]; exact hGσ54.pJ
  have hYσ56 : TY σ56 := by rw [eσ56]; exact hYσ54.pJ
  have xσ56 : Ext σ54 σ56 := by rw [eσ56]; exact Ext.pJ
  have hc : CB n0 s0 σ56 := by rw [eσ56]; exact hc
  rw [show gc σ54 = gc σ56 by rw [eσ56]; try rfl, show gs σ54 = gs σ56 by rw [eσ56]; try rfl]
  refine lv_aload_n B.1 B.2.1 dX11_topUpTo_134 rfl (lv_at hl 0 rfl) ?_
  refine f_getp B hH (hth.up (xσ54.trans xσ56)) (by decide) rfl wu_X11 2 (by decide) wf_X11_12 rfl rfl dX11_topUpTo_135 ?_
  refine lv_aloadQ B.1 B.2.1 dX11_topUpTo_138 (lv_at hl 7 rfl) ?_
  obtain ⟨a58, ea58, h⟩ := h
  have ka58 : kO σ56 a58 1 := (hYσ56.get (hth.up (xσ54.trans xσ56)) (by decide)) a58 ea58
  have h := h ka58
  refine W.eq (g2 := F0 m 140 ls [va_rf v9, .ref a58]) (by rw [ea58]; rfl) ?_
  refine c_V B hH hl hc K.2.2.1 (C := RX1) (T := TX1) (N := 3) (ci := 1) (As := [va_rf v9]) (ok_X1_add hl9 K.2.1 σ56 a58 v9 (g9.up (xσ54.trans xσ56)) ka58 hGσ56 hYσ56 h) wc_X11_42 1 hd_X1_add ⟨Nat.le_trans (Nat.le_of_ble_eq_true rfl) K.2.2.2.1, Nat.le_trans (Nat.le_of_ble_eq_true rfl) K.2.2.2.2.1⟩ ka58.1 ka58.2 (by decide) rfl rfl (rest := []) rfl (Nat.le_of_ble_eq_true rfl) dX11_topUpTo_140 (fun σ57 w hq => ?_) (fun σ9 E9 hx9 => hX σ9 E9 _ _ _ (tb_out K.2.2.2.2.2.1 rfl) hx9.1 hx9.2.1 hx9.2.2.1 (((hE.trans xσ54).trans xσ56).trans hx9.2.2.2))
  obtain ⟨rfl, h, hGσ57, hYσ57, xσ57⟩ := hq
  have h := h xσ57
  intro H locs ls hH hl hc
  refine W.eq (g2 := F0 m 143 ls []) (rfl) ?_
  try dsimp only at h
  exact a_X11_topUpTo_143 K hQ hX hTh hK34 _ _ _ _ _ _ _ (g1.up (xσ54.trans (xσ56.trans xσ57))) (g2.up (xσ54.trans (xσ56.trans xσ57))) g5 g8 h hGσ57 hYσ57 (((hE.trans xσ54).trans xσ56).trans xσ57) (hth.up (xσ54.trans (xσ56.trans xσ57))) _ _ _ hH (lv_sub (l' := [(0, .ref th), (1, va_rf v1), (2, va_rf v2), (3, .long v3), (5, .int (i32 v5)), (6, .long v6), (8, .int (i32 v8))]) hl [0, 1, 2, 3, 4, 5, 6] rfl) hc
set_option maxRecDepth 20000 in
theorem a_X11_topUpTo_104 {Q : Sg → Unit → Prop} {X : Sg → String → Prop} {th : Nat} (K : MD l R p s m args c cX11_topUpTo 10 RX11 D cA tys A n0 s0 2 42 []) (hQ : CQV p l e R s m args below meth c cX11_topUpTo D cA A n0 s0 QM σi Q) (hX : CX p l e R s m args below meth c 10 D cA A n0 s0 QM σi X) (hTh : CT p l e R s m args below meth c cX11_topUpTo 10 D cA A n0 s0 QM σi RX11 X) {K34 : Sg → Option Nat → Option Nat → Int64 → Int → Int64 → Int → Option Nat → Prop} (hK34 : ∀ (σ : Sg) (v1 : Option Nat) (v2 : Option Nat) (v3 : Int64) (v5 : Int) (v6 : Int64) (v8 : Int) (v9 : Option Nat) (g1 : tyV σ 5 v1) (g2 : tyV σ 10 v2) (g5 : rng v5) (g8 : rng v8) (g9 : tyV σ 0 v9), K34 σ v1 v2 v3 v5 v6 v8 v9 → RG σ → TY σ → Ext σi σ → kO σ th 11 → JJ p l e R s m args below meth c 10 D cA A n0 s0 QM σ 34 [(0, .ref th), (1, va_rf v1), (2, va_rf v2), (3, .long v3), (5, .int (i32 v5)), (6, .long v6), (8, .int (i32 v8)), (9, va_rf v9)] []) : ∀ (σ : Sg) (v1 : Option Nat) (v2 : Option Nat) (v3 : Int64) (v5 : Int) (v6 : Int64) (v8 : Int) (v9 : Option Nat) (g1 : tyV σ 5 v1) (g2 : tyV σ 10 v2) (g5 : rng v5) (g8 : rng v8) (g9 : tyV σ 0 v9), w_X11_topUpTo_104 th K34 Q X σ v1 v2 v3 v5 v6 v8 v9 → RG σ → TY σ → Ext σi σ → kO σ th 11 → JJ p l e R s m args below meth c 10 D cA A n0 s0 QM σ 104 [(0, .ref th), (1, va_rf v1), (2, va_rf v2), (3, .long v3), (5, .int (i32 v5)), (6, .long v6), (8, .int (i32 v8)), (9, va_rf v9)] [] := by
  intro σ v1 v2 v3 v5 v6 v8 v9 g1 g2 g5 g8 g9 h hGσ hYσ hE hth H locs ls hH hl hc
  have B := K.1
  have hl9 := K.2.2.2.2.2.2
  unfold w_X11_topUpTo_104 at h
  refine lv_aload_n B.1 B.2.1 dX11_topUpTo_104 rfl (lv_at hl 0 rfl) ?_
  refine f_getp B hH hth (by decide) rfl wu_X11 0 (by decide) wf_X11_22 rfl rfl dX11_topUpTo_105 ?_
  refine lv_aloadQ B.1 B.2.1 dX11_topUpTo_108 (lv_at hl 7 rfl) ?_
  obtain ⟨a60, ea60, h⟩ := h
  have ka60 : kO σ a60 8 := (hYσ.get hth (by decide)) a60 ea60
  have h := h ka60
  refine W.eq (g2 := F0 m 110 ls [va_rf v9, .ref a60]) (by rw [ea60]; rfl) ?_
  refine c_V B hH hl hc K.2.2.1 (C := RX8) (T := TX8) (N := 3) (ci := 8) (As := [va_rf v9]) (ok_X8_release hl9 K.2.1 σ a60 v9 g9 ka60 hGσ hYσ h) wc_X11_174 1 hd_X8_release ⟨Nat.le_trans (Nat.le_of_ble_eq_true rfl) K.2.2.2.1, Nat.le_trans (Nat.le_of_ble_eq_true rfl) K.2.2.2.2.1⟩ ka60.1 ka60.2 (by decide) rfl rfl (rest := []) rfl (Nat.le_of_ble_eq_true rfl) dX11_topUpTo_110 (fun σ59 w hq => ?_) (fun σ9 E9 hx9 => hX σ9 E9 _ _ _ (tb_out K.2.2.2.2.2.1 rfl) hx9.1 hx9.2.1 hx9.2.2.1 (hE.trans hx9.2.2.2))
  obtain ⟨rfl, h, hGσ59, hYσ59, xσ59⟩ := hq
  have h := h xσ59
  intro H locs ls hH hl hc
  refine W.eq (g2 := F0 m 113 ls []) (rfl) ?_
  try dsimp only at h
  refine lv_goto (tgt := 143) B.1 B.2.1 dX11_topUpTo_113 (by decide) ?_
  exact a_X11_topUpTo_143 K hQ hX hTh hK34 _ _ _ _ _ _ _ (g1.up xσ59) (g2.up xσ59) g5 g8 h hGσ59 hYσ59 (hE.trans xσ59) (hth.up xσ59) _ _ _ hH (lv_sub (l' := [(0, .ref th), (1, va_rf v1), (2, va_rf v2), (3, .long v3), (5, .int (i32 v5)), (6, .long v6), (8, .int (i32 v8))]) hl [0, 1, 2, 3, 4, 5, 6] rfl) hc
set_option maxRecDepth 20000 in
theorem a_X11_topUpTo_86 {Q : Sg → Unit → Prop} {X : Sg → String → Prop} {th : Nat} (K : MD l R p s m args c cX11_topUpTo 10 RX11 D cA tys A n0 s0 2 42 []) (hQ : CQV p l e R s m args below meth c cX11_topUpTo D cA A n0 s0 QM σi Q) (hX : CX p l e R s m args below meth c 10 D cA A n0 s0 QM σi X) (hTh : CT p l e R s m args below meth c cX11_topUpTo 10 D cA A n0 s0 QM σi RX11 X) {K34 : Sg → Option Nat → Option Nat → Int64 → Int → Int64 → Int → Option Nat → Prop} (hK34 : ∀ (σ : Sg) (v1 : Option Nat) (v2 : Option Nat) (v3 : Int64) (v5 : Int) (v6 : Int64) (v8 : Int) (v9 : Option Nat) (g1 : tyV σ 5 v1) (g2 : tyV σ 10 v2) (g5 : rng v5) (g8 : rng v8) (g9 : tyV σ 0 v9), K34 σ v1 v2 v3 v5 v6 v8 v9 → RG σ → TY σ → Ext σi σ → kO σ th 11 → JJ p l e R s m args below meth c 10 D cA A n0 s0 QM σ 34 [(0, .ref th), (1, va_rf v1), (2, va_rf v2), (3, .long v3), (5, .int (i32 v5)), (6, .long v6), (8, .int (i32 v8)), (9, va_rf v9)] []) : ∀ (σ : Sg) (v1 : Option Nat) (v2 : Option Nat) (v3 : Int64) (v5 : Int) (v9 : Option Nat) (u0 : Int) (g1 : tyV σ 5 v1) (g2 : tyV σ 10 v2) (g5 : rng v5) (g9 : tyV σ 0 v9) (gu0 : rng u0), w_X11_topUpTo_86 th K34 Q X σ v1 v2 v3 v5 v9 u0 → RG σ → TY σ → Ext σi σ → kO σ th 11 → JJ p l e R s m args below meth c 10 D cA A n0 s0 QM σ 86 [(0, .ref th), (1, va_rf v1), (2, va_rf v2), (3, .long v3), (5, .int (i32 v5)), (9, va_rf v9)] [.int (i32 u0)] := by
  intro σ v1 v2 v3 v5 v9 u0 g1 g2 g5 g9 gu0 h hGσ hYσ hE hth H locs ls hH hl hc
  have B := K.1
  have hl9 := K.2.2.2.2.2.2
  unfold w_X11_topUpTo_86 at h
  refine lv_istore (lv' := [(8, .int (i32 u0)), (0, .ref th), (1, va_rf v1), (2, va_rf v2), (3, .long v3), (5, .int (i32 v5)), (9, va_rf v9)]) B.1 B.2.1 dX11_topUpTo_86 hl (by decide) rfl (fun ls hl => ?_)
  refine lv_aloadQ B.1 B.2.1 dX11_topUpTo_88 (lv_at hl 6 rfl) ?_
  obtain ⟨a61, ea61, h⟩ := h
  have ka61 : kO σ a61 0 := g9 a61 ea61
  have h := h ka61
  refine W.eq (g2 := F0 m 90 ls [.ref a61]) (by rw [ea61]; rfl) ?_
  refine f_getl B hH ka61 (by decide) rfl wu_X0 6 (by decide) wf_X11_92 rfl rfl dX11_topUpTo_90 ?_
  refine lv_lstore (lv' := [(6, .long (gJ σ a61 6)), (8, .int (i32 u0)), (0, .ref th), (1, va_rf v1), (2, va_rf v2), (3, .long v3), (5, .int (i32 v5)), (9, va_rf v9)]) B.1 B.2.1 dX11_topUpTo_93 hl (by decide) rfl (fun ls hl => ?_)
  refine lv_iload B.1 B.2.1 dX11_topUpTo_95 (lv_at hl 1 rfl) ?_
  refine lv_aload_nQ B.1 B.2.1 dX11_topUpTo_97 rfl (lv_at hl 3 rfl) ?_
  obtain ⟨a62, ea62, h⟩ := h
  have ka62 : kO σ a62 5 := g1 a62 ea62
  have h := h ka62
  refine W.eq (g2 := F0 m 98 ls [.ref a62, .int (i32 u0)]) (by rw [ea62]; rfl) ?_
  refine f_geti B hH ka62 (by decide) rfl wu_X5 9 (by decide) wf_X11_284 rfl rfl dX11_topUpTo_98 ?_
  refine lv_icmp_le (tgt := 116) B.1 B.2.1 dX11_topUpTo_101 (by decide) (fun h9 => ?_) (fun h9 => ?_)
  · rw [if_pos ((i32_le gu0 (hGσ _ _)).mp h9)] at h
    exact a_X11_topUpTo_116 K hQ hX hTh hK34 _ _ _ _ _ _ _ _ g1 g2 g5 gu0 g9 h hGσ hYσ hE hth _ _ _ hH (lv_sub (l' := [(0, .ref th), (1, va_rf v1), (2, va_rf v2), (3, .long v3), (5, .int (i32 v5)), (6, .long (gJ σ a61 6)), (8, .int (i32 u0)), (9, va_rf v9)]) hl [2, 3, 4, 5, 6, 0, 1, 7] rfl) hc
  · rw [if_neg (fun q => h9 ((i32_le gu0 (hGσ _ _)).mpr q))] at h
    exact a_X11_topUpTo_104 K hQ hX hTh hK34 _ _ _ _ _ _ _ _ g1 g2 g5 gu0 g9 h hGσ hYσ hE hth _ _ _ hH (lv_sub (l' := [(0, .ref th), (1, va_rf v1), (2, va_rf v2), (3, .long v3), (5, .int (i32 v5)), (6, .long (gJ σ a61 6)), (8, .int (i32 u0)), (9, va_rf v9)]) hl [2, 3, 4, 5, 6, 0, 1, 7] rfl) hc
set_option maxRecDepth 20000 in
theorem a_X11_topUpTo_85 {Q : Sg → Unit → Prop} {X : Sg → String → Prop} {th : Nat} (K : MD l R p s m args c cX11_topUpTo 10 RX11 D cA tys A n0 s0 2 42 []) (hQ : CQV p l e R s m args below meth c cX11_topUpTo D cA A n0 s0 QM σi Q) (hX : CX p l e R s m args below meth c 10 D cA A n0 s0 QM σi X) (hTh : CT p l e R s m args below meth c cX11_topUpTo 10 D cA A n0 s0 QM σi RX11 X) {K34 : Sg → Option Nat → Option Nat → Int64 → Int → Int64 → Int → Option Nat → Prop} (hK34 : ∀ (σ : Sg) (v1 : Option Nat) (v2 : Option Nat) (v3 : Int64) (v5 : Int) (v6 : Int64) (v8 : Int) (v9 : Option Nat) (g1 : tyV σ 5 v1) (g2 : tyV σ 10 v2) (g5 : rng v5) (g8 : rng v8) (g9 : tyV σ 0 v9), K34 σ v1 v2 v3 v5 v6 v8 v9 → RG σ → TY σ → Ext σi σ → kO σ th 11 → JJ p l e R s m args below meth c 10 D cA A n0 s0 QM σ 34 [(0, .ref th), (1, va_rf v1), (2, va_rf v2), (3, .long v3), (5, .int (i32 v5)), (6, .long v6), (8, .int (i32 v8)), (9, va_rf v9)] []) : ∀ (σ : Sg) (v1 : Option Nat) (v2 : Option Nat) (v3 : Int64) (v5 : Int) (v9 : Option Nat) (g1 : tyV σ 5 v1) (g2 : tyV σ 10 v2) (g5 : rng v5) (g9 : tyV σ 0 v9), w_X11_topUpTo_85 th K34 Q X σ v1 v2 v3 v5 v9 → RG σ → TY σ → Ext σi σ → kO σ th 11 → JJ p l e R s m args below meth c 10 D cA A n0 s0 QM σ 85 [(0, .ref th), (1, va_rf v1), (2, va_rf v2), (3, .long v3), (5, .int (i32 v5)), (9, va_rf v9)] [] := by
  intro σ v1 v2 v3 v5 v9 g1 g2 g5 g9 h hGσ hYσ hE hth H locs ls hH hl hc
  have B := K.1
  have hl9 := K.2.2.2.2.2.2
  unfold w_X11_topUpTo_85 at h
  refine lv_iconst (v := i32 1) B.1 B.2.1 dX11_topUpTo_85 (by decide) ?_
  exact a_X11_topUpTo_86 K hQ hX hTh hK34 _ _ _ _ _ _ _ g1 g2 g5 g9 (by unfold rng; omega) h hGσ hYσ hE hth _ _ _ hH (lv_sub (l' := [(0, .ref th), (1, va_rf v1), (2, va_rf v2), (3, .long v3), (5, .int (i32 v5)), (9, va_rf v9)]) hl [0, 1, 2, 3, 4, 5] rfl) hc
set_option maxRecDepth 20000 in
theorem a_X11_topUpTo_78 {Q : Sg → Unit → Prop} {X : Sg → String → Prop} {th : Nat} (K : MD l R p s m args c cX11_topUpTo 10 RX11 D cA tys A n0 s0 2 42 []) (hQ : CQV p l e R s m args below meth c cX11_topUpTo D cA A n0 s0 QM σi Q) (hX : CX p l e R s m args below meth c 10 D cA A n0 s0 QM σi X) (hTh : CT p l e R s m args below meth c cX11_topUpTo 10 D cA A n0 s0 QM σi RX11 X) {K34 : Sg → Option Nat → Option Nat → Int64 → Int → Int64 → Int → Option Nat → Prop} (hK34 : ∀ (σ : Sg) (v1 : Option Nat) (v2 : Option Nat) (v3 : Int64) (v5 : Int) (v6 : Int64) (v8 : Int) (v9 : Option Nat) (g1 : tyV σ 5 v1) (g2 : tyV σ 10 v2) (g5 : rng v5) (g8 : rng v8) (g9 : tyV σ 0 v9), K34 σ v1 v2 v3 v5 v6 v8 v9 → RG σ → TY σ → Ext σi σ → kO σ th 11 → JJ p l e R s m args below meth c 10 D cA A n0 s0 QM σ 34 [(0, .ref th), (1, va_rf v1), (2, va_rf v2), (3, .long v3), (5, .int (i32 v5)), (6, .long v6), (8, .int (i32 v8)), (9, va_rf v9)] []) : ∀ (σ : Sg) (v1 : Option Nat) (v2 : Option Nat) (v3 : Int64) (v5 : Int) (v8 : Int) (v9 : Option Nat) (g1 : tyV σ 5 v1) (g2 : tyV σ 10 v2) (g5 : rng v5) (g8 : rng v8) (g9 : tyV σ 0 v9), w_X11_topUpTo_78 th K34 Q X σ v1 v2 v3 v5 v8 v9 → RG σ → TY σ → Ext σi σ → kO σ th 11 → JJ p l e R s m args below meth c 10 D cA A n0 s0 QM σ 78 [(0, .ref th), (1, va_rf v1), (2, va_rf v2), (3, .long v3), (5, .int (i32 v5)), (8, .int (i32 v8)), (9, va_rf v9)] [] := by
  intro σ v1 v2 v3 v5 v8 v9 g1 g2 g5 g8 g9 h hGσ hYσ hE hth H locs ls hH hl hc
  have B := K.1
  have hl9 := K.2.2.2.2.2.2
  unfold w_X11_topUpTo_78 at h
  refine lv_iload B.1 B.2.1 dX11_topUpTo_78 (lv_at hl 5 rfl) ?_
  refine lv_iconst (v := i32 1) B.1 B.2.1 dX11_topUpTo_80 (by decide) ?_
  refine lv_iadd B.1 B.2.1 dX11_topUpTo_81 ?_
  rw [i32_add]
  refine W.eq (g2 := F0 m 82 ls [.int (i32 (wr (v8 + 1)))]) (by rw [i32_wr]) ?_
  refine lv_goto (tgt := 86) B.1 B.2.1 dX11_topUpTo_82 (by decide) ?_
  exact a_X11_topUpTo_86 K hQ hX hTh hK34 _ _ _ _ _ _ _ g1 g2 g5 g9 (rng_wr _) h hGσ hYσ hE hth _ _ _ hH (lv_sub (l' := [(0, .ref th), (1, va_rf v1), (2, va_rf v2), (3, .long v3), (5, .int (i32 v5)), (9, va_rf v9)]) hl [0, 1, 2, 3, 4, 6] rfl) hc
set_option maxRecDepth 20000 in
theorem a_X11_topUpTo_49 {Q : Sg → Unit → Prop} {X : Sg → String → Prop} {th : Nat} (K : MD l R p s m args c cX11_topUpTo 10 RX11 D cA tys A n0 s0 2 42 []) (hQ : CQV p l e R s m args below meth c cX11_topUpTo D cA A n0 s0 QM σi Q) (hX : CX p l e R s m args below meth c 10 D cA A n0 s0 QM σi X) (hTh : CT p l e R s m args below meth c cX11_topUpTo 10 D cA A n0 s0 QM σi RX11 X) {K34 : Sg → Option Nat → Option Nat → Int64 → Int → Int64 → Int → Option Nat → Prop} (hK34 : ∀ (σ : Sg) (v1 : Option Nat) (v2 : Option Nat) (v3 : Int64) (v5 : Int) (v6 : Int64) (v8 : Int) (v9 : Option Nat) (g1 : tyV σ 5 v1) (g2 : tyV σ 10 v2) (g5 : rng v5) (g8 : rng v8) (g9 : tyV σ 0 v9), K34 σ v1 v2 v3 v5 v6 v8 v9 → RG σ → TY σ → Ext σi σ → kO σ th 11 → JJ p l e R s m args below meth c 10 D cA A n0 s0 QM σ 34 [(0, .ref th), (1, va_rf v1), (2, va_rf v2), (3, .long v3), (5, .int (i32 v5)), (6, .long v6), (8, .int (i32 v8)), (9, va_rf v9)] []) : ∀ (σ : Sg) (v1 : Option Nat) (v2 : Option Nat) (v3 : Int64) (v5 : Int) (v6 : Int64) (v8 : Int) (v9 : Option Nat) (g1 : tyV σ 5 v1) (g2 : tyV σ 10 v2) (g5 : rng v5) (g8 : rng v8) (g9 : tyV σ 0 v9), w_X11_topUpTo_49 th K34 Q X σ v1 v2 v3 v5 v6 v8 v9 → RG σ → TY σ → Ext σi σ → kO σ th 11 → JJ p l e R s m args below meth c 10 D cA A n0 s0 QM σ 49 [(0, .ref th), (1, va_rf v1), (2, va_rf v2), (3, .long v3), (5, .int (i32 v5)), (6, .long v6), (8, .int (i32 v8)), (9, va_rf v9)] [] := by
  intro σ v1 v2 v3 v5 v6 v8 v9 g1 g2 g5 g8 g9 h hGσ hYσ hE hth H locs ls hH hl hc
  have B := K.1
  have hl9 := K.2.2.2.2.2.2
  unfold w_X11_topUpTo_49 at h
  refine lv_aload_nQ B.1 B.2.1 dX11_topUpTo_49 rfl (lv_at hl 2 rfl) ?_
  obtain ⟨a63, ea63, h⟩ := h
  have ka63 : kO σ a63 10 := g2 a63 ea63
  have h := h ka63
  refine W.eq (g2 := F0 m 50 ls [.ref a63]) (by rw [ea63]; rfl) ?_
  refine f_getp B hH ka63 (by decide) rfl wu_X10 2 (by decide) wf_X11_105 rfl rfl dX11_topUpTo_50 ?_
  obtain ⟨a66, ea66, h⟩ := h
  have ka66 : kO σ a66 1 := (hYσ.get ka63 (by decide)) a66 ea66
  have h := h ka66
  refine W.eq (g2 := F0 m 53 ls [.ref a66]) (by rw [ea66]; rfl) ?_
  refine c_V B hH hl hc K.2.2.1 (C := RX1) (T := TX1) (N := 3) (ci := 1) (As := []) (ok_X1_takeFirst hl9 K.2.1 σ a66 ka66 hGσ hYσ h) wc_X11_261 0 hd_X1_takeFirst ⟨Nat.le_trans (Nat.le_of_ble_eq_true rfl) K.2.2.2.1, Nat.le_trans (Nat.le_of_ble_eq_true rfl) K.2.2.2.2.1⟩ ka66.1 ka66.2 (by decide) rfl rfl (rest := []) rfl (Nat.le_of_ble_eq_true rfl) dX11_topUpTo_53 (fun σ64 w hq => ?_) (fun σ9 E9 hx9 => hX σ9 E9 _ _ _ (tb_out K.2.2.2.2.2.1 rfl) hx9.1 hx9.2.1 hx9.2.2.1 (hE.trans hx9.2.2.2))
  obtain ⟨r65, rfl, tr65, h, hGσ64, hYσ64, xσ64⟩ := hq
  have h := h xσ64 tr65
  intro H locs ls hH hl hc
  refine W.eq (g2 := F0 m 56 ls [va_rf r65]) (rfl) ?_
  try dsimp only at h
  refine lv_pop B.1 B.2.1 dX11_topUpTo_56 (rf_cat _) ?_
  refine lv_aload_n B.1 B.2.1 dX11_topUpTo_57 rfl (lv_at hl 0 rfl) ?_
  refine lv_dup B.1 B.2.1 dX11_topUpTo_58 rfl ?_
  refine f_geti B hH (hth.up xσ64) (by decide) rfl wu_X11 4 (by decide) wf_X11_165 rfl rfl dX11_topUpTo_59 ?_
  refine lv_iconst (v := i32 1) B.1 B.2.1 dX11_topUpTo_62 (by decide) ?_
  obtain ⟨q1, h⟩ := h
  refine lv_isub B.1 B.2.1 dX11_topUpTo_63 ?_
  rw [i32_sub]
  obtain ⟨σ67, eσ67⟩ : ∃ z, z = pI σ64 th 4 (gI σ64 th 4 - 1) := ⟨_, rfl⟩
  have h := h σ67 eσ67
  refine f_puti B hH (hth.up xσ64) (by decide) rfl wu_X11 tyX11 tyX11_ok nmX11 4 (by decide) wf_X11_165 rfl (ty := .int) rfl rfl rfl rfl rfl dX11_topUpTo_64 (fun H locs hH => ?_)
  have hH : Hd D cA A s (pI σ64 th 4 (gI σ64 th 4 - 1)) H locs := hH
  rw [← eσ67] at hH
  have hGσ67 : RG σ67 := by rw [eσ67]; exact hGσ64.pI q1
  have hYσ67 : TY σ67 := by rw [eσ67]; exact hYσ64.pI
  have xσ67 : Ext σ64 σ67 := by rw [eσ67]; exact Ext.pI
  have hc : CB n0 s0 σ67 := by rw [eσ67]; exact hc
  rw [show gc σ64 = gc σ67 by rw [eσ67]; try rfl, show gs σ64 = gs σ67 by rw [eσ67]; try rfl]
  refine lv_aloadQ B.1 B.2.1 dX11_topUpTo_67 (lv_at hl 7 rfl) ?_
  obtain ⟨a68, ea68, h⟩ := h
  have ka68 : kO σ67 a68 0 := (g9.up (xσ64.trans xσ67)) a68 ea68
  have h := h ka68
  refine W.eq (g2 := F0 m 69 ls [.ref a68]) (by rw [ea68]; rfl) ?_
  refine f_getl B hH ka68 (by decide) rfl wu_X0 6 (by decide) wf_X11_92 rfl rfl dX11_topUpTo_69 ?_
  refine lv_lload B.1 B.2.1 dX11_topUpTo_72 (lv_at hl 5 rfl) ?_
  refine W.lcmp B.1 B.2.1 dX11_topUpTo_74 ?_
  refine lv_if_ne (tgt := 85) B.1 B.2.1 dX11_topUpTo_75 (by decide) (fun h9 => ?_) (fun h9 => ?_)
  · rw [if_pos (fun q => h9 ((lg_cmp_eq _ _).mpr q))] at h
    exact a_X11_topUpTo_85 K hQ hX hTh hK34 _ _ _ _ _ _ (g1.up (xσ64.trans xσ67)) (g2.up (xσ64.trans xσ67)) g5 (g9.up (xσ64.trans xσ67)) h hGσ67 hYσ67 ((hE.trans xσ64).trans xσ67) (hth.up (xσ64.trans xσ67)) _ _ _ hH (lv_sub (l' := [(0, .ref th), (1, va_rf v1), (2, va_rf v2), (3, .long v3), (5, .int (i32 v5)), (9, va_rf v9)]) hl [0, 1, 2, 3, 4, 7] rfl) hc
  · rw [if_neg (fun q => q ((lg_cmp_eq _ _).mp h9))] at h
    exact a_X11_topUpTo_78 K hQ hX hTh hK34 _ _ _ _ _ _ _ (g1.up (xσ64.trans xσ67)) (g2.up (xσ64.trans xσ67)) g5 g8 (g9.up (xσ64.trans xσ67)) h hGσ67 hYσ67 ((hE.trans xσ64).trans xσ67) (hth.up (xσ64.trans xσ67)) _ _ _ hH (lv_sub (l' := [(0, .ref th), (1, va_rf v1), (2, va_rf v2), (3, .long v3), (5, .int (i32 v5)), (8, .int (i32 v8)), (9, va_rf v9)]) hl [0, 1, 2, 3, 4, 6, 7] rfl) hc
set_option maxRecDepth 20000 in
theorem a_X11_topUpTo_39 {Q : Sg → Unit → Prop} {X : Sg → String → Prop} {th : Nat} (K : MD l R p s m args c cX11_topUpTo 10 RX11 D cA tys A n0 s0 2 42 []) (hQ : CQV p l e R s m args below meth c cX11_topUpTo D cA A n0 s0 QM σi Q) (hX : CX p l e R s m args below meth c 10 D cA A n0 s0 QM σi X) (hTh : CT p l e R s m args below meth c cX11_topUpTo 10 D cA A n0 s0 QM σi RX11 X) {K34 : Sg → Option Nat → Option Nat → Int64 → Int → Int64 → Int → Option Nat → Prop} (hK34 : ∀ (σ : Sg) (v1 : Option Nat) (v2 : Option Nat) (v3 : Int64) (v5 : Int) (v6 : Int64) (v8 : Int) (v9 : Option Nat) (g1 : tyV σ 5 v1) (g2 : tyV σ 10 v2) (g5 : rng v5) (g8 : rng v8) (g9 : tyV σ 0 v9), K34 σ v1 v2 v3 v5 v6 v8 v9 → RG σ → TY σ → Ext σi σ → kO σ th 11 → JJ p l e R s m args below meth c 10 D cA A n0 s0 QM σ 34 [(0, .ref th), (1, va_rf v1), (2, va_rf v2), (3, .long v3), (5, .int (i32 v5)), (6, .long v6), (8, .int (i32 v8)), (9, va_rf v9)] []) : ∀ (σ : Sg) (v1 : Option Nat) (v2 : Option Nat) (v3 : Int64) (v5 : Int) (v6 : Int64) (v8 : Int) (v9 : Option Nat) (g1 : tyV σ 5 v1) (g2 : tyV σ 10 v2) (g5 : rng v5) (g8 : rng v8) (g9 : tyV σ 0 v9), w_X11_topUpTo_39 th K34 Q X σ v1 v2 v3 v5 v6 v8 v9 → RG σ → TY σ → Ext σi σ → kO σ th 11 → JJ p l e R s m args below meth c 10 D cA A n0 s0 QM σ 39 [(0, .ref th), (1, va_rf v1), (2, va_rf v2), (3, .long v3), (5, .int (i32 v5)), (6, .long v6), (8, .int (i32 v8)), (9, va_rf v9)] [] := by
  intro σ v1 v2 v3 v5 v6 v8 v9 g1 g2 g5 g8 g9 h hGσ hYσ hE hth H locs ls hH hl hc
  have B := K.1
  have hl9 := K.2.2.2.2.2.2
  unfold w_X11_topUpTo_39 at h
  refine lv_aloadQ B.1 B.2.1 dX11_topUpTo_39 (lv_at hl 7 rfl) ?_
  obtain ⟨a69, ea69, h⟩ := h
  have ka69 : kO σ a69 0 := g9 a69 ea69
  have h := h ka69
  refine W.eq (g2 := F0 m 41 ls [.ref a69]) (by rw [ea69]; rfl) ?_
  refine f_getl B hH ka69 (by decide) rfl wu_X0 6 (by decide) wf_X11_92 rfl rfl dX11_topUpTo_41 ?_
  refine lv_lload_n B.1 B.2.1 dX11_topUpTo_44 rfl (lv_at hl 3 rfl) ?_
  refine W.lcmp B.1 B.2.1 dX11_topUpTo_45 ?_
  refine lv_if_gt (tgt := 155) B.1 B.2.1 dX11_topUpTo_46 (by decide) (fun h9 => ?_) (fun h9 => ?_)
  · rw [if_pos ((lg_cmp_gt _ _).mp h9)] at h
    exact a_X11_topUpTo_155 K hQ hX hTh _ h hGσ hYσ hE hth _ _ _ hH (lv_sub (l' := [(0, .ref th)]) hl [0] rfl) hc
  · rw [if_neg (fun q => h9 ((lg_cmp_gt _ _).mpr q))] at h
    exact a_X11_topUpTo_49 K hQ hX hTh hK34 _ _ _ _ _ _ _ _ g1 g2 g5 g8 g9 h hGσ hYσ hE hth _ _ _ hH (lv_sub (l' := [(0, .ref th), (1, va_rf v1), (2, va_rf v2), (3, .long v3), (5, .int (i32 v5)), (6, .long v6), (8, .int (i32 v8)), (9, va_rf v9)]) hl [0, 1, 2, 3, 4, 5, 6, 7] rfl) hc
set_option maxRecDepth 20000 in
theorem a_X11_topUpTo_34 {Q : Sg → Unit → Prop} {X : Sg → String → Prop} {th : Nat} (K : MD l R p s m args c cX11_topUpTo 10 RX11 D cA tys A n0 s0 2 42 []) (hQ : CQV p l e R s m args below meth c cX11_topUpTo D cA A n0 s0 QM σi Q) (hX : CX p l e R s m args below meth c 10 D cA A n0 s0 QM σi X) (hTh : CT p l e R s m args below meth c cX11_topUpTo 10 D cA A n0 s0 QM σi RX11 X) {K34 : Sg → Option Nat → Option Nat → Int64 → Int → Int64 → Int → Option Nat → Prop} (hK34 : ∀ (σ : Sg) (v1 : Option Nat) (v2 : Option Nat) (v3 : Int64) (v5 : Int) (v6 : Int64) (v8 : Int) (v9 : Option Nat) (g1 : tyV σ 5 v1) (g2 : tyV σ 10 v2) (g5 : rng v5) (g8 : rng v8) (g9 : tyV σ 0 v9), K34 σ v1 v2 v3 v5 v6 v8 v9 → RG σ → TY σ → Ext σi σ → kO σ th 11 → JJ p l e R s m args below meth c 10 D cA A n0 s0 QM σ 34 [(0, .ref th), (1, va_rf v1), (2, va_rf v2), (3, .long v3), (5, .int (i32 v5)), (6, .long v6), (8, .int (i32 v8)), (9, va_rf v9)] []) : ∀ (σ : Sg) (v1 : Option Nat) (v2 : Option Nat) (v3 : Int64) (v5 : Int) (v6 : Int64) (v8 : Int) (v9 : Option Nat) (g1 : tyV σ 5 v1) (g2 : tyV σ 10 v2) (g5 : rng v5) (g8 : rng v8) (g9 : tyV σ 0 v9), w_X11_topUpTo_34 th K34 Q X σ v1 v2 v3 v5 v6 v8 v9 → RG σ → TY σ → Ext σi σ → kO σ th 11 → JJ p l e R s m args below meth c 10 D cA A n0 s0 QM σ 34 [(0, .ref th), (1, va_rf v1), (2, va_rf v2), (3, .long v3), (5, .int (i32 v5)), (6, .long v6), (8, .int (i32 v8)), (9, va_rf v9)] [] := by
  intro σ v1 v2 v3 v5 v6 v8 v9 g1 g2 g5 g8 g9 h hGσ hYσ hE hth H locs ls hH hl hc
  have B := K.1
  have hl9 := K.2.2.2.2.2.2
  unfold w_X11_topUpTo_34 at h
  refine lv_aloadQ B.1 B.2.1 dX11_topUpTo_34 (lv_at hl 7 rfl) ?_
  refine lv_ifnullQ (tgt := 155) B.1 B.2.1 dX11_topUpTo_36 (by decide) (fun h9 => ?_) (fun h9 => ?_)
  · rw [if_pos (h9)] at h
    exact a_X11_topUpTo_155 K hQ hX hTh _ h hGσ hYσ hE hth _ _ _ hH (lv_sub (l' := [(0, .ref th)]) hl [0] rfl) hc
  · rw [if_neg (h9)] at h
    exact a_X11_topUpTo_39 K hQ hX hTh hK34 _ _ _ _ _ _ _ _ g1 g2 g5 g8 g9 h hGσ hYσ hE hth _ _ _ hH (lv_sub (l' := [(0, .ref th), (1, va_rf v1), (2, va_rf v2), (3, .long v3), (5, .int (i32 v5)), (6, .long v6), (8, .int (i32 v8)), (9, va_rf v9)]) hl [0, 1, 2, 3, 4, 5, 6, 7] rfl) hc
theorem al_X11_topUpTo_34 {Q : Sg → Unit → Prop} {X : Sg → String → Prop} {th : Nat} (K : MD l R p s m args c cX11_topUpTo 10 RX11 D cA tys A n0 s0 2 42 []) (hQ : CQV p l e R s m args below meth c cX11_topUpTo D cA A n0 s0 QM σi Q) (hX : CX p l e R s m args below meth c 10 D cA A n0 s0 QM σi X) (hTh : CT p l e R s m args below meth c cX11_topUpTo 10 D cA A n0 s0 QM σi RX11 X) : ∀ (n : Nat), ∀ (σ : Sg) (v1 : Option Nat) (v2 : Option Nat) (v3 : Int64) (v5 : Int) (v6 : Int64) (v8 : Int) (v9 : Option Nat) (g1 : tyV σ 5 v1) (g2 : tyV σ 10 v2) (g5 : rng v5) (g8 : rng v8) (g9 : tyV σ 0 v9), wl_X11_topUpTo_34 th Q X n σ v1 v2 v3 v5 v6 v8 v9 → RG σ → TY σ → Ext σi σ → kO σ th 11 → JJ p l e R s m args below meth c 10 D cA A n0 s0 QM σ 34 [(0, .ref th), (1, va_rf v1), (2, va_rf v2), (3, .long v3), (5, .int (i32 v5)), (6, .long v6), (8, .int (i32 v8)), (9, va_rf v9)] [] := by
  intro n
  induction n with
  | zero => intro σ v1 v2 v3 v5 v6 v8 v9 g1 g2 g5 g8 g9 h; exact h.elim
  | succ n ih => exact fun σ v1 v2 v3 v5 v6 v8 v9 g1 g2 g5 g8 g9 h => a_X11_topUpTo_34 K hQ hX hTh ih σ v1 v2 v3 v5 v6 v8 v9 g1 g2 g5 g8 g9 h
set_option maxRecDepth 20000 in
theorem a_X11_topUpTo_0 {Q : Sg → Unit → Prop} {X : Sg → String → Prop} {th : Nat} (K : MD l R p s m args c cX11_topUpTo 10 RX11 D cA tys A n0 s0 2 42 []) (hQ : CQV p l e R s m args below meth c cX11_topUpTo D cA A n0 s0 QM σi Q) (hX : CX p l e R s m args below meth c 10 D cA A n0 s0 QM σi X) (hTh : CT p l e R s m args below meth c cX11_topUpTo 10 D cA A n0 s0 QM σi RX11 X) : ∀ (σ : Sg) (v1 : Option Nat) (v2 : Option Nat) (v3 : Int64) (g1 : tyV σ 5 v1) (g2 : tyV σ 10 v2), w_X11_topUpTo_0 th Q X σ v1 v2 v3 → RG σ → TY σ → Ext σi σ → kO σ th 11 → JJ p l e R s m args below meth c 10 D cA A n0 s0 QM σ 0 [(0, .ref th), (1, va_rf v1), (2, va_rf v2), (3, .long v3)] [] := by
  intro σ v1 v2 v3 g1 g2 h hGσ hYσ hE hth H locs ls hH hl hc
  have B := K.1
  have hl9 := K.2.2.2.2.2.2
  unfold w_X11_topUpTo_0 at h
  refine lv_aload_n B.1 B.2.1 dX11_topUpTo_0 rfl (lv_at hl 0 rfl) ?_
  refine f_getp B hH hth (by decide) rfl wu_X11 5 (by decide) wf_X11_136 rfl rfl dX11_topUpTo_1 ?_
  obtain ⟨a70, ea70, h⟩ := h
  have ka70 : kO σ a70 4 := (hYσ.get hth (by decide)) a70 ea70
  have h := h ka70
  refine W.eq (g2 := F0 m 4 ls [.ref a70]) (by rw [ea70]; rfl) ?_
  refine f_getp B hH ka70 (by decide) rfl wu_X4 0 (by decide) wf_X11_140 rfl rfl dX11_topUpTo_4 ?_
  refine lv_aload_nQ B.1 B.2.1 dX11_topUpTo_7 rfl (lv_at hl 1 rfl) ?_
  obtain ⟨a71, ea71, h⟩ := h
  have ka71 : kO σ a71 5 := g1 a71 ea71
  have h := h ka71
  refine W.eq (g2 := F0 m 8 ls [.ref a71, va_rf (gP σ a70 0)]) (by rw [ea71]; rfl) ?_
  refine f_geti B hH ka71 (by decide) rfl wu_X5 7 (by decide) wf_X11_149 rfl rfl dX11_topUpTo_8 ?_
  obtain ⟨a72, ea72, h⟩ := h
  have ka72 : kO σ a72 115 := (hYσ.get ka70 (by decide)) a72 ea72
  have h := h ka72
  obtain ⟨q1, h⟩ := h
  refine W.eq (g2 := F0 m 11 ls [.int (i32 (gI σ a71 7)), .ref a72]) (by rw [ea72]; rfl) ?_
  refine y_aald B hH (t0 := 6) ka72 (by decide) K.2.1.2.2.2.1 q1 (hYσ.2 _) dX11_topUpTo_11 ?_
  obtain ⟨a73, ea73, h⟩ := h
  have ka73 : kO σ a73 5 := (hYσ.get ka72 rfl) a73 ea73
  have h := h ka73
  refine W.eq (g2 := F0 m 12 ls [.ref a73]) (by rw [ea73]; rfl) ?_
  refine f_geti B hH ka73 (by decide) rfl wu_X5 3 (by decide) wf_X11_152 rfl rfl dX11_topUpTo_12 ?_
  refine lv_istore (lv' := [(5, .int (i32 (gI σ a73 3))), (0, .ref th), (1, va_rf v1), (2, va_rf v2), (3, .long v3)]) B.1 B.2.1 dX11_topUpTo_15 hl (by decide) rfl (fun ls hl => ?_)
  refine lv_ldc2 B.1 B.2.1 B.2.2.1 (B.2.2.2.1 _ (wk_X11_282)) dX11_topUpTo_17 ?_
  refine lv_lstore (lv' := [(6, .long (-1)), (5, .int (i32 (gI σ a73 3))), (0, .ref th), (1, va_rf v1), (2, va_rf v2), (3, .long v3)]) B.1 B.2.1 dX11_topUpTo_20 hl (by decide) rfl (fun ls hl => ?_)
  refine lv_iconst (v := i32 0) B.1 B.2.1 dX11_topUpTo_22 (by decide) ?_
  refine lv_istore (lv' := [(8, .int (i32 0)), (6, .long (-1)), (5, .int (i32 (gI σ a73 3))), (0, .ref th), (1, va_rf v1), (2, va_rf v2), (3, .long v3)]) B.1 B.2.1 dX11_topUpTo_23 hl (by decide) rfl (fun ls hl => ?_)
  refine lv_aload_nQ B.1 B.2.1 dX11_topUpTo_25 rfl (lv_at hl 5 rfl) ?_
  obtain ⟨a74, ea74, h⟩ := h
  have ka74 : kO σ a74 10 := g2 a74 ea74
  have h := h ka74
  refine W.eq (g2 := F0 m 26 ls [.ref a74]) (by rw [ea74]; rfl) ?_
  refine f_getp B hH ka74 (by decide) rfl wu_X10 2 (by decide) wf_X11_105 rfl rfl dX11_topUpTo_26 ?_
  obtain ⟨a75, ea75, h⟩ := h
  have ka75 : kO σ a75 1 := (hYσ.get ka74 (by decide)) a75 ea75
  have h := h ka75
  refine W.eq (g2 := F0 m 29 ls [.ref a75]) (by rw [ea75]; rfl) ?_
  refine f_getp B hH ka75 (by decide) rfl wu_X1 0 (by decide) wf_X11_225 rfl rfl dX11_topUpTo_29 ?_
  refine lv_astoreQ (lv' := [(9, va_rf (gP σ a75 0)), (8, .int (i32 0)), (6, .long (-1)), (5, .int (i32 (gI σ a73 3))), (0, .ref th), (1, va_rf v1), (2, va_rf v2), (3, .long v3)]) B.1 B.2.1 dX11_topUpTo_32 hl (by decide) rfl (fun ls hl => ?_)
  obtain ⟨n9, h⟩ := h
  exact al_X11_topUpTo_34 K hQ hX hTh n9 _ _ _ _ _ _ _ _ g1 g2 (hGσ _ _) (by unfold rng; omega) (hYσ.get ka75 (by decide)) h hGσ hYσ hE hth _ _ _ hH (lv_sub (l' := [(0, .ref th), (1, va_rf v1), (2, va_rf v2), (3, .long v3), (5, .int (i32 (gI σ a73 3))), (6, .long (-1)), (8, .int (i32 0)), (9, va_rf (gP σ a75 0))]) hl [4, 5, 6, 7, 3, 2, 1, 0] rfl) hc
theorem ok_X11_topUpTo (hl0 : l.stackTraces = false) (hT : TyC cA tys) {Q : Sg → Unit → Prop} {X : Sg → String → Prop} (σ : Sg) (th : Nat) (v1 : Option Nat) (v2 : Option Nat) (v3 : Int64) (g1 : tyV σ 5 v1) (g2 : tyV σ 10 v2) (hth : kO σ th 11) (hG : RG σ) (hY : TY σ) (h : wp_X11_topUpTo th v1 v2 v3 σ Q X) : Ok l D cA tys A yX11_topUpTo (.code yX11_topUpTo cX11_topUpTo 10 none) 2 42 [.ref th, va_rf v1, va_rf v2, .long v3] σ (QcV σ Q) (QxC σ X) := by
  unfold wp_X11_topUpTo at h
  exact oc_V hl0 (by decide) (by cases v1 <;> cases v2 <;> exact Nat.le_of_ble_eq_true rfl) hT (fun p e R s m args below meth c K hQ hX hTh hin9 H locs ls hH hl hc => a_X11_topUpTo_0 K hQ hX hTh σ v1 v2 v3 g1 g2 h hG hY (Ext.rfl' σ) hth H locs ls hH (lv_sub (l' := [(0, .ref th), (1, va_rf v1), (2, va_rf v2), (3, .long v3)]) hl [0, 1, 2, 3] (by cases v1 <;> cases v2 <;> rfl)) hc)
theorem dX11_uniqueUpTo_0 : decode cX11_uniqueUpTo 0 = .ok (.aload_n 2, 1) := by decide +kernel
theorem dX11_uniqueUpTo_1 : decode cX11_uniqueUpTo 1 = .ok (.getfield 105, 3) := by decide +kernel
theorem dX11_uniqueUpTo_4 : decode cX11_uniqueUpTo 4 = .ok (.getfield 225, 3) := by decide +kernel
theorem dX11_uniqueUpTo_7 : decode cX11_uniqueUpTo 7 = .ok (.astore 5, 2) := by decide +kernel
theorem dX11_uniqueUpTo_9 : decode cX11_uniqueUpTo 9 = .ok (.aload 5, 2) := by decide +kernel
theorem dX11_uniqueUpTo_11 : decode cX11_uniqueUpTo 11 = .ok (.ifnull 170, 3) := by decide +kernel
theorem dX11_uniqueUpTo_14 : decode cX11_uniqueUpTo 14 = .ok (.aload 5, 2) := by decide +kernel
theorem dX11_uniqueUpTo_16 : decode cX11_uniqueUpTo 16 = .ok (.getfield 85, 3) := by decide +kernel
theorem dX11_uniqueUpTo_19 : decode cX11_uniqueUpTo 19 = .ok (.lload_n 3, 1) := by decide +kernel
theorem dX11_uniqueUpTo_20 : decode cX11_uniqueUpTo 20 = .ok (.lcmp, 1) := by decide +kernel
theorem dX11_uniqueUpTo_21 : decode cX11_uniqueUpTo 21 = .ok (.ifCond .gt 160, 3) := by decide +kernel
theorem dX11_uniqueUpTo_24 : decode cX11_uniqueUpTo 24 = .ok (.aload_n 2, 1) := by decide +kernel
theorem dX11_uniqueUpTo_25 : decode cX11_uniqueUpTo 25 = .ok (.getfield 105, 3) := by decide +kernel
theorem dX11_uniqueUpTo_28 : decode cX11_uniqueUpTo 28 = .ok (.invokevirtual 261, 3) := by decide +kernel
theorem dX11_uniqueUpTo_31 : decode cX11_uniqueUpTo 31 = .ok (.pop, 1) := by decide +kernel
theorem dX11_uniqueUpTo_32 : decode cX11_uniqueUpTo 32 = .ok (.aload_n 0, 1) := by decide +kernel
theorem dX11_uniqueUpTo_33 : decode cX11_uniqueUpTo 33 = .ok (.dup, 1) := by decide +kernel
theorem dX11_uniqueUpTo_34 : decode cX11_uniqueUpTo 34 = .ok (.getfield 165, 3) := by decide +kernel
theorem dX11_uniqueUpTo_37 : decode cX11_uniqueUpTo 37 = .ok (.iconst 1, 1) := by decide +kernel
theorem dX11_uniqueUpTo_38 : decode cX11_uniqueUpTo 38 = .ok (.isub, 1) := by decide +kernel
theorem dX11_uniqueUpTo_39 : decode cX11_uniqueUpTo 39 = .ok (.putfield 165, 3) := by decide +kernel
theorem dX11_uniqueUpTo_42 : decode cX11_uniqueUpTo 42 = .ok (.aload_n 2, 1) := by decide +kernel
theorem dX11_uniqueUpTo_43 : decode cX11_uniqueUpTo 43 = .ok (.getfield 117, 3) := by decide +kernel
theorem dX11_uniqueUpTo_46 : decode cX11_uniqueUpTo 46 = .ok (.getfield 225, 3) := by decide +kernel
theorem dX11_uniqueUpTo_49 : decode cX11_uniqueUpTo 49 = .ok (.astore 6, 2) := by decide +kernel
theorem dX11_uniqueUpTo_51 : decode cX11_uniqueUpTo 51 = .ok (.aload 6, 2) := by decide +kernel
theorem dX11_uniqueUpTo_53 : decode cX11_uniqueUpTo 53 = .ok (.ifnull 27, 3) := by decide +kernel
theorem dX11_uniqueUpTo_56 : decode cX11_uniqueUpTo 56 = .ok (.aload 6, 2) := by decide +kernel
theorem dX11_uniqueUpTo_58 : decode cX11_uniqueUpTo 58 = .ok (.getfield 72, 3) := by decide +kernel
theorem dX11_uniqueUpTo_61 : decode cX11_uniqueUpTo 61 = .ok (.aload 5, 2) := by decide +kernel
theorem dX11_uniqueUpTo_63 : decode cX11_uniqueUpTo 63 = .ok (.getfield 72, 3) := by decide +kernel
theorem dX11_uniqueUpTo_66 : decode cX11_uniqueUpTo 66 = .ok (.lcmp, 1) := by decide +kernel
theorem dX11_uniqueUpTo_67 : decode cX11_uniqueUpTo 67 = .ok (.ifCond .eq 13, 3) := by decide +kernel
theorem dX11_uniqueUpTo_70 : decode cX11_uniqueUpTo 70 = .ok (.aload 6, 2) := by decide +kernel
theorem dX11_uniqueUpTo_72 : decode cX11_uniqueUpTo 72 = .ok (.getfield 235, 3) := by decide +kernel
theorem dX11_uniqueUpTo_75 : decode cX11_uniqueUpTo 75 = .ok (.astore 6, 2) := by decide +kernel
theorem dX11_uniqueUpTo_77 : decode cX11_uniqueUpTo 77 = .ok (.goto (-26), 3) := by decide +kernel
theorem dX11_uniqueUpTo_80 : decode cX11_uniqueUpTo 80 = .ok (.aload 6, 2) := by decide +kernel
theorem dX11_uniqueUpTo_82 : decode cX11_uniqueUpTo 82 = .ok (.ifnull 35, 3) := by decide +kernel
theorem dX11_uniqueUpTo_85 : decode cX11_uniqueUpTo 85 = .ok (.aload 5, 2) := by decide +kernel
theorem dX11_uniqueUpTo_87 : decode cX11_uniqueUpTo 87 = .ok (.getfield 85, 3) := by decide +kernel
theorem dX11_uniqueUpTo_90 : decode cX11_uniqueUpTo 90 = .ok (.aload 6, 2) := by decide +kernel
theorem dX11_uniqueUpTo_92 : decode cX11_uniqueUpTo 92 = .ok (.getfield 85, 3) := by decide +kernel
theorem dX11_uniqueUpTo_95 : decode cX11_uniqueUpTo 95 = .ok (.lsub, 1) := by decide +kernel
theorem dX11_uniqueUpTo_96 : decode cX11_uniqueUpTo 96 = .ok (.aload_n 1, 1) := by decide +kernel
theorem dX11_uniqueUpTo_97 : decode cX11_uniqueUpTo 97 = .ok (.getfield 110, 3) := by decide +kernel
theorem dX11_uniqueUpTo_100 : decode cX11_uniqueUpTo 100 = .ok (.i2l, 1) := by decide +kernel
theorem dX11_uniqueUpTo_101 : decode cX11_uniqueUpTo 101 = .ok (.lcmp, 1) := by decide +kernel
theorem dX11_uniqueUpTo_102 : decode cX11_uniqueUpTo 102 = .ok (.ifCond .ge 15, 3) := by decide +kernel
theorem dX11_uniqueUpTo_105 : decode cX11_uniqueUpTo 105 = .ok (.aload_n 0, 1) := by decide +kernel
theorem dX11_uniqueUpTo_106 : decode cX11_uniqueUpTo 106 = .ok (.getfield 22, 3) := by decide +kernel
theorem dX11_uniqueUpTo_109 : decode cX11_uniqueUpTo 109 = .ok (.aload 5, 2) := by decide +kernel
theorem dX11_uniqueUpTo_111 : decode cX11_uniqueUpTo 111 = .ok (.invokevirtual 174, 3) := by decide +kernel
theorem dX11_uniqueUpTo_114 : decode cX11_uniqueUpTo 114 = .ok (.goto 55, 3) := by decide +kernel
theorem dX11_uniqueUpTo_117 : decode cX11_uniqueUpTo 117 = .ok (.aload 6, 2) := by decide +kernel
theorem dX11_uniqueUpTo_119 : decode cX11_uniqueUpTo 119 = .ok (.ifnonnull 31, 3) := by decide +kernel
theorem dX11_uniqueUpTo_122 : decode cX11_uniqueUpTo 122 = .ok (.aload_n 0, 1) := by decide +kernel
theorem dX11_uniqueUpTo_123 : decode cX11_uniqueUpTo 123 = .ok (.getfield 22, 3) := by decide +kernel
theorem dX11_uniqueUpTo_126 : decode cX11_uniqueUpTo 126 = .ok (.invokevirtual 191, 3) := by decide +kernel
theorem dX11_uniqueUpTo_129 : decode cX11_uniqueUpTo 129 = .ok (.astore 6, 2) := by decide +kernel
theorem dX11_uniqueUpTo_131 : decode cX11_uniqueUpTo 131 = .ok (.aload 6, 2) := by decide +kernel
theorem dX11_uniqueUpTo_133 : decode cX11_uniqueUpTo 133 = .ok (.aload 5, 2) := by decide +kernel
theorem dX11_uniqueUpTo_135 : decode cX11_uniqueUpTo 135 = .ok (.getfield 72, 3) := by decide +kernel
theorem dX11_uniqueUpTo_138 : decode cX11_uniqueUpTo 138 = .ok (.putfield 72, 3) := by decide +kernel
theorem dX11_uniqueUpTo_141 : decode cX11_uniqueUpTo 141 = .ok (.aload_n 0, 1) := by decide +kernel
theorem dX11_uniqueUpTo_142 : decode cX11_uniqueUpTo 142 = .ok (.aload_n 1, 1) := by decide +kernel
theorem dX11_uniqueUpTo_143 : decode cX11_uniqueUpTo 143 = .ok (.aload_n 2, 1) := by decide +kernel
theorem dX11_uniqueUpTo_144 : decode cX11_uniqueUpTo 144 = .ok (.iconst 1, 1) := by decide +kernel
theorem dX11_uniqueUpTo_145 : decode cX11_uniqueUpTo 145 = .ok (.aload 6, 2) := by decide +kernel
theorem dX11_uniqueUpTo_147 : decode cX11_uniqueUpTo 147 = .ok (.invokevirtual 95, 3) := by decide +kernel
theorem dX11_uniqueUpTo_150 : decode cX11_uniqueUpTo 150 = .ok (.aload 6, 2) := by decide +kernel
theorem dX11_uniqueUpTo_152 : decode cX11_uniqueUpTo 152 = .ok (.aload 5, 2) := by decide +kernel
theorem dX11_uniqueUpTo_154 : decode cX11_uniqueUpTo 154 = .ok (.getfield 85, 3) := by decide +kernel
theorem dX11_uniqueUpTo_157 : decode cX11_uniqueUpTo 157 = .ok (.putfield 85, 3) := by decide +kernel
theorem dX11_uniqueUpTo_160 : decode cX11_uniqueUpTo 160 = .ok (.aload_n 0, 1) := by decide +kernel
theorem dX11_uniqueUpTo_161 : decode cX11_uniqueUpTo 161 = .ok (.getfield 12, 3) := by decide +kernel
theorem dX11_uniqueUpTo_164 : decode cX11_uniqueUpTo 164 = .ok (.aload 5, 2) := by decide +kernel
theorem dX11_uniqueUpTo_166 : decode cX11_uniqueUpTo 166 = .ok (.invokevirtual 42, 3) := by decide +kernel
theorem dX11_uniqueUpTo_169 : decode cX11_uniqueUpTo 169 = .ok (.aload_n 2, 1) := by decide +kernel
theorem dX11_uniqueUpTo_170 : decode cX11_uniqueUpTo 170 = .ok (.getfield 105, 3) := by decide +kernel
theorem dX11_uniqueUpTo_173 : decode cX11_uniqueUpTo 173 = .ok (.getfield 225, 3) := by decide +kernel
theorem dX11_uniqueUpTo_176 : decode cX11_uniqueUpTo 176 = .ok (.astore 5, 2) := by decide +kernel
theorem dX11_uniqueUpTo_178 : decode cX11_uniqueUpTo 178 = .ok (.goto (-169), 3) := by decide +kernel
theorem dX11_uniqueUpTo_181 : decode cX11_uniqueUpTo 181 = .ok (.aload_n 0, 1) := by decide +kernel
theorem dX11_uniqueUpTo_182 : decode cX11_uniqueUpTo 182 = .ok (.aload_n 2, 1) := by decide +kernel
theorem dX11_uniqueUpTo_183 : decode cX11_uniqueUpTo 183 = .ok (.getfield 117, 3) := by decide +kernel
theorem dX11_uniqueUpTo_186 : decode cX11_uniqueUpTo 186 = .ok (.lload_n 3, 1) := by decide +kernel
theorem dX11_uniqueUpTo_187 : decode cX11_uniqueUpTo 187 = .ok (.lconst 1, 1) := by decide +kernel
theorem dX11_uniqueUpTo_188 : decode cX11_uniqueUpTo 188 = .ok (.ladd, 1) := by decide +kernel
theorem dX11_uniqueUpTo_189 : decode cX11_uniqueUpTo 189 = .ok (.aload_n 1, 1) := by decide +kernel
theorem dX11_uniqueUpTo_190 : decode cX11_uniqueUpTo 190 = .ok (.getfield 110, 3) := by decide +kernel
theorem dX11_uniqueUpTo_193 : decode cX11_uniqueUpTo 193 = .ok (.i2l, 1) := by decide +kernel
theorem dX11_uniqueUpTo_194 : decode cX11_uniqueUpTo 194 = .ok (.lsub, 1) := by decide +kernel
theorem dX11_uniqueUpTo_195 : decode cX11_uniqueUpTo 195 = .ok (.invokevirtual 113, 3) := by decide +kernel
theorem dX11_uniqueUpTo_198 : decode cX11_uniqueUpTo 198 = .ok (.return_, 1) := by decide +kernel
set_option maxRecDepth 20000 in
theorem a_X11_uniqueUpTo_181 {Q : Sg → Unit → Prop} {X : Sg → String → Prop} {th : Nat} (K : MD l R p s m args c cX11_uniqueUpTo 7 RX11 D cA tys A n0 s0 8 135 []) (hQ : CQV p l e R s m args below meth c cX11_uniqueUpTo D cA A n0 s0 QM σi Q) (hX : CX p l e R s m args below meth c 7 D cA A n0 s0 QM σi X) (hTh : CT p l e R s m args below meth c cX11_uniqueUpTo 7 D cA A n0 s0 QM σi RX11 X) : ∀ (σ : Sg) (v1 : Option Nat) (v2 : Option Nat) (v3 : Int64) (g1 : tyV σ 5 v1) (g2 : tyV σ 10 v2), w_X11_uniqueUpTo_181 th Q X σ v1 v2 v3 → RG σ → TY σ → Ext σi σ → kO σ th 11 → JJ p l e R s m args below meth c 7 D cA A n0 s0 QM σ 181 [(0, .ref th), (1, va_rf v1), (2, va_rf v2), (3, .long v3)] [] := by
  intro σ v1 v2 v3 g1 g2 h hGσ hYσ hE hth H locs ls hH hl hc
  have B := K.1
  have hl9 := K.2.2.2.2.2.2
  unfold w_X11_uniqueUpTo_181 at h
  refine lv_aload_n B.1 B.2.1 dX11_uniqueUpTo_181 rfl (lv_at hl 0 rfl) ?_
  refine lv_aload_nQ B.1 B.2.1 dX11_uniqueUpTo_182 rfl (lv_at hl 2 rfl) ?_
  obtain ⟨a69, ea69, h⟩ := h
  have ka69 : kO σ a69 10 := g2 a69 ea69
  have h := h ka69
  refine W.eq (g2 := F0 m 183 ls [.ref a69, .ref th]) (by rw [ea69]; rfl) ?_
  refine f_getp B hH ka69 (by decide) rfl wu_X10 3 (by decide) wf_X11_117 rfl rfl dX11_uniqueUpTo_183 ?_
  refine lv_lload_n B.1 B.2.1 dX11_uniqueUpTo_186 rfl (lv_at hl 3 rfl) ?_
  refine lv_lconst (v := 1) B.1 B.2.1 dX11_uniqueUpTo_187 (by decide) ?_
  refine lv_ladd B.1 B.2.1 dX11_uniqueUpTo_188 ?_
  refine lv_aload_nQ B.1 B.2.1 dX11_uniqueUpTo_189 rfl (lv_at hl 1 rfl) ?_
  obtain ⟨a70, ea70, h⟩ := h
  have ka70 : kO σ a70 5 := g1 a70 ea70
  have h := h ka70
  refine W.eq (g2 := F0 m 190 ls [.ref a70, .long (v3 + 1), va_rf (gP σ a69 3), .ref th]) (by rw [ea70]; rfl) ?_
  refine f_geti B hH ka70 (by decide) rfl wu_X5 16 (by decide) wf_X11_110 rfl rfl dX11_uniqueUpTo_190 ?_
  refine lv_i2l B.1 B.2.1 dX11_uniqueUpTo_193 (i32_i64 (hGσ _ _)) ?_
  refine lv_lsub B.1 B.2.1 dX11_uniqueUpTo_194 ?_
  refine W.eq (g2 := F0 m 195 ls [.long ((v3 + 1) - (Int64.ofInt (gI σ a70 16))), va_rf (gP σ a69 3), .ref th]) (rfl) ?_
  refine c_V B hH hl hc K.2.2.1 (C := RX11) (T := TX11) (N := 6) (ci := 11) (As := [va_rf (gP σ a69 3), .long ((v3 + 1) - (Int64.ofInt (gI σ a70 16)))]) (ok_X11_dropUpTo hl9 K.2.1 σ th (gP σ a69 3) ((v3 + 1) - (Int64.ofInt (gI σ a70 16))) (hYσ.get ka69 (by decide)) hth hGσ hYσ h) wc_X11_113 2 hd_X11_dropUpTo ⟨Nat.le_trans (Nat.le_of_ble_eq_true rfl) K.2.2.2.1, Nat.le_trans (Nat.le_of_ble_eq_true rfl) K.2.2.2.2.1⟩ hth.1 hth.2 (by decide) rfl rfl (rest := []) rfl (Nat.le_of_ble_eq_true rfl) dX11_uniqueUpTo_195 (fun σ71 w hq => ?_) (fun σ9 E9 hx9 => hX σ9 E9 _ _ _ (tb_out K.2.2.2.2.2.1 rfl) hx9.1 hx9.2.1 hx9.2.2.1 (hE.trans hx9.2.2.2))
  obtain ⟨rfl, h, hGσ71, hYσ71, xσ71⟩ := hq
  have h := h xσ71
  intro H locs ls hH hl hc
  refine W.eq (g2 := F0 m 198 ls []) (rfl) ?_
  try dsimp only at h
  exact hQ _ _ _ _ _ dX11_uniqueUpTo_198 hH hc h hGσ71 hYσ71 (hE.trans xσ71)
set_option maxRecDepth 20000 in
theorem a_X11_uniqueUpTo_169 {Q : Sg → Unit → Prop} {X : Sg → String → Prop} {th : Nat} (K : MD l R p s m args c cX11_uniqueUpTo 7 RX11 D cA tys A n0 s0 8 135 []) (hQ : CQV p l e R s m args below meth c cX11_uniqueUpTo D cA A n0 s0 QM σi Q) (hX : CX p l e R s m args below meth c 7 D cA A n0 s0 QM σi X) (hTh : CT p l e R s m args below meth c cX11_uniqueUpTo 7 D cA A n0 s0 QM σi RX11 X) {K9 : Sg → Option Nat → Option Nat → Int64 → Option Nat → Prop} (hK9 : ∀ (σ : Sg) (v1 : Option Nat) (v2 : Option Nat) (v3 : Int64) (v5 : Option Nat) (g1 : tyV σ 5 v1) (g2 : tyV σ 10 v2) (g5 : tyV σ 0 v5), K9 σ v1 v2 v3 v5 → RG σ → TY σ → Ext σi σ → kO σ th 11 → JJ p l e R s m args below meth c 7 D cA A n0 s0 QM σ 9 [(0, .ref th), (1, va_rf v1), (2, va_rf v2), (3, .long v3), (5, va_rf v5)] []) : ∀ (σ : Sg) (v1 : Option Nat) (v2 : Option Nat) (v3 : Int64) (g1 : tyV σ 5 v1) (g2 : tyV σ 10 v2), w_X11_uniqueUpTo_169 th K9 Q X σ v1 v2 v3 → RG σ → TY σ → Ext σi σ → kO σ th 11 → JJ p l e R s m args below meth c 7 D cA A n0 s0 QM σ 169 [(0, .ref th), (1, va_rf v1), (2, va_rf v2), (3, .long v3)] [] := by
  intro σ v1 v2 v3 g1 g2 h hGσ hYσ hE hth H locs ls hH hl hc
  have B := K.1
  have hl9 := K.2.2.2.2.2.2
  unfold w_X11_uniqueUpTo_169 at h
  refine lv_aload_nQ B.1 B.2.1 dX11_uniqueUpTo_169 rfl (lv_at hl 2 rfl) ?_
  obtain ⟨a72, ea72, h⟩ := h
  have ka72 : kO σ a72 10 := g2 a72 ea72
  have h := h ka72
  refine W.eq (g2 := F0 m 170 ls [.ref a72]) (by rw [ea72]; rfl) ?_
  refine f_getp B hH ka72 (by decide) rfl wu_X10 2 (by decide) wf_X11_105 rfl rfl dX11_uniqueUpTo_170 ?_
  obtain ⟨a73, ea73, h⟩ := h
  have ka73 : kO σ a73 1 := (hYσ.get ka72 (by decide)) a73 ea73
  have h := h ka73
  refine W.eq (g2 := F0 m 173 ls [.ref a73]) (by rw [ea73]; rfl) ?_
  refine f_getp B hH ka73 (by decide) rfl wu_X1 0 (by decide) wf_X11_225 rfl rfl dX11_uniqueUpTo_173 ?_
  refine lv_astoreQ (lv' := [(5, va_rf (gP σ a73 0)), (0, .ref th), (1, va_rf v1), (2, va_rf v2), (3, .long v3)]) B.1 B.2.1 dX11_uniqueUpTo_176 hl (by decide) rfl (fun ls hl => ?_)
  refine lv_goto (tgt := 9) B.1 B.2.1 dX11_uniqueUpTo_178 (by decide) ?_
  exact hK9 _ _ _ _ _ g1 g2 (hYσ.get ka73 (by decide)) h hGσ hYσ hE hth _ _ _ hH (lv_sub (l' := [(0, .ref th), (1, va_rf v1), (2, va_rf v2), (3, .long v3), (5, va_rf (gP σ a73 0))]) hl [1, 2, 3, 4, 0] rfl) hc
set_option maxRecDepth 20000 in
theorem a_X11_uniqueUpTo_150 {Q : Sg → Unit → Prop} {X : Sg → String → Prop} {th : Nat} (K : MD l R p s m args c cX11_uniqueUpTo 7 RX11 D cA tys A n0 s0 8 135 []) (hQ : CQV p l e R s m args below meth c cX11_uniqueUpTo D cA A n0 s0 QM σi Q) (hX : CX p l e R s m args below meth c 7 D cA A n0 s0 QM σi X) (hTh : CT p l e R s m args below meth c cX11_uniqueUpTo 7 D cA A n0 s0 QM σi RX11 X) {K9 : Sg → Option Nat → Option Nat → Int64 → Option Nat → Prop} (hK9 : ∀ (σ : Sg) (v1 : Option Nat) (v2 : Option Nat) (v3 : Int64) (v5 : Option Nat) (g1 : tyV σ 5 v1) (g2 : tyV σ 10 v2) (g5 : tyV σ 0 v5), K9 σ v1 v2 v3 v5 → RG σ → TY σ → Ext σi σ → kO σ th 11 → JJ p l e R s m args below meth c 7 D cA A n0 s0 QM σ 9 [(0, .ref th), (1, va_rf v1), (2, va_rf v2), (3, .long v3), (5, va_rf v5)] []) : ∀ (σ : Sg) (v1 : Option Nat) (v2 : Option Nat) (v3 : Int64) (v5 : Option Nat) (v6 : Option Nat) (g1 : tyV σ 5 v1) (g2 : tyV σ 10 v2) (g5 : tyV σ 0 v5) (g6 : tyV σ 0 v6), w_X11_uniqueUpTo_150 th K9 Q X σ v1 v2 v3 v5 v6 → RG σ → TY σ → Ext σi σ → kO σ th 11 → JJ p l e R s m args below meth c 7 D cA A n0 s0 QM σ 150 [(0, .ref th), (1, va_rf v1), (2, va_rf v2), (3, .long v3), (5, va_rf v5), (6, va_rf v6)] [] := by
  intro σ v1 v2 v3 v5 v6 g1 g2 g5 g6 h hGσ hYσ hE hth H locs ls hH hl hc
  have B := K.1
  have hl9 := K.2.2.2.2.2.2
  unfold w_X11_uniqueUpTo_150 at h
  refine lv_aloadQ B.1 B.2.1 dX11_uniqueUpTo_150 (lv_at hl 5 rfl) ?_
  refine lv_aloadQ B.1 B.2.1 dX11_uniqueUpTo_152 (lv_at hl 4 rfl) ?_
  obtain ⟨a74, ea74, h⟩ := h
  have ka74 : kO σ a74 0 := g5 a74 ea74
  have h := h ka74
  refine W.eq (g2 := F0 m 154 ls [.ref a74, va_rf v6]) (by rw [ea74]; rfl) ?_
  refine f_getl B hH ka74 (by decide) rfl wu_X0 5 (by decide) wf_X11_85 rfl rfl dX11_uniqueUpTo_154 ?_
  obtain ⟨a75, ea75, h⟩ := h
  have ka75 : kO σ a75 0 := g6 a75 ea75
  have h := h ka75
  obtain ⟨σ76, eσ76⟩ : ∃ z, z = pJ σ a75 5 (gJ σ a74 5) := ⟨_, rfl⟩
  have h := h σ76 eσ76
  refine W.eq (g2 := F0 m 157 ls [.long (gJ σ a74 5), .ref a75]) (by rw [ea75]; rfl) ?_
  refine f_putl B hH ka75 (by decide) rfl wu_X0 tyX0 tyX0_ok nmX0 5 (by decide) wf_X11_85 rfl (ty := .long) rfl rfl rfl rfl rfl dX11_uniqueUpTo_157 (fun H locs hH => ?_)
  have hH : Hd D cA A s (pJ σ a75 5 (gJ σ a74 5)) H locs := hH
  rw [← eσ76] at hH
  have hGσ76 : RG σ76 := by rw [eσ76]; exact hGσ.pJ
  have hYσ76 : TY σ76 := by rw [eσ76]; exact hYσ.pJ
  have xσ76 : Ext σ σ76 := by rw [eσ76]; exact Ext.pJ
  have hc : CB n0 s0 σ76 := by rw [eσ76]; exact hc
  rw [show gc σ = gc σ76 by rw [eσ76]; try rfl, show gs σ = gs σ76 by rw [eσ76]; try rfl]
  refine lv_aload_n B.1 B.2.1 dX11_uniqueUpTo_160 rfl (lv_at hl 0 rfl) ?_
  refine f_getp B hH (hth.up xσ76) (by decide) rfl wu_X11 2 (by decide) wf_X11_12 rfl rfl dX11_uniqueUpTo_161 ?_
  refine lv_aloadQ B.1 B.2.1 dX11_uniqueUpTo_164 (lv_at hl 4 rfl) ?_
  obtain ⟨a78, ea78, h⟩ := h
  have ka78 : kO σ76 a78 1 := (hYσ76.get (hth.up xσ76) (by decide)) a78 ea78
  have h := h ka78
  refine W.eq (g2 := F0 m 166 ls [va_rf v5, .ref a78]) (by rw [ea78]; rfl) ?_
  refine c_V B hH hl hc K.2.2.1 (C := RX1) (T := TX1) (N := 3) (ci := 1) (As := [va_rf v5]) (ok_X1_add hl9 K.2.1 σ76 a78 v5 (g5.up xσ76) ka78 hGσ76 hYσ76 h) wc_X11_42 1 hd_X1_add ⟨Nat.le_trans (Nat.le_of_ble_eq_true rfl) K.2.2.2.1, Nat.le_trans (Nat.le_of_ble_eq_true rfl) K.2.2.2.2.1⟩ ka78.1 ka78.2 (by decide) rfl rfl (rest := []) rfl (Nat.le_of_ble_eq_true rfl) dX11_uniqueUpTo_166 (fun σ77 w hq => ?_) (fun σ9 E9 hx9 => hX σ9 E9 _ _ _ (tb_out K.2.2.2.2.2.1 rfl) hx9.1 hx9.2.1 hx9.2.2.1 ((hE.trans xσ76).trans hx9.2.2.2))
  obtain ⟨rfl, h, hGσ77, hYσ77, xσ77⟩ := hq
  have h := h xσ77
  intro H locs ls hH hl hc
  refine W.eq (g2 := F0 m 169 ls []) (rfl) ?_
  try dsimp only at h
  exact a_X11_uniqueUpTo_169 K hQ hX hTh hK9 _ _ _ _ (g1.up (xσ76.trans xσ77)) (g2.up (xσ76.trans xσ77)) h hGσ77 hYσ77 ((hE.trans xσ76).trans xσ77) (hth.up (xσ76.trans xσ77)) _ _ _ hH (lv_sub (l' := [(0, .ref th), (1, va_rf v1), (2, va_rf v2), (3, .long v3)]) hl [0, 1, 2, 3] rfl) hc
set_option maxRecDepth 20000 in
theorem a_X11_uniqueUpTo_122 {Q : Sg → Unit → Prop} {X : Sg → String → Prop} {th : Nat} (K : MD l R p s m args c cX11_uniqueUpTo 7 RX11 D cA tys A n0 s0 8 135 []) (hQ : CQV p l e R s m args below meth c cX11_uniqueUpTo D cA A n0 s0 QM σi Q) (hX : CX p l e R s m args below meth c 7 D cA A n0 s0 QM σi X) (hTh : CT p l e R s m args below meth c cX11_uniqueUpTo 7 D cA A n0 s0 QM σi RX11 X) {K9 : Sg → Option Nat → Option Nat → Int64 → Option Nat → Prop} (hK9 : ∀ (σ : Sg) (v1 : Option Nat) (v2 : Option Nat) (v3 : Int64) (v5 : Option Nat) (g1 : tyV σ 5 v1) (g2 : tyV σ 10 v2) (g5 : tyV σ 0 v5), K9 σ v1 v2 v3 v5 → RG σ → TY σ → Ext σi σ → kO σ th 11 → JJ p l e R s m args below meth c 7 D cA A n0 s0 QM σ 9 [(0, .ref th), (1, va_rf v1), (2, va_rf v2), (3, .long v3), (5, va_rf v5)] []) : ∀ (σ : Sg) (v1 : Option Nat) (v2 : Option Nat) (v3 : Int64) (v5 : Option Nat) (g1 : tyV σ 5 v1) (g2 : tyV σ 10 v2) (g5 : tyV σ 0 v5), w_X11_uniqueUpTo_122 th K9 Q X σ v1 v2 v3 v5 → RG σ → TY σ → Ext σi σ → kO σ th 11 → JJ p l e R s m args below meth c 7 D cA A n0 s0 QM σ 122 [(0, .ref th), (1, va_rf v1), (2, va_rf v2), (3, .long v3), (5, va_rf v5)] [] := by
  intro σ v1 v2 v3 v5 g1 g2 g5 h hGσ hYσ hE hth H locs ls hH hl hc
  have B := K.1
  have hl9 := K.2.2.2.2.2.2
  unfold w_X11_uniqueUpTo_122 at h
  refine lv_aload_n B.1 B.2.1 dX11_uniqueUpTo_122 rfl (lv_at hl 0 rfl) ?_
  refine f_getp B hH hth (by decide) rfl wu_X11 0 (by decide) wf_X11_22 rfl rfl dX11_uniqueUpTo_123 ?_
  obtain ⟨a81, ea81, h⟩ := h
  have ka81 : kO σ a81 8 := (hYσ.get hth (by decide)) a81 ea81
  have h := h ka81
  refine W.eq (g2 := F0 m 126 ls [.ref a81]) (by rw [ea81]; rfl) ?_
  refine c_V B hH hl hc K.2.2.1 (C := RX8) (T := TX8) (N := 3) (ci := 8) (As := []) (ok_X8_fresh hl9 K.2.1 σ a81 ka81 hGσ hYσ h) wc_X11_191 0 hd_X8_fresh ⟨Nat.le_trans (Nat.le_of_ble_eq_true rfl) K.2.2.2.1, Nat.le_trans (Nat.le_of_ble_eq_true rfl) K.2.2.2.2.1⟩ ka81.1 ka81.2 (by decide) rfl rfl (rest := []) rfl (Nat.le_of_ble_eq_true rfl) dX11_uniqueUpTo_126 (fun σ79 w hq => ?_) (fun σ9 E9 hx9 => hX σ9 E9 _ _ _ (tb_out K.2.2.2.2.2.1 rfl) hx9.1 hx9.2.1 hx9.2.2.1 (hE.trans hx9.2.2.2))
  obtain ⟨r80, rfl, tr80, h, hGσ79, hYσ79, xσ79⟩ := hq
  have h := h xσ79 tr80
  intro H locs ls hH hl hc
  refine W.eq (g2 := F0 m 129 ls [va_rf r80]) (rfl) ?_
  try dsimp only at h
  refine lv_astoreQ (lv' := [(6, va_rf r80), (0, .ref th), (1, va_rf v1), (2, va_rf v2), (3, .long v3), (5, va_rf v5)]) B.1 B.2.1 dX11_uniqueUpTo_129 hl (by decide) (by generalize v5 = w9; cases w9 <;> rfl) (fun ls hl => ?_)
  refine lv_aloadQ B.1 B.2.1 dX11_uniqueUpTo_131 (lv_at hl 0 rfl) ?_
  refine lv_aloadQ B.1 B.2.1 dX11_uniqueUpTo_133 (lv_at hl 5 rfl) ?_
  obtain ⟨a82, ea82, h⟩ := h
  have ka82 : kO σ79 a82 0 := (g5.up xσ79) a82 ea82
  have h := h ka82
  refine W.eq (g2 := F0 m 135 ls [.ref a82, va_rf r80]) (by rw [ea82]; rfl) ?_
  refine f_getl B hH ka82 (by decide) rfl wu_X0 7 (by decide) wf_X11_72 rfl rfl dX11_uniqueUpTo_135 ?_
  obtain ⟨a83, ea83, h⟩ := h
  have ka83 : kO σ79 a83 0 := tr80 a83 ea83
  have h := h ka83
  obtain ⟨σ84, eσ84⟩ : ∃ z, z = pJ σ79 a83 7 (gJ σ79 a82 7) := ⟨_, rfl⟩
  have h := h σ84 eσ84
  refine W.eq (g2 := F0 m 138 ls [.long (gJ σ79 a82 7), .ref a83]) (by rw [ea83]; rfl) ?_
  refine f_putl B hH ka83 (by decide) rfl wu_X0 tyX0 tyX0_ok nmX0 7 (by decide) wf_X11_72 rfl (ty := .long) rfl rfl rfl rfl rfl dX11_uniqueUpTo_138 (fun H locs hH => ?_)
  have hH : Hd D cA A s (pJ σ79 a83 7 (gJ σ79 a82 7)) H locs := hH
  rw [← eσ84] at hH
  have hGσ84 : RG σ84 := by rw [eσ84]; exact hGσ79.pJ
  have hYσ84 : TY σ84 := by rw [eσ84]; exact hYσ79.pJ
  have xσ84 : Ext σ79 σ84 := by rw [eσ84]; exact Ext.pJ
  have hc : CB n0 s0 σ84 := by rw [eσ84]; exact hc
  rw [show gc σ79 = gc σ84 by rw [eσ84]; try rfl, show gs σ79 = gs σ84 by rw [eσ84]; try rfl]
  refine lv_aload_n B.1 B.2.1 dX11_uniqueUpTo_141 rfl (lv_at hl 1 rfl) ?_
  refine lv_aload_nQ B.1 B.2.1 dX11_uniqueUpTo_142 rfl (lv_at hl 2 rfl) ?_
  refine lv_aload_nQ B.1 B.2.1 dX11_uniqueUpTo_143 rfl (lv_at hl 3 rfl) ?_
  refine lv_iconst (v := i32 1) B.1 B.2.1 dX11_uniqueUpTo_144 (by decide) ?_
  refine lv_aloadQ B.1 B.2.1 dX11_uniqueUpTo_145 (lv_at hl 0 rfl) ?_
  refine W.eq (g2 := F0 m 147 ls [va_rf r80, .int (i32 1), va_rf v2, va_rf v1, .ref th]) (rfl) ?_
  refine c_V B hH hl hc K.2.2.1 (C := RX11) (T := TX11) (N := 6) (ci := 11) (As := [va_rf v1, va_rf v2, .int (i32 1), va_rf r80]) (ok_X11_keep hl9 K.2.1 σ84 th v1 v2 1 r80 (g1.up (xσ79.trans xσ84)) (g2.up (xσ79.trans xσ84)) (by unfold rng; omega) (tr80.up xσ84) (hth.up (xσ79.trans xσ84)) hGσ84 hYσ84 h) wc_X11_95 4 hd_X11_keep ⟨Nat.le_trans (Nat.le_of_ble_eq_true rfl) K.2.2.2.1, Nat.le_trans (Nat.le_of_ble_eq_true rfl) K.2.2.2.2.1⟩ (hth.up (xσ79.trans xσ84)).1 (hth.up (xσ79.trans xσ84)).2 (by decide) rfl rfl (rest := []) rfl (Nat.le_of_ble_eq_true rfl) dX11_uniqueUpTo_147 (fun σ85 w hq => ?_) (fun σ9 E9 hx9 => hX σ9 E9 _ _ _ (tb_out K.2.2.2.2.2.1 rfl) hx9.1 hx9.2.1 hx9.2.2.1 (((hE.trans xσ79).trans xσ84).trans hx9.2.2.2))
  obtain ⟨rfl, h, hGσ85, hYσ85, xσ85⟩ := hq
  have h := h xσ85
  intro H locs ls hH hl hc
  refine W.eq (g2 := F0 m 150 ls []) (rfl) ?_
  try dsimp only at h
  exact a_X11_uniqueUpTo_150 K hQ hX hTh hK9 _ _ _ _ _ _ (g1.up (xσ79.trans (xσ84.trans xσ85))) (g2.up (xσ79.trans (xσ84.trans xσ85))) (g5.up (xσ79.trans (xσ84.trans xσ85))) (tr80.up (xσ84.trans xσ85)) h hGσ85 hYσ85 (((hE.trans xσ79).trans xσ84).trans xσ85) (hth.up (xσ79.trans (xσ84.trans xσ85))) _ _ _ hH (lv_sub (l' := [(0, .ref th), (1, va_rf v1), (2, va_rf v2), (3, .long v3), (5, va_rf v5), (6, va_rf r80)]) hl [1, 2, 3, 4, 5, 0] rfl) hc
set_option maxRecDepth 20000 in
theorem a_X11_uniqueUpTo_117 {Q : Sg → Unit → Prop} {X : Sg → String → Prop} {th : Nat} (K : MD l R p s m args c cX11_uniqueUpTo 7 RX11 D cA tys A n0 s0 8 135 []) (hQ : CQV p l e R s m args below meth c cX11_uniqueUpTo D cA A n0 s0 QM σi Q) (hX : CX p l e R s m args below meth c 7 D cA A n0 s0 QM σi X) (hTh : CT p l e R s m args below meth c cX11_uniqueUpTo 7 D cA A n0 s0 QM σi RX11 X) {K9 : Sg → Option Nat → Option Nat → Int64 → Option Nat → Prop} (hK9 : ∀ (σ : Sg) (v1 : Option Nat) (v2 : Option Nat) (v3 : Int64) (v5 : Option Nat) (g1 : tyV σ 5 v1) (g2 : tyV σ 10 v2) (g5 : tyV σ 0 v5), K9 σ v1 v2 v3 v5 → RG σ → TY σ → Ext σi σ → kO σ th 11 → JJ p l e R s m args below meth c 7 D cA A n0 s0 QM σ 9 [(0, .ref th), (1, va_rf v1), (2, va_rf v2), (3, .long v3), (5, va_rf v5)] []) : ∀ (σ : Sg) (v1 : Option Nat) (v2 : Option Nat) (v3 : Int64) (v5 : Option Nat) (v6 : Option Nat) (g1 : tyV σ 5 v1) (g2 : tyV σ 10 v2) (g5 : tyV σ 0 v5) (g6 : tyV σ 0 v6), w_X11_uniqueUpTo_117 th K9 Q X σ v1 v2 v3 v5 v6 → RG σ → TY σ → Ext σi σ → kO σ th 11 → JJ p l e R s m args below meth c 7 D cA A n0 s0 QM σ 117 [(0, .ref th), (1, va_rf v1), (2, va_rf v2), (3, .long v3), (5, va_rf v5), (6, va_rf v6)] [] := by
  intro σ v1 v2 v3 v5 v6 g1 g2 g5 g6 h hGσ hYσ hE hth H locs ls hH hl hc
  have B := K.1
  have hl9 := K.2.2.2.2.2.2
  unfold w_X11_uniqueUpTo_117 at h
  refine lv_aloadQ B.1 B.2.1 dX11_uniqueUpTo_117 (lv_at hl 5 rfl) ?_
  refine lv_ifnonnullQ (tgt := 150) B.1 B.2.1 dX11_uniqueUpTo_119 (by decide) (fun h9 => ?_) (fun h9 => ?_)
  · rw [if_pos (h9)] at h
    exact a_X11_uniqueUpTo_150 K hQ hX hTh hK9 _ _ _ _ _ _ g1 g2 g5 g6 h hGσ hYσ hE hth _ _ _ hH (lv_sub (l' := [(0, .ref th), (1, va_rf v1), (2, va_rf v2), (3, .long v3), (5, va_rf v5), (6, va_rf v6)]) hl [0, 1, 2, 3, 4, 5] rfl) hc
  · rw [if_neg (h9)] at h
    exact a_X11_uniqueUpTo_122 K hQ hX hTh hK9 _ _ _ _ _ g1 g2 g5 h hGσ hYσ hE hth _ _ _ hH (lv_sub (l' := [(0, .ref th), (1, va_rf v1), (2, va_rf v2), (3, .long v3), (5, va_rf v5)]) hl [0, 1, 2, 3, 4] rfl) hc
set_option maxRecDepth 20000 in
theorem a_X11_uniqueUpTo_105 {Q : Sg → Unit → Prop} {X : Sg → String → Prop} {th : Nat} (K : MD l R p s m args c cX11_uniqueUpTo 7 RX11 D cA tys A n0 s0 8 135 []) (hQ : CQV p l e R s m args below meth c cX11_uniqueUpTo D cA A n0 s0 QM σi Q) (hX : CX p l e R s m args below meth c 7 D cA A n0 s0 QM σi X) (hTh : CT p l e R s m args below meth c cX11_uniqueUpTo 7 D cA A n0 s0 QM σi RX11 X) {K9 : Sg → Option Nat → Option Nat → Int64 → Option Nat → Prop} (hK9 : ∀ (σ : Sg) (v1 : Option Nat) (v2 : Option Nat) (v3 : Int64) (v5 : Option Nat) (g1 : tyV σ 5 v1) (g2 : tyV σ 10 v2) (g5 : tyV σ 0 v5), K9 σ v1 v2 v3 v5 → RG σ → TY σ → Ext σi σ → kO σ th 11 → JJ p l e R s m args below meth c 7 D cA A n0 s0 QM σ 9 [(0, .ref th), (1, va_rf v1), (2, va_rf v2), (3, .long v3), (5, va_rf v5)] []) : ∀ (σ : Sg) (v1 : Option Nat) (v2 : Option Nat) (v3 : Int64) (v5 : Option Nat) (g1 : tyV σ 5 v1) (g2 : tyV σ 10 v2) (g5 : tyV σ 0 v5), w_X11_uniqueUpTo_105 th K9 Q X σ v1 v2 v3 v5 → RG σ → TY σ → Ext σi σ → kO σ th 11 → JJ p l e R s m args below meth c 7 D cA A n0 s0 QM σ 105 [(0, .ref th), (1, va_rf v1), (2, va_rf v2), (3, .long v3), (5, va_rf v5)] [] := by
  intro σ v1 v2 v3 v5 g1 g2 g5 h hGσ hYσ hE hth H locs ls hH hl hc
  have B := K.1
  have hl9 := K.2.2.2.2.2.2
  unfold w_X11_uniqueUpTo_105 at h
  refine lv_aload_n B.1 B.2.1 dX11_uniqueUpTo_105 rfl (lv_at hl 0 rfl) ?_
  refine f_getp B hH hth (by decide) rfl wu_X11 0 (by decide) wf_X11_22 rfl rfl dX11_uniqueUpTo_106 ?_
  refine lv_aloadQ B.1 B.2.1 dX11_uniqueUpTo_109 (lv_at hl 4 rfl) ?_
  obtain ⟨a87, ea87, h⟩ := h
  have ka87 : kO σ a87 8 := (hYσ.get hth (by decide)) a87 ea87
  have h := h ka87
  refine W.eq (g2 := F0 m 111 ls [va_rf v5, .ref a87]) (by rw [ea87]; rfl) ?_
  refine c_V B hH hl hc K.2.2.1 (C := RX8) (T := TX8) (N := 3) (ci := 8) (As := [va_rf v5]) (ok_X8_release hl9 K.2.1 σ a87 v5 g5 ka87 hGσ hYσ h) wc_X11_174 1 hd_X8_release ⟨Nat.le_trans (Nat.le_of_ble_eq_true rfl) K.2.2.2.1, Nat.le_trans (Nat.le_of_ble_eq_true rfl) K.2.2.2.2.1⟩ ka87.1 ka87.2 (by decide) rfl rfl (rest := []) rfl (Nat.le_of_ble_eq_true rfl) dX11_uniqueUpTo_111 (fun σ86 w hq => ?_) (fun σ9 E9 hx9 => hX σ9 E9 _ _ _ (tb_out K.2.2.2.2.2.1 rfl) hx9.1 hx9.2.1 hx9.2.2.1 (hE.trans hx9.2.2.2))
  obtain ⟨rfl, h, hGσ86, hYσ86, xσ86⟩ := hq
  have h := h xσ86
  intro H locs ls hH hl hc
  refine W.eq (g2 := F0 m 114 ls []) (rfl) ?_
  try dsimp only at h
  refine lv_goto (tgt := 169) B.1 B.2.1 dX11_uniqueUpTo_114 (by decide) ?_
  exact a_X11_uniqueUpTo_169 K hQ hX hTh hK9 _ _ _ _ (g1.up xσ86) (g2.up xσ86) h hGσ86 hYσ86 (hE.trans xσ86) (hth.up xσ86) _ _ _ hH (lv_sub (l' := [(0, .ref th), (1, va_rf v1), (2, va_rf v2), (3, .long v3)]) hl [0, 1, 2, 3] rfl) hc
set_option maxRecDepth 20000 in
theorem a_X11_uniqueUpTo_85 {Q : Sg → Unit → Prop} {X : Sg → String → Prop} {th : Nat} (K : MD l R p s m args c cX11_uniqueUpTo 7 RX11 D cA tys A n0 s0 8 135 []) (hQ : CQV p l e R s m args below meth c cX11_uniqueUpTo D cA A n0 s0 QM σi Q) (hX : CX p l e R s m args below meth c 7 D cA A n0 s0 QM σi X) (hTh : CT p l e R s m args below meth c cX11_uniqueUpTo 7 D cA A n0 s0 QM σi RX11 X) {K9 : Sg → Option Nat → Option Nat → Int64 → Option Nat → Prop} (hK9 : ∀ (σ : Sg) (v1 : Option Nat) (v2 : Option Nat) (v3 : Int64) (v5 : Option Nat) (g1 : tyV σ 5 v1) (g2 : tyV σ 10 v2) (g5 : tyV σ 0 v5), K9 σ v1 v2 v3 v5 → RG σ → TY σ → Ext σi σ → kO σ th 11 → JJ p l e R s m args below meth c 7 D cA A n0 s0 QM σ 9 [(0, .ref th), (1, va_rf v1), (2, va_rf v2), (3, .long v3), (5, va_rf v5)] []) : ∀ (σ : Sg) (v1 : Option Nat) (v2 : Option Nat) (v3 : Int64) (v5 : Option Nat) (v6 : Option Nat) (g1 : tyV σ 5 v1) (g2 : tyV σ 10 v2) (g5 : tyV σ 0 v5) (g6 : tyV σ 0 v6), w_X11_uniqueUpTo_85 th K9 Q X σ v1 v2 v3 v5 v6 → RG σ → TY σ → Ext σi σ → kO σ th 11 → JJ p l e R s m args below meth c 7 D cA A n0 s0 QM σ 85 [(0, .ref th), (1, va_rf v1), (2, va_rf v2), (3, .long v3), (5, va_rf v5), (6, va_rf v6)] [] := by
  intro σ v1 v2 v3 v5 v6 g1 g2 g5 g6 h hGσ hYσ hE hth H locs ls hH hl hc
  have B := K.1
  have hl9 := K.2.2.2.2.2.2
  unfold w_X11_uniqueUpTo_85 at h
  refine lv_aloadQ B.1 B.2.1 dX11_uniqueUpTo_85 (lv_at hl 4 rfl) ?_
  obtain ⟨a88, ea88, h⟩ := h
  have ka88 : kO σ a88 0 := g5 a88 ea88
  have h := h ka88
  refine W.eq (g2 := F0 m 87 ls [.ref a88]) (by rw [ea88]; rfl) ?_
  refine f_getl B hH ka88 (by decide) rfl wu_X0 5 (by decide) wf_X11_85 rfl rfl dX11_uniqueUpTo_87 ?_
  refine lv_aloadQ B.1 B.2.1 dX11_uniqueUpTo_90 (lv_at hl 5 rfl) ?_
  obtain ⟨a89, ea89, h⟩ := h
  have ka89 : kO σ a89 0 := g6 a89 ea89
  have h := h ka89
  refine W.eq (g2 := F0 m 92 ls [.ref a89, .long (gJ σ a88 5)]) (by rw [ea89]; rfl) ?_
  refine f_getl B hH ka89 (by decide) rfl wu_X0 5 (by decide) wf_X11_85 rfl rfl dX11_uniqueUpTo_92 ?_
  refine lv_lsub B.1 B.2.1 dX11_uniqueUpTo_95 ?_
  refine lv_aload_nQ B.1 B.2.1 dX11_uniqueUpTo_96 rfl (lv_at hl 1 rfl) ?_
  obtain ⟨a90, ea90, h⟩ := h
  have ka90 : kO σ a90 5 := g1 a90 ea90
  have h := h ka90
  refine W.eq (g2 := F0 m 97 ls [.ref a90, .long (gJ σ a88 5 - gJ σ a89 5)]) (by rw [ea90]; rfl) ?_
  refine f_geti B hH ka90 (by decide) rfl wu_X5 16 (by decide) wf_X11_110 rfl rfl dX11_uniqueUpTo_97 ?_
  refine lv_i2l B.1 B.2.1 dX11_uniqueUpTo_100 (i32_i64 (hGσ _ _)) ?_
  refine W.lcmp B.1 B.2.1 dX11_uniqueUpTo_101 ?_
  refine lv_if_ge (tgt := 117) B.1 B.2.1 dX11_uniqueUpTo_102 (by decide) (fun h9 => ?_) (fun h9 => ?_)
  · rw [if_pos ((lg_cmp_ge _ _).mp h9)] at h
    exact a_X11_uniqueUpTo_117 K hQ hX hTh hK9 _ _ _ _ _ _ g1 g2 g5 g6 h hGσ hYσ hE hth _ _ _ hH (lv_sub (l' := [(0, .ref th), (1, va_rf v1), (2, va_rf v2), (3, .long v3), (5, va_rf v5), (6, va_rf v6)]) hl [0, 1, 2, 3, 4, 5] rfl) hc
  · rw [if_neg (fun q => h9 ((lg_cmp_ge _ _).mpr q))] at h
    exact a_X11_uniqueUpTo_105 K hQ hX hTh hK9 _ _ _ _ _ g1 g2 g5 h hGσ hYσ hE hth _ _ _ hH (lv_sub (l' := [(0, .ref th), (1, va_rf v1), (2, va_rf v2), (3, .long v3), (5, va_rf v5)]) hl [0, 1, 2, 3, 4] rfl) hc
set_option maxRecDepth 20000 in
theorem a_X11_uniqueUpTo_80 {Q : Sg → Unit → Prop} {X : Sg → String → Prop} {th : Nat} (K : MD l R p s m args c cX11_uniqueUpTo 7 RX11 D cA tys A n0 s0 8 135 []) (hQ : CQV p l e R s m args below meth c cX11_uniqueUpTo D cA A n0 s0 QM σi Q) (hX : CX p l e R s m args below meth c 7 D cA A n0 s0 QM σi X) (hTh : CT p l e R s m args below meth c cX11_uniqueUpTo 7 D cA A n0 s0 QM σi RX11 X) {K9 : Sg → Option Nat → Option Nat → Int64 → Option Nat → Prop} (hK9 : ∀ (σ : Sg) (v1 : Option Nat) (v2 : Option Nat) (v3 : Int64) (v5 : Option Nat) (g1 : tyV σ 5 v1) (g2 : tyV σ 10 v2) (g5 : tyV σ 0 v5), K9 σ v1 v2 v3 v5 → RG σ → TY σ → Ext σi σ → kO σ th 11 → JJ p l e R s m args below meth c 7 D cA A n0 s0 QM σ 9 [(0, .ref th), (1, va_rf v1), (2, va_rf v2), (3, .long v3), (5, va_rf v5)] []) : ∀ (σ : Sg) (v1 : Option Nat) (v2 : Option Nat) (v3 : Int64) (v5 : Option Nat) (v6 : Option Nat) (g1 : tyV σ 5 v1) (g2 : tyV σ 10 v2) (g5 : tyV σ 0 v5) (g6 : tyV σ 0 v6), w_X11_uniqueUpTo_80 th K9 Q X σ v1 v2 v3 v5 v6 → RG σ → TY σ → Ext σi σ → kO σ th 11 → JJ p l e R s m args below meth c 7 D cA A n0 s0 QM σ 80 [(0, .ref th), (1, va_rf v1), (2, va_rf v2), (3, .long v3), (5, va_rf v5), (6, va_rf v6)] [] := by
  intro σ v1 v2 v3 v5 v6 g1 g2 g5 g6 h hGσ hYσ hE hth H locs ls hH hl hc
  have B := K.1
  have hl9 := K.2.2.2.2.2.2
  unfold w_X11_uniqueUpTo_80 at h
  refine lv_aloadQ B.1 B.2.1 dX11_uniqueUpTo_80 (lv_at hl 5 rfl) ?_
  refine lv_ifnullQ (tgt := 117) B.1 B.2.1 dX11_uniqueUpTo_82 (by decide) (fun h9 => ?_) (fun h9 => ?_)
  · rw [if_pos (h9)] at h
    exact a_X11_uniqueUpTo_117 K hQ hX hTh hK9 _ _ _ _ _ _ g1 g2 g5 g6 h hGσ hYσ hE hth _ _ _ hH (lv_sub (l' := [(0, .ref th), (1, va_rf v1), (2, va_rf v2), (3, .long v3), (5, va_rf v5), (6, va_rf v6)]) hl [0, 1, 2, 3, 4, 5] rfl) hc
  · rw [if_neg (h9)] at h
    exact a_X11_uniqueUpTo_85 K hQ hX hTh hK9 _ _ _ _ _ _ g1 g2 g5 g6 h hGσ hYσ hE hth _ _ _ hH (lv_sub (l' := [(0, .ref th), (1, va_rf v1), (2, va_rf v2), (3, .long v3), (5, va_rf v5), (6, va_rf v6)]) hl [0, 1, 2, 3, 4, 5] rfl) hc
set_option maxRecDepth 20000 in
theorem a_X11_uniqueUpTo_70 {Q : Sg → Unit → Prop} {X : Sg → String → Prop} {th : Nat} (K : MD l R p s m args c cX11_uniqueUpTo 7 RX11 D cA tys A n0 s0 8 135 []) (hQ : CQV p l e R s m args below meth c cX11_uniqueUpTo D cA A n0 s0 QM σi Q) (hX : CX p l e R s m args below meth c 7 D cA A n0 s0 QM σi X) (hTh : CT p l e R s m args below meth c cX11_uniqueUpTo 7 D cA A n0 s0 QM σi RX11 X) {K9 : Sg → Option Nat → Option Nat → Int64 → Option Nat → Prop} (hK9 : ∀ (σ : Sg) (v1 : Option Nat) (v2 : Option Nat) (v3 : Int64) (v5 : Option Nat) (g1 : tyV σ 5 v1) (g2 : tyV σ 10 v2) (g5 : tyV σ 0 v5), K9 σ v1 v2 v3 v5 → RG σ → TY σ → Ext σi σ → kO σ th 11 → JJ p l e R s m args below meth c 7 D cA A n0 s0 QM σ 9 [(0, .ref th), (1, va_rf v1), (2, va_rf v2), (3, .long v3), (5, va_rf v5)] []) {K51 : Sg → Option Nat → Option Nat → Int64 → Option Nat → Option Nat → Prop} (hK51 : ∀ (σ : Sg) (v1 : Option Nat) (v2 : Option Nat) (v3 : Int64) (v5 : Option Nat) (v6 : Option Nat) (g1 : tyV σ 5 v1) (g2 : tyV σ 10 v2) (g5 : tyV σ 0 v5) (g6 : tyV σ 0 v6), K51 σ v1 v2 v3 v5 v6 → RG σ → TY σ → Ext σi σ → kO σ th 11 → JJ p l e R s m args below meth c 7 D cA A n0 s0 QM σ 51 [(0, .ref th), (1, va_rf v1), (2, va_rf v2), (3, .long v3), (5, va_rf v5), (6, va_rf v6)] []) : ∀ (σ : Sg) (v1 : Option Nat) (v2 : Option Nat) (v3 : Int64) (v5 : Option Nat) (v6 : Option Nat) (g1 : tyV σ 5 v1) (g2 : tyV σ 10 v2) (g5 : tyV σ 0 v5) (g6 : tyV σ 0 v6), w_X11_uniqueUpTo_70 th K9 K51 Q X σ v1 v2 v3 v5 v6 → RG σ → TY σ → Ext σi σ → kO σ th 11 → JJ p l e R s m args below meth c 7 D cA A n0 s0 QM σ 70 [(0, .ref th), (1, va_rf v1), (2, va_rf v2), (3, .long v3), (5, va_rf v5), (6, va_rf v6)] [] := by
  intro σ v1 v2 v3 v5 v6 g1 g2 g5 g6 h hGσ hYσ hE hth H locs ls hH hl hc
  have B := K.1
  have hl9 := K.2.2.2.2.2.2
  unfold w_X11_uniqueUpTo_70 at h
  refine lv_aloadQ B.1 B.2.1 dX11_uniqueUpTo_70 (lv_at hl 5 rfl) ?_
  obtain ⟨a91, ea91, h⟩ := h
  have ka91 : kO σ a91 0 := g6 a91 ea91
  have h := h ka91
  refine W.eq (g2 := F0 m 72 ls [.ref a91]) (by rw [ea91]; rfl) ?_
  refine f_getp B hH ka91 (by decide) rfl wu_X0 1 (by decide) wf_X11_235 rfl rfl dX11_uniqueUpTo_72 ?_
  refine lv_astoreQ (lv' := [(6, va_rf (gP σ a91 1)), (0, .ref th), (1, va_rf v1), (2, va_rf v2), (3, .long v3), (5, va_rf v5)]) B.1 B.2.1 dX11_uniqueUpTo_75 hl (by decide) (by generalize v5 = w9; cases w9 <;> rfl) (fun ls hl => ?_)
  refine lv_goto (tgt := 51) B.1 B.2.1 dX11_uniqueUpTo_77 (by decide) ?_
  exact hK51 _ _ _ _ _ _ g1 g2 g5 (hYσ.get ka91 (by decide)) h hGσ hYσ hE hth _ _ _ hH (lv_sub (l' := [(0, .ref th), (1, va_rf v1), (2, va_rf v2), (3, .long v3), (5, va_rf v5), (6, va_rf (gP σ a91 1))]) hl [1, 2, 3, 4, 5, 0] rfl) hc
set_option maxRecDepth 20000 in
theorem a_X11_uniqueUpTo_56 {Q : Sg → Unit → Prop} {X : Sg → String → Prop} {th : Nat} (K : MD l R p s m args c cX11_uniqueUpTo 7 RX11 D cA tys A n0 s0 8 135 []) (hQ : CQV p l e R s m args below meth c cX11_uniqueUpTo D cA A n0 s0 QM σi Q) (hX : CX p l e R s m args below meth c 7 D cA A n0 s0 QM σi X) (hTh : CT p l e R s m args below meth c cX11_uniqueUpTo 7 D cA A n0 s0 QM σi RX11 X) {K9 : Sg → Option Nat → Option Nat → Int64 → Option Nat → Prop} (hK9 : ∀ (σ : Sg) (v1 : Option Nat) (v2 : Option Nat) (v3 : Int64) (v5 : Option Nat) (g1 : tyV σ 5 v1) (g2 : tyV σ 10 v2) (g5 : tyV σ 0 v5), K9 σ v1 v2 v3 v5 → RG σ → TY σ → Ext σi σ → kO σ th 11 → JJ p l e R s m args below meth c 7 D cA A n0 s0 QM σ 9 [(0, .ref th), (1, va_rf v1), (2, va_rf v2), (3, .long v3), (5, va_rf v5)] []) {K51 : Sg → Option Nat → Option Nat → Int64 → Option Nat → Option Nat → Prop} (hK51 : ∀ (σ : Sg) (v1 : Option Nat) (v2 : Option Nat) (v3 : Int64) (v5 : Option Nat) (v6 : Option Nat) (g1 : tyV σ 5 v1) (g2 : tyV σ 10 v2) (g5 : tyV σ 0 v5) (g6 : tyV σ 0 v6), K51 σ v1 v2 v3 v5 v6 → RG σ → TY σ → Ext σi σ → kO σ th 11 → JJ p l e R s m args below meth c 7 D cA A n0 s0 QM σ 51 [(0, .ref th), (1, va_rf v1), (2, va_rf v2), (3, .long v3), (5, va_rf v5), (6, va_rf v6)] []) : ∀ (σ : Sg) (v1 : Option Nat) (v2 : Option Nat) (v3 : Int64) (v5 : Option Nat) (v6 : Option Nat) (g1 : tyV σ 5 v1) (g2 : tyV σ 10 v2) (g5 : tyV σ 0 v5) (g6 : tyV σ 0 v6), w_X11_uniqueUpTo_56 th K9 K51 Q X σ v1 v2 v3 v5 v6 → RG σ → TY σ → Ext σi σ → kO σ th 11 → JJ p l e R s m args below meth c 7 D cA A n0 s0 QM σ 56 [(0, .ref th), (1, va_rf v1), (2, va_rf v2), (3, .long v3), (5, va_rf v5), (6, va_rf v6)] [] := by
  intro σ v1 v2 v3 v5 v6 g1 g2 g5 g6 h hGσ hYσ hE hth H locs ls hH hl hc
  have B := K.1
  have hl9 := K.2.2.2.2.2.2
  unfold w_X11_uniqueUpTo_56 at h
  refine lv_aloadQ B.1 B.2.1 dX11_uniqueUpTo_56 (lv_at hl 5 rfl) ?_
  obtain ⟨a92, ea92, h⟩ := h
  have ka92 : kO σ a92 0 := g6 a92 ea92
  have h := h ka92
  refine W.eq (g2 := F0 m 58 ls [.ref a92]) (by rw [ea92]; rfl) ?_
  refine f_getl B hH ka92 (by decide) rfl wu_X0 7 (by decide) wf_X11_72 rfl rfl dX11_uniqueUpTo_58 ?_
  refine lv_aloadQ B.1 B.2.1 dX11_uniqueUpTo_61 (lv_at hl 4 rfl) ?_
  obtain ⟨a93, ea93, h⟩ := h
  have ka93 : kO σ a93 0 := g5 a93 ea93
  have h := h ka93
  refine W.eq (g2 := F0 m 63 ls [.ref a93, .long (gJ σ a92 7)]) (by rw [ea93]; rfl) ?_
  refine f_getl B hH ka93 (by decide) rfl wu_X0 7 (by decide) wf_X11_72 rfl rfl dX11_uniqueUpTo_63 ?_
  refine W.lcmp B.1 B.2.1 dX11_uniqueUpTo_66 ?_
  refine lv_if_eq (tgt := 80) B.1 B.2.1 dX11_uniqueUpTo_67 (by decide) (fun h9 => ?_) (fun h9 => ?_)
  · rw [if_pos ((lg_cmp_eq _ _).mp h9)] at h
    exact a_X11_uniqueUpTo_80 K hQ hX hTh hK9 _ _ _ _ _ _ g1 g2 g5 g6 h hGσ hYσ hE hth _ _ _ hH (lv_sub (l' := [(0, .ref th), (1, va_rf v1), (2, va_rf v2), (3, .long v3), (5, va_rf v5), (6, va_rf v6)]) hl [0, 1, 2, 3, 4, 5] rfl) hc
  · rw [if_neg (fun q => h9 ((lg_cmp_eq _ _).mpr q))] at h
    exact a_X11_uniqueUpTo_70 K hQ hX hTh hK9 hK51 _ _ _ _ _ _ g1 g2 g5 g6 h hGσ hYσ hE hth _ _ _ hH (lv_sub (l' := [(0, .ref th), (1, va_rf v1), (2, va_rf v2), (3, .long v3), (5, va_rf v5), (6, va_rf v6)]) hl [0, 1, 2, 3, 4, 5] rfl) hc
set_option maxRecDepth 20000 in
theorem a_X11_uniqueUpTo_51 {Q : Sg → Unit → Prop} {X : Sg → String → Prop} {th : Nat} (K : MD l R p s m args c cX11_uniqueUpTo 7 RX11 D cA tys A n0 s0 8 135 []) (hQ : CQV p l e R s m args below meth c cX11_uniqueUpTo D cA A n0 s0 QM σi Q) (hX : CX p l e R s m args below meth c 7 D cA A n0 s0 QM σi X) (hTh : CT p l e R s m args below meth c cX11_uniqueUpTo 7 D cA A n0 s0 QM σi RX11 X) {K9 : Sg → Option Nat → Option Nat → Int64 → Option Nat → Prop} (hK9 : ∀ (σ : Sg) (v1 : Option Nat) (v2 : Option Nat) (v3 : Int64) (v5 : Option Nat) (g1 : tyV σ 5 v1) (g2 : tyV σ 10 v2) (g5 : tyV σ 0 v5), K9 σ v1 v2 v3 v5 → RG σ → TY σ → Ext σi σ → kO σ th 11 → JJ p l e R s m args below meth c 7 D cA A n0 s0 QM σ 9 [(0, .ref th), (1, va_rf v1), (2, va_rf v2), (3, .long v3), (5, va_rf v5)] []) {K51 : Sg → Option Nat → Option Nat → Int64 → Option Nat → Option Nat → Prop} (hK51 : ∀ (σ : Sg) (v1 : Option Nat) (v2 : Option Nat) (v3 : Int64) (v5 : Option Nat) (v6 : Option Nat) (g1 : tyV σ 5 v1) (g2 : tyV σ 10 v2) (g5 : tyV σ 0 v5) (g6 : tyV σ 0 v6), K51 σ v1 v2 v3 v5 v6 → RG σ → TY σ → Ext σi σ → kO σ th 11 → JJ p l e R s m args below meth c 7 D cA A n0 s0 QM σ 51 [(0, .ref th), (1, va_rf v1), (2, va_rf v2), (3, .long v3), (5, va_rf v5), (6, va_rf v6)] []) : ∀ (σ : Sg) (v1 : Option Nat) (v2 : Option Nat) (v3 : Int64) (v5 : Option Nat) (v6 : Option Nat) (g1 : tyV σ 5 v1) (g2 : tyV σ 10 v2) (g5 : tyV σ 0 v5) (g6 : tyV σ 0 v6), w_X11_uniqueUpTo_51 th K9 K51 Q X σ v1 v2 v3 v5 v6 → RG σ → TY σ → Ext σi σ → kO σ th 11 → JJ p l e R s m args below meth c 7 D cA A n0 s0 QM σ 51 [(0, .ref th), (1, va_rf v1), (2, va_rf v2), (3, .long v3), (5, va_rf v5), (6, va_rf v6)] [] := by
  intro σ v1 v2 v3 v5 v6 g1 g2 g5 g6 h hGσ hYσ hE hth H locs ls hH hl hc
  have B := K.1
  have hl9 := K.2.2.2.2.2.2
  unfold w_X11_uniqueUpTo_51 at h
  refine lv_aloadQ B.1 B.2.1 dX11_uniqueUpTo_51 (lv_at hl 5 rfl) ?_
  refine lv_ifnullQ (tgt := 80) B.1 B.2.1 dX11_uniqueUpTo_53 (by decide) (fun h9 => ?_) (fun h9 => ?_)
  · rw [if_pos (h9)] at h
    exact a_X11_uniqueUpTo_80 K hQ hX hTh hK9 _ _ _ _ _ _ g1 g2 g5 g6 h hGσ hYσ hE hth _ _ _ hH (lv_sub (l' := [(0, .ref th), (1, va_rf v1), (2, va_rf v2), (3, .long v3), (5, va_rf v5), (6, va_rf v6)]) hl [0, 1, 2, 3, 4, 5] rfl) hc
  · rw [if_neg (h9)] at h
    exact a_X11_uniqueUpTo_56 K hQ hX hTh hK9 hK51 _ _ _ _ _ _ g1 g2 g5 g6 h hGσ hYσ hE hth _ _ _ hH (lv_sub (l' := [(0, .ref th), (1, va_rf v1), (2, va_rf v2), (3, .long v3), (5, va_rf v5), (6, va_rf v6)]) hl [0, 1, 2, 3, 4, 5] rfl) hc
theorem al_X11_uniqueUpTo_51 {Q : Sg → Unit → Prop} {X : Sg → String → Prop} {th : Nat} (K : MD l R p s m args c cX11_uniqueUpTo 7 RX11 D cA tys A n0 s0 8 135 []) (hQ : CQV p l e R s m args below meth c cX11_uniqueUpTo D cA A n0 s0 QM σi Q) (hX : CX p l e R s m args below meth c 7 D cA A n0 s0 QM σi X) (hTh : CT p l e R s m args below meth c cX11_uniqueUpTo 7 D cA A n0 s0 QM σi RX11 X) {K9 : Sg → Option Nat → Option Nat → Int64 → Option Nat → Prop} (hK9 : ∀ (σ : Sg) (v1 : Option Nat) (v2 : Option Nat) (v3 : Int64) (v5 : Option Nat) (g1 : tyV σ 5 v1) (g2 : tyV σ 10 v2) (g5 : tyV σ 0 v5), K9 σ v1 v2 v3 v5 → RG σ → TY σ → Ext σi σ → kO σ th 11 → JJ p l e R s m args below meth c 7 D cA A n0 s0 QM σ 9 [(0, .ref th), (1, va_rf v1), (2, va_rf v2), (3, .long v3), (5, va_rf v5)] []) : ∀ (n : Nat), ∀ (σ : Sg) (v1 : Option Nat) (v2 : Option Nat) (v3 : Int64) (v5 : Option Nat) (v6 : Option Nat) (g1 : tyV σ 5 v1) (g2 : tyV σ 10 v2) (g5 : tyV σ 0 v5) (g6 : tyV σ 0 v6), wl_X11_uniqueUpTo_51 th K9 Q X n σ v1 v2 v3 v5 v6 → RG σ → TY σ → Ext σi σ → kO σ th 11 → JJ p l e R s m args below meth c 7 D cA A n0 s0 QM σ 51 [(0, .ref th), (1, va_rf v1), (2, va_rf v2), (3, .long v3), (5, va_rf v5), (6, va_rf v6)] [] := by
  intro n
  induction n with
  | zero => intro σ v1 v2 v3 v5 v6 g1 g2 g5 g6 h; exact h.elim
  | succ n ih => exact fun σ v1 v2 v3 v5 v6 g1 g2 g5 g6 h => a_X11_uniqueUpTo_51 K hQ hX hTh hK9 ih σ v1 v2 v3 v5 v6 g1 g2 g5 g6 h
set_option maxRecDepth 20000 in
theorem a_X11_uniqueUpTo_24 {Q : Sg → Unit → Prop} {X : Sg → String → Prop} {th : Nat} (K : MD l R p s m args c cX11_uniqueUpTo 7 RX11 D cA tys A n0 s0 8 135 []) (hQ : CQV p l e R s m args below meth c cX11_uniqueUpTo D cA A n0 s0 QM σi Q) (hX : CX p l e R s m args below meth c 7 D cA A n0 s0 QM σi X) (hTh : CT p l e R s m args below meth c cX11_uniqueUpTo 7 D cA A n0 s0 QM σi RX11 X) {K9 : Sg → Option Nat → Option Nat → Int64 → Option Nat → Prop} (hK9 : ∀ (σ : Sg) (v1 : Option Nat) (v2 : Option Nat) (v3 : Int64) (v5 : Option Nat) (g1 : tyV σ 5 v1) (g2 : tyV σ 10 v2) (g5 : tyV σ 0 v5), K9 σ v1 v2 v3 v5 → RG σ → TY σ → Ext σi σ → kO σ th 11 → JJ p l e R s m args below meth c 7 D cA A n0 s0 QM σ 9 [(0, .ref th), (1, va_rf v1), (2, va_rf v2), (3, .long v3), (5, va_rf v5)] []) : ∀ (σ : Sg) (v1 : Option Nat) (v2 : Option Nat) (v3 : Int64) (v5 : Option Nat) (g1 : tyV σ 5 v1) (g2 : tyV σ 10 v2) (g5 : tyV σ 0 v5), w_X11_uniqueUpTo_24 th K9 Q X σ v1 v2 v3 v5 → RG σ → TY σ → Ext σi σ → kO σ th 11 → JJ p l e R s m args below meth c 7 D cA A n0 s0 QM σ 24 [(0, .ref th), (1, va_rf v1), (2, va_rf v2), (3, .long v3), (5, va_rf v5)] [] := by
  intro σ v1 v2 v3 v5 g1 g2 g5 h hGσ hYσ hE hth H locs ls hH hl hc
  have B := K.1
  have hl9 := K.2.2.2.2.2.2
  unfold w_X11_uniqueUpTo_24 at h
  refine lv_aload_nQ B.1 B.2.1 dX11_uniqueUpTo_24 rfl (lv_at hl 2 rfl) ?_
  obtain ⟨a94, ea94, h⟩ := h
  have ka94 : kO σ a94 10 := g2 a94 ea94
  have h := h ka94
  refine W.eq (g2 := F0 m 25 ls [.ref a94]) (by rw [ea94]; rfl) ?_
  refine f_getp B hH ka94 (by decide) rfl wu_X10 2 (by decide) wf_X11_105 rfl rfl dX11_uniqueUpTo_25 ?_
  obtain ⟨a97, ea97, h⟩ := h
  have ka97 : kO σ a97 1 := (hYσ.get ka94 (by decide)) a97 ea97
  have h := h ka97
  refine W.eq (g2 := F0 m 28 ls [.ref a97]) (by rw [ea97]; rfl) ?_
  refine c_V B hH hl hc K.2.2.1 (C := RX1) (T := TX1) (N := 3) (ci := 1) (As := []) (ok_X1_takeFirst hl9 K.2.1 σ a97 ka97 hGσ hYσ h) wc_X11_261 0 hd_X1_takeFirst ⟨Nat.le_trans (Nat.le_of_ble_eq_true rfl) K.2.2.2.1, Nat.le_trans (Nat.le_of_ble_eq_true rfl) K.2.2.2.2.1⟩ ka97.1 ka97.2 (by decide) rfl rfl (rest := []) rfl (Nat.le_of_ble_eq_true rfl) dX11_uniqueUpTo_28 (fun σ95 w hq => ?_) (fun σ9 E9 hx9 => hX σ9 E9 _ _ _ (tb_out K.2.2.2.2.2.1 rfl) hx9.1 hx9.2.1 hx9.2.2.1 (hE.trans hx9.2.2.2))
  obtain ⟨r96, rfl, tr96, h, hGσ95, hYσ95, xσ95⟩ := hq
  have h := h xσ95 tr96
  intro H locs ls hH hl hc
  refine W.eq (g2 := F0 m 31 ls [va_rf r96]) (rfl) ?_
  try dsimp only at h
  refine lv_pop B.1 B.2.1 dX11_uniqueUpTo_31 (rf_cat _) ?_
  refine lv_aload_n B.1 B.2.1 dX11_uniqueUpTo_32 rfl (lv_at hl 0 rfl) ?_
  refine lv_dup B.1 B.2.1 dX11_uniqueUpTo_33 rfl ?_
  refine f_geti B hH (hth.up xσ95) (by decide) rfl wu_X11 4 (by decide) wf_X11_165 rfl rfl dX11_uniqueUpTo_34 ?_
  refine lv_iconst (v := i32 1) B.1 B.2.1 dX11_uniqueUpTo_37 (by decide) ?_
  obtain ⟨q1, h⟩ := h
  refine lv_isub B.1 B.2.1 dX11_uniqueUpTo_38 ?_
  rw [i32_sub]
  obtain ⟨σ98, eσ98⟩ : ∃ z, z = pI σ95 th 4 (gI σ95 th 4 - 1) := ⟨_, rfl⟩
  have h := h σ98 eσ98
  refine f_puti B hH (hth.up xσ95) (by decide) rfl wu_X11 tyX11 tyX11_ok nmX11 4 (by decide) wf_X11_165 rfl (ty := .int) rfl rfl rfl rfl rfl dX11_uniqueUpTo_39 (fun H locs hH => ?_)
  have hH : Hd D cA A s (pI σ95 th 4 (gI σ95 th 4 - 1)) H locs := hH
  rw [← eσ98] at hH
  have hGσ98 : RG σ98 := by rw [eσ98]; exact hGσ95.pI q1
  have hYσ98 : TY σ98 := by rw [eσ98]; exact hYσ95.pI
  have xσ98 : Ext σ95 σ98 := by rw [eσ98]; exact Ext.pI
  have hc : CB n0 s0 σ98 := by rw [eσ98]; exact hc
  rw [show gc σ95 = gc σ98 by rw [eσ98]; try rfl, show gs σ95 = gs σ98 by rw [eσ98]; try rfl]
  refine lv_aload_nQ B.1 B.2.1 dX11_uniqueUpTo_42 rfl (lv_at hl 2 rfl) ?_
  refine W.eq (g2 := F0 m 43 ls [.ref a94]) (by rw [ea94]; rfl) ?_
  refine f_getp B hH (ka94.up (xσ95.trans xσ98)) (by decide) rfl wu_X10 3 (by decide) wf_X11_117 rfl rfl dX11_uniqueUpTo_43 ?_
  obtain ⟨a99, ea99, h⟩ := h
  have ka99 : kO σ98 a99 1 := (hYσ98.get (ka94.up (xσ95.trans xσ98)) (by decide)) a99 ea99
  have h := h ka99
  refine W.eq (g2 := F0 m 46 ls [.ref a99]) (by rw [ea99]; rfl) ?_
  refine f_getp B hH ka99 (by decide) rfl wu_X1 0 (by decide) wf_X11_225 rfl rfl dX11_uniqueUpTo_46 ?_
  refine lv_astoreQ (lv' := [(6, va_rf (gP σ98 a99 0)), (0, .ref th), (1, va_rf v1), (2, va_rf v2), (3, .long v3), (5, va_rf v5)]) B.1 B.2.1 dX11_uniqueUpTo_49 hl (by decide) (by generalize v5 = w9; cases w9 <;> rfl) (fun ls hl => ?_)
  obtain ⟨n9, h⟩ := h
  exact al_X11_uniqueUpTo_51 K hQ hX hTh hK9 n9 _ _ _ _ _ _ (g1.up (xσ95.trans xσ98)) (g2.up (xσ95.trans xσ98)) (g5.up (xσ95.trans xσ98)) (hYσ98.get ka99 (by decide)) h hGσ98 hYσ98 ((hE.trans xσ95).trans xσ98) (hth.up (xσ95.trans xσ98)) _ _ _ hH (lv_sub (l' := [(0, .ref th), (1, va_rf v1), (2, va_rf v2), (3, .long v3), (5, va_rf v5), (6, va_rf (gP σ98 a99 0))]) hl [1, 2, 3, 4, 5, 0] rfl) hc
set_option maxRecDepth 20000 in
theorem a_X11_uniqueUpTo_14 {Q : Sg → Unit → Prop} {X : Sg → String → Prop} {th : Nat} (K : MD l R p s m args c cX11_uniqueUpTo 7 RX11 D cA tys A n0 s0 8 135 []) (hQ : CQV p l e R s m args below meth c cX11_uniqueUpTo D cA A n0 s0 QM σi Q) (hX : CX p l e R s m args below meth c 7 D cA A n0 s0 QM σi X) (hTh : CT p l e R s m args below meth c cX11_uniqueUpTo 7 D cA A n0 s0 QM σi RX11 X) {K9 : Sg → Option Nat → Option Nat → Int64 → Option Nat → Prop} (hK9 : ∀ (σ : Sg) (v1 : Option Nat) (v2 : Option Nat) (v3 : Int64) (v5 : Option Nat) (g1 : tyV σ 5 v1) (g2 : tyV σ 10 v2) (g5 : tyV σ 0 v5), K9 σ v1 v2 v3 v5 → RG σ → TY σ → Ext σi σ → kO σ th 11 → JJ p l e R s m args below meth c 7 D cA A n0 s0 QM σ 9 [(0, .ref th), (1, va_rf v1), (2, va_rf v2), (3, .long v3), (5, va_rf v5)] []) : ∀ (σ : Sg) (v1 : Option Nat) (v2 : Option Nat) (v3 : Int64) (v5 : Option Nat) (g1 : tyV σ 5 v1) (g2 : tyV σ 10 v2) (g5 : tyV σ 0 v5), w_X11_uniqueUpTo_14 th K9 Q X σ v1 v2 v3 v5 → RG σ → TY σ → Ext σi σ → kO σ th 11 → JJ p l e R s m args below meth c 7 D cA A n0 s0 QM σ 14 [(0, .ref th), (1, va_rf v1), (2, va_rf v2), (3, .long v3), (5, va_rf v5)] [] := by
  intro σ v1 v2 v3 v5 g1 g2 g5 h hGσ hYσ hE hth H locs ls hH hl hc
  have B := K.1
  have hl9 := K.2.2.2.2.2.2
  unfold w_X11_uniqueUpTo_14 at h
  refine lv_aloadQ B.1 B.2.1 dX11_uniqueUpTo_14 (lv_at hl 4 rfl) ?_
  obtain ⟨a100, ea100, h⟩ := h
  have ka100 : kO σ a100 0 := g5 a100 ea100
  have h := h ka100
  refine W.eq (g2 := F0 m 16 ls [.ref a100]) (by rw [ea100]; rfl) ?_
  refine f_getl B hH ka100 (by decide) rfl wu_X0 5 (by decide) wf_X11_85 rfl rfl dX11_uniqueUpTo_16 ?_
  refine lv_lload_n B.1 B.2.1 dX11_uniqueUpTo_19 rfl (lv_at hl 3 rfl) ?_
  refine W.lcmp B.1 B.2.1 dX11_uniqueUpTo_20 ?_
  refine lv_if_gt (tgt := 181) B.1 B.2.1 dX11_uniqueUpTo_21 (by decide) (fun h9 => ?_) (fun h9 => ?_)
  · rw [if_pos ((lg_cmp_gt _ _).mp h9)] at h
    exact a_X11_uniqueUpTo_181 K hQ hX hTh _ _ _ _ g1 g2 h hGσ hYσ hE hth _ _ _ hH (lv_sub (l' := [(0, .ref th), (1, va_rf v1), (2, va_rf v2), (3, .long v3)]) hl [0, 1, 2, 3] rfl) hc
  · rw [if_neg (fun q => h9 ((lg_cmp_gt _ _).mpr q))] at h
    exact a_X11_uniqueUpTo_24 K hQ hX hTh hK9 _ _ _ _ _ g1 g2 g5 h hGσ hYσ hE hth _ _ _ hH (lv_sub (l' := [(0, .ref th), (1, va_rf v1), (2, va_rf v2), (3, .long v3), (5, va_rf v5)]) hl [0, 1, 2, 3, 4] rfl) hc
set_option maxRecDepth 20000 in
theorem a_X11_uniqueUpTo_9 {Q : Sg → Unit → Prop} {X : Sg → String → Prop} {th : Nat} (K : MD l R p s m args c cX11_uniqueUpTo 7 RX11 D cA tys A n0 s0 8 135 []) (hQ : CQV p l e R s m args below meth c cX11_uniqueUpTo D cA A n0 s0 QM σi Q) (hX : CX p l e R s m args below meth c 7 D cA A n0 s0 QM σi X) (hTh : CT p l e R s m args below meth c cX11_uniqueUpTo 7 D cA A n0 s0 QM σi RX11 X) {K9 : Sg → Option Nat → Option Nat → Int64 → Option Nat → Prop} (hK9 : ∀ (σ : Sg) (v1 : Option Nat) (v2 : Option Nat) (v3 : Int64) (v5 : Option Nat) (g1 : tyV σ 5 v1) (g2 : tyV σ 10 v2) (g5 : tyV σ 0 v5), K9 σ v1 v2 v3 v5 → RG σ → TY σ → Ext σi σ → kO σ th 11 → JJ p l e R s m args below meth c 7 D cA A n0 s0 QM σ 9 [(0, .ref th), (1, va_rf v1), (2, va_rf v2), (3, .long v3), (5, va_rf v5)] []) : ∀ (σ : Sg) (v1 : Option Nat) (v2 : Option Nat) (v3 : Int64) (v5 : Option Nat) (g1 : tyV σ 5 v1) (g2 : tyV σ 10 v2) (g5 : tyV σ 0 v5), w_X11_uniqueUpTo_9 th K9 Q X σ v1 v2 v3 v5 → RG σ → TY σ → Ext σi σ → kO σ th 11 → JJ p l e R s m args below meth c 7 D cA A n0 s0 QM σ 9 [(0, .ref th), (1, va_rf v1), (2, va_rf v2), (3, .long v3), (5, va_rf v5)] [] := by
  intro σ v1 v2 v3 v5 g1 g2 g5 h hGσ hYσ hE hth H locs ls hH hl hc
  have B := K.1
  have hl9 := K.2.2.2.2.2.2
  unfold w_X11_uniqueUpTo_9 at h
  refine lv_aloadQ B.1 B.2.1 dX11_uniqueUpTo_9 (lv_at hl 4 rfl) ?_
  refine lv_ifnullQ (tgt := 181) B.1 B.2.1 dX11_uniqueUpTo_11 (by decide) (fun h9 => ?_) (fun h9 => ?_)
  · rw [if_pos (h9)] at h
    exact a_X11_uniqueUpTo_181 K hQ hX hTh _ _ _ _ g1 g2 h hGσ hYσ hE hth _ _ _ hH (lv_sub (l' := [(0, .ref th), (1, va_rf v1), (2, va_rf v2), (3, .long v3)]) hl [0, 1, 2, 3] rfl) hc
  · rw [if_neg (h9)] at h
    exact a_X11_uniqueUpTo_14 K hQ hX hTh hK9 _ _ _ _ _ g1 g2 g5 h hGσ hYσ hE hth _ _ _ hH (lv_sub (l' := [(0, .ref th), (1, va_rf v1), (2, va_rf v2), (3, .long v3), (5, va_rf v5)]) hl [0, 1, 2, 3, 4] rfl) hc
theorem al_X11_uniqueUpTo_9 {Q : Sg → Unit → Prop} {X : Sg → String → Prop} {th : Nat} (K : MD l R p s m args c cX11_uniqueUpTo 7 RX11 D cA tys A n0 s0 8 135 []) (hQ : CQV p l e R s m args below meth c cX11_uniqueUpTo D cA A n0 s0 QM σi Q) (hX : CX p l e R s m args below meth c 7 D cA A n0 s0 QM σi X) (hTh : CT p l e R s m args below meth c cX11_uniqueUpTo 7 D cA A n0 s0 QM σi RX11 X) : ∀ (n : Nat), ∀ (σ : Sg) (v1 : Option Nat) (v2 : Option Nat) (v3 : Int64) (v5 : Option Nat) (g1 : tyV σ 5 v1) (g2 : tyV σ 10 v2) (g5 : tyV σ 0 v5), wl_X11_uniqueUpTo_9 th Q X n σ v1 v2 v3 v5 → RG σ → TY σ → Ext σi σ → kO σ th 11 → JJ p l e R s m args below meth c 7 D cA A n0 s0 QM σ 9 [(0, .ref th), (1, va_rf v1), (2, va_rf v2), (3, .long v3), (5, va_rf v5)] [] := by
  intro n
  induction n with
  | zero => intro σ v1 v2 v3 v5 g1 g2 g5 h; exact h.elim
  | succ n ih => exact fun σ v1 v2 v3 v5 g1 g2 g5 h => a_X11_uniqueUpTo_9 K hQ hX hTh ih σ v1 v2 v3 v5 g1 g2 g5 h
set_option maxRecDepth 20000 in
theorem a_X11_uniqueUpTo_0 {Q : Sg → Unit → Prop} {X : Sg → String → Prop} {th : Nat} (K : MD l R p s m args c cX11_uniqueUpTo 7 RX11 D cA tys A n0 s0 8 135 []) (hQ : CQV p l e R s m args below meth c cX11_uniqueUpTo D cA A n0 s0 QM σi Q) (hX : CX p l e R s m args below meth c 7 D cA A n0 s0 QM σi X) (hTh : CT p l e R s m args below meth c cX11_uniqueUpTo 7 D cA A n0 s0 QM σi RX11 X) : ∀ (σ : Sg) (v1 : Option Nat) (v2 : Option Nat) (v3 : Int64) (g1 : tyV σ 5 v1) (g2 : tyV σ 10 v2), w_X11_uniqueUpTo_0 th Q X σ v1 v2 v3 → RG σ → TY σ → Ext σi σ → kO σ th 11 → JJ p l e R s m args below meth c 7 D cA A n0 s0 QM σ 0 [(0, .ref th), (1, va_rf v1), (2, va_rf v2), (3, .long v3)] [] := by
  intro σ v1 v2 v3 g1 g2 h hGσ hYσ hE hth H locs ls hH hl hc
  have B := K.1
  have hl9 := K.2.2.2.2.2.2
  unfold w_X11_uniqueUpTo_0 at h
  refine lv_aload_nQ B.1 B.2.1 dX11_uniqueUpTo_0 rfl (lv_at hl 2 rfl) ?_
  obtain ⟨a101, ea101, h⟩ := h
  have ka101 : kO σ a101 10 := g2 a101 ea101
  have h := h ka101
  refine W.eq (g2 := F0 m 1 ls [.ref a101]) (by rw [ea101]; rfl) ?_
  refine f_getp B hH ka101 (by decide) rfl wu_X10 2 (by decide) wf_X11_105 rfl rfl dX11_uniqueUpTo_1 ?_
  obtain ⟨a102, ea102, h⟩ := h
  have ka102 : kO σ a102 1 := (hYσ.get ka101 (by decide)) a102 ea102
  have h := h ka102
  refine W.eq (g2 := F0 m 4 ls [.ref a102]) (by rw [ea102]; rfl) ?_
  refine f_getp B hH ka102 (by decide) rfl wu_X1 0 (by decide) wf_X11_225 rfl rfl dX11_uniqueUpTo_4 ?_
  refine lv_astoreQ (lv' := [(5, va_rf (gP σ a102 0)), (0, .ref th), (1, va_rf v1), (2, va_rf v2), (3, .long v3)]) B.1 B.2.1 dX11_uniqueUpTo_7 hl (by decide) rfl (fun ls hl => ?_)
  obtain ⟨n9, h⟩ := h
  exact al_X11_uniqueUpTo_9 K hQ hX hTh n9 _ _ _ _ _ g1 g2 (hYσ.get ka102 (by decide)) h hGσ hYσ hE hth _ _ _ hH (lv_sub (l' := [(0, .ref th), (1, va_rf v1), (2, va_rf v2), (3, .long v3), (5, va_rf (gP σ a102 0))]) hl [1, 2, 3, 4, 0] rfl) hc
theorem ok_X11_uniqueUpTo (hl0 : l.stackTraces = false) (hT : TyC cA tys) {Q : Sg → Unit → Prop} {X : Sg → String → Prop} (σ : Sg) (th : Nat) (v1 : Option Nat) (v2 : Option Nat) (v3 : Int64) (g1 : tyV σ 5 v1) (g2 : tyV σ 10 v2) (hth : kO σ th 11) (hG : RG σ) (hY : TY σ) (h : wp_X11_uniqueUpTo th v1 v2 v3 σ Q X) : Ok l D cA tys A yX11_uniqueUpTo (.code yX11_uniqueUpTo cX11_uniqueUpTo 7 none) 8 135 [.ref th, va_rf v1, va_rf v2, .long v3] σ (QcV σ Q) (QxC σ X) := by
  unfold wp_X11_uniqueUpTo at h
  exact oc_V hl0 (by decide) (by cases v1 <;> cases v2 <;> exact Nat.le_of_ble_eq_true rfl) hT (fun p e R s m args below meth c K hQ hX hTh hin9 H locs ls hH hl hc => a_X11_uniqueUpTo_0 K hQ hX hTh σ v1 v2 v3 g1 g2 h hG hY (Ext.rfl' σ) hth H locs ls hH (lv_sub (l' := [(0, .ref th), (1, va_rf v1), (2, va_rf v2), (3, .long v3)]) hl [0, 1, 2, 3] (by cases v1 <;> cases v2 <;> rfl)) hc)
theorem dX11_advance_0 : decode cX11_advance 0 = .ok (.aload_n 1, 1) := by decide +kernel
theorem dX11_advance_1 : decode cX11_advance 1 = .ok (.getfield 30, 3) := by decide +kernel
theorem dX11_advance_4 : decode cX11_advance 4 = .ok (.tableswitch 144 4 10 #[44, 55, 71, 104, 114, 124, 134], 44) := by decide +kernel
theorem dX11_advance_48 : decode cX11_advance 48 = .ok (.aload_n 0, 1) := by decide +kernel
theorem dX11_advance_49 : decode cX11_advance 49 = .ok (.aload_n 1, 1) := by decide +kernel
theorem dX11_advance_50 : decode cX11_advance 50 = .ok (.aload_n 2, 1) := by decide +kernel
theorem dX11_advance_51 : decode cX11_advance 51 = .ok (.lload_n 3, 1) := by decide +kernel
theorem dX11_advance_52 : decode cX11_advance 52 = .ok (.iconst 0, 1) := by decide +kernel
theorem dX11_advance_53 : decode cX11_advance 53 = .ok (.invokevirtual 101, 3) := by decide +kernel
theorem dX11_advance_56 : decode cX11_advance 56 = .ok (.goto 92, 3) := by decide +kernel
theorem dX11_advance_59 : decode cX11_advance 59 = .ok (.aload_n 0, 1) := by decide +kernel
theorem dX11_advance_60 : decode cX11_advance 60 = .ok (.aload_n 1, 1) := by decide +kernel
theorem dX11_advance_61 : decode cX11_advance 61 = .ok (.aload_n 2, 1) := by decide +kernel
theorem dX11_advance_62 : decode cX11_advance 62 = .ok (.lload_n 3, 1) := by decide +kernel
theorem dX11_advance_63 : decode cX11_advance 63 = .ok (.aload_n 1, 1) := by decide +kernel
theorem dX11_advance_64 : decode cX11_advance 64 = .ok (.getfield 76, 3) := by decide +kernel
theorem dX11_advance_67 : decode cX11_advance 67 = .ok (.iconst 1, 1) := by decide +kernel
theorem dX11_advance_68 : decode cX11_advance 68 = .ok (.isub, 1) := by decide +kernel
theorem dX11_advance_69 : decode cX11_advance 69 = .ok (.invokevirtual 101, 3) := by decide +kernel
theorem dX11_advance_72 : decode cX11_advance 72 = .ok (.goto 76, 3) := by decide +kernel
theorem dX11_advance_75 : decode cX11_advance 75 = .ok (.aload_n 0, 1) := by decide +kernel
theorem dX11_advance_76 : decode cX11_advance 76 = .ok (.aload_n 2, 1) := by decide +kernel
theorem dX11_advance_77 : decode cX11_advance 77 = .ok (.getfield 105, 3) := by decide +kernel
theorem dX11_advance_80 : decode cX11_advance 80 = .ok (.lload_n 3, 1) := by decide +kernel
theorem dX11_advance_81 : decode cX11_advance 81 = .ok (.aload_n 1, 1) := by decide +kernel
theorem dX11_advance_82 : decode cX11_advance 82 = .ok (.getfield 110, 3) := by decide +kernel
theorem dX11_advance_85 : decode cX11_advance 85 = .ok (.i2l, 1) := by decide +kernel
theorem dX11_advance_86 : decode cX11_advance 86 = .ok (.lsub, 1) := by decide +kernel
theorem dX11_advance_87 : decode cX11_advance 87 = .ok (.invokevirtual 113, 3) := by decide +kernel
theorem dX11_advance_90 : decode cX11_advance 90 = .ok (.aload_n 0, 1) := by decide +kernel
theorem dX11_advance_91 : decode cX11_advance 91 = .ok (.aload_n 2, 1) := by decide +kernel
theorem dX11_advance_92 : decode cX11_advance 92 = .ok (.getfield 117, 3) := by decide +kernel
theorem dX11_advance_95 : decode cX11_advance 95 = .ok (.lload_n 3, 1) := by decide +kernel
theorem dX11_advance_96 : decode cX11_advance 96 = .ok (.aload_n 1, 1) := by decide +kernel
theorem dX11_advance_97 : decode cX11_advance 97 = .ok (.getfield 120, 3) := by decide +kernel
theorem dX11_advance_100 : decode cX11_advance 100 = .ok (.i2l, 1) := by decide +kernel
theorem dX11_advance_101 : decode cX11_advance 101 = .ok (.ladd, 1) := by decide +kernel
theorem dX11_advance_102 : decode cX11_advance 102 = .ok (.invokevirtual 113, 3) := by decide +kernel
theorem dX11_advance_105 : decode cX11_advance 105 = .ok (.goto 43, 3) := by decide +kernel
theorem dX11_advance_108 : decode cX11_advance 108 = .ok (.aload_n 0, 1) := by decide +kernel
theorem dX11_advance_109 : decode cX11_advance 109 = .ok (.aload_n 1, 1) := by decide +kernel
theorem dX11_advance_110 : decode cX11_advance 110 = .ok (.aload_n 2, 1) := by decide +kernel
theorem dX11_advance_111 : decode cX11_advance 111 = .ok (.lload_n 3, 1) := by decide +kernel
theorem dX11_advance_112 : decode cX11_advance 112 = .ok (.invokevirtual 123, 3) := by decide +kernel
theorem dX11_advance_115 : decode cX11_advance 115 = .ok (.goto 33, 3) := by decide +kernel
theorem dX11_advance_118 : decode cX11_advance 118 = .ok (.aload_n 0, 1) := by decide +kernel
theorem dX11_advance_119 : decode cX11_advance 119 = .ok (.aload_n 1, 1) := by decide +kernel
theorem dX11_advance_120 : decode cX11_advance 120 = .ok (.aload_n 2, 1) := by decide +kernel
theorem dX11_advance_121 : decode cX11_advance 121 = .ok (.lload_n 3, 1) := by decide +kernel
theorem dX11_advance_122 : decode cX11_advance 122 = .ok (.invokevirtual 127, 3) := by decide +kernel
theorem dX11_advance_125 : decode cX11_advance 125 = .ok (.goto 23, 3) := by decide +kernel
theorem dX11_advance_128 : decode cX11_advance 128 = .ok (.aload_n 0, 1) := by decide +kernel
theorem dX11_advance_129 : decode cX11_advance 129 = .ok (.aload_n 1, 1) := by decide +kernel
theorem dX11_advance_130 : decode cX11_advance 130 = .ok (.aload_n 2, 1) := by decide +kernel
theorem dX11_advance_131 : decode cX11_advance 131 = .ok (.lload_n 3, 1) := by decide +kernel
theorem dX11_advance_132 : decode cX11_advance 132 = .ok (.invokevirtual 130, 3) := by decide +kernel
theorem dX11_advance_135 : decode cX11_advance 135 = .ok (.goto 13, 3) := by decide +kernel
theorem dX11_advance_138 : decode cX11_advance 138 = .ok (.aload_n 0, 1) := by decide +kernel
theorem dX11_advance_139 : decode cX11_advance 139 = .ok (.aload_n 1, 1) := by decide +kernel
theorem dX11_advance_140 : decode cX11_advance 140 = .ok (.aload_n 2, 1) := by decide +kernel
theorem dX11_advance_141 : decode cX11_advance 141 = .ok (.lload_n 3, 1) := by decide +kernel
theorem dX11_advance_142 : decode cX11_advance 142 = .ok (.invokevirtual 133, 3) := by decide +kernel
theorem dX11_advance_145 : decode cX11_advance 145 = .ok (.goto 3, 3) := by decide +kernel
theorem dX11_advance_148 : decode cX11_advance 148 = .ok (.return_, 1) := by decide +kernel
set_option maxRecDepth 20000 in
theorem a_X11_advance_148 {Q : Sg → Unit → Prop} {X : Sg → String → Prop} {th : Nat} (K : MD l R p s m args c cX11_advance 5 RX11 D cA tys A n0 s0 10 192 []) (hQ : CQV p l e R s m args below meth c cX11_advance D cA A n0 s0 QM σi Q) (hX : CX p l e R s m args below meth c 5 D cA A n0 s0 QM σi X) (hTh : CT p l e R s m args below meth c cX11_advance 5 D cA A n0 s0 QM σi RX11 X) : ∀ (σ : Sg), w_X11_advance_148 th Q X σ → RG σ → TY σ → Ext σi σ → kO σ th 11 → JJ p l e R s m args below meth c 5 D cA A n0 s0 QM σ 148 [(0, .ref th)] [] := by
  intro σ h hGσ hYσ hE hth H locs ls hH hl hc
  have B := K.1
  have hl9 := K.2.2.2.2.2.2
  unfold w_X11_advance_148 at h
  exact hQ _ _ _ _ _ dX11_advance_148 hH hc h hGσ hYσ hE
set_option maxRecDepth 20000 in
theorem a_X11_advance_48 {Q : Sg → Unit → Prop} {X : Sg → String → Prop} {th : Nat} (K : MD l R p s m args c cX11_advance 5 RX11 D cA tys A n0 s0 10 192 []) (hQ : CQV p l e R s m args below meth c cX11_advance D cA A n0 s0 QM σi Q) (hX : CX p l e R s m args below meth c 5 D cA A n0 s0 QM σi X) (hTh : CT p l e R s m args below meth c cX11_advance 5 D cA A n0 s0 QM σi RX11 X) : ∀ (σ : Sg) (v1 : Option Nat) (v2 : Option Nat) (v3 : Int64) (g1 : tyV σ 5 v1) (g2 : tyV σ 10 v2), w_X11_advance_48 th Q X σ v1 v2 v3 → RG σ → TY σ → Ext σi σ → kO σ th 11 → JJ p l e R s m args below meth c 5 D cA A n0 s0 QM σ 48 [(0, .ref th), (1, va_rf v1), (2, va_rf v2), (3, .long v3)] [] := by
  intro σ v1 v2 v3 g1 g2 h hGσ hYσ hE hth H locs ls hH hl hc
  have B := K.1
  have hl9 := K.2.2.2.2.2.2
  unfold w_X11_advance_48 at h
  refine lv_aload_n B.1 B.2.1 dX11_advance_48 rfl (lv_at hl 0 rfl) ?_
  refine lv_aload_nQ B.1 B.2.1 dX11_advance_49 rfl (lv_at hl 1 rfl) ?_
  refine lv_aload_nQ B.1 B.2.1 dX11_advance_50 rfl (lv_at hl 2 rfl) ?_
  refine lv_lload_n B.1 B.2.1 dX11_advance_51 rfl (lv_at hl 3 rfl) ?_
  refine lv_iconst (v := i32 0) B.1 B.2.1 dX11_advance_52 (by decide) ?_
  refine W.eq (g2 := F0 m 53 ls [.int (i32 0), .long v3, va_rf v2, va_rf v1, .ref th]) (rfl) ?_
  refine c_V B hH hl hc K.2.2.1 (C := RX11) (T := TX11) (N := 6) (ci := 11) (As := [va_rf v1, va_rf v2, .long v3, .int (i32 0)]) (ok_X11_endFolds hl9 K.2.1 σ th v1 v2 v3 0 g1 g2 (by unfold rng; omega) hth hGσ hYσ h) wc_X11_101 4 hd_X11_endFolds ⟨Nat.le_trans (Nat.le_of_ble_eq_true rfl) K.2.2.2.1, Nat.le_trans (Nat.le_of_ble_eq_true rfl) K.2.2.2.2.1⟩ hth.1 hth.2 (by decide) rfl rfl (rest := []) rfl (Nat.le_of_ble_eq_true rfl) dX11_advance_53 (fun σ25 w hq => ?_) (fun σ9 E9 hx9 => hX σ9 E9 _ _ _ (tb_out K.2.2.2.2.2.1 rfl) hx9.1 hx9.2.1 hx9.2.2.1 (hE.trans hx9.2.2.2))
  obtain ⟨rfl, h, hGσ25, hYσ25, xσ25⟩ := hq
  have h := h xσ25
  intro H locs ls hH hl hc
  refine W.eq (g2 := F0 m 56 ls []) (rfl) ?_
  try dsimp only at h
  refine lv_goto (tgt := 148) B.1 B.2.1 dX11_advance_56 (by decide) ?_
  exact a_X11_advance_148 K hQ hX hTh _ h hGσ25 hYσ25 (hE.trans xσ25) (hth.up xσ25) _ _ _ hH (lv_sub (l' := [(0, .ref th)]) hl [0] rfl) hc
set_option maxRecDepth 20000 in
theorem a_X11_advance_59 {Q : Sg → Unit → Prop} {X : Sg → String → Prop} {th : Nat} (K : MD l R p s m args c cX11_advance 5 RX11 D cA tys A n0 s0 10 192 []) (hQ : CQV p l e R s m args below meth c cX11_advance D cA A n0 s0 QM σi Q) (hX : CX p l e R s m args below meth c 5 D cA A n0 s0 QM σi X) (hTh : CT p l e R s m args below meth c cX11_advance 5 D cA A n0 s0 QM σi RX11 X) : ∀ (σ : Sg) (v1 : Option Nat) (v2 : Option Nat) (v3 : Int64) (g1 : tyV σ 5 v1) (g2 : tyV σ 10 v2), w_X11_advance_59 th Q X σ v1 v2 v3 → RG σ → TY σ → Ext σi σ → kO σ th 11 → JJ p l e R s m args below meth c 5 D cA A n0 s0 QM σ 59 [(0, .ref th), (1, va_rf v1), (2, va_rf v2), (3, .long v3)] [] := by
  intro σ v1 v2 v3 g1 g2 h hGσ hYσ hE hth H locs ls hH hl hc
  have B := K.1
  have hl9 := K.2.2.2.2.2.2
  unfold w_X11_advance_59 at h
  refine lv_aload_n B.1 B.2.1 dX11_advance_59 rfl (lv_at hl 0 rfl) ?_
  refine lv_aload_nQ B.1 B.2.1 dX11_advance_60 rfl (lv_at hl 1 rfl) ?_
  refine lv_aload_nQ B.1 B.2.1 dX11_advance_61 rfl (lv_at hl 2 rfl) ?_
  refine lv_lload_n B.1 B.2.1 dX11_advance_62 rfl (lv_at hl 3 rfl) ?_
  refine lv_aload_nQ B.1 B.2.1 dX11_advance_63 rfl (lv_at hl 1 rfl) ?_
  obtain ⟨a26, ea26, h⟩ := h
  have ka26 : kO σ a26 5 := g1 a26 ea26
  have h := h ka26
  refine W.eq (g2 := F0 m 64 ls [.ref a26, .long v3, va_rf v2, va_rf v1, .ref th]) (by rw [ea26]; rfl) ?_
  refine f_geti B hH ka26 (by decide) rfl wu_X5 11 (by decide) wf_X11_76 rfl rfl dX11_advance_64 ?_
  refine lv_iconst (v := i32 1) B.1 B.2.1 dX11_advance_67 (by decide) ?_
  obtain ⟨q1, h⟩ := h
  refine lv_isub B.1 B.2.1 dX11_advance_68 ?_
  rw [i32_sub]
  refine W.eq (g2 := F0 m 69 ls [.int (i32 (gI σ a26 11 - 1)), .long v3, va_rf v2, va_rf v1, .ref th]) (rfl) ?_
  refine c_V B hH hl hc K.2.2.1 (C := RX11) (T := TX11) (N := 6) (ci := 11) (As := [va_rf v1, va_rf v2, .long v3, .int (i32 (gI σ a26 11 - 1))]) (ok_X11_endFolds hl9 K.2.1 σ th v1 v2 v3 (gI σ a26 11 - 1) g1 g2 q1 hth hGσ hYσ h) wc_X11_101 4 hd_X11_endFolds ⟨Nat.le_trans (Nat.le_of_ble_eq_true rfl) K.2.2.2.1, Nat.le_trans (Nat.le_of_ble_eq_true rfl) K.2.2.2.2.1⟩ hth.1 hth.2 (by decide) rfl rfl (rest := []) rfl (Nat.le_of_ble_eq_true rfl) dX11_advance_69 (fun σ27 w hq => ?_) (fun σ9 E9 hx9 => hX σ9 E9 _ _ _ (tb_out K.2.2.2.2.2.1 rfl) hx9.1 hx9.2.1 hx9.2.2.1 (hE.trans hx9.2.2.2))
  obtain ⟨rfl, h, hGσ27, hYσ27, xσ27⟩ := hq
  have h := h xσ27
  intro H locs ls hH hl hc
  refine W.eq (g2 := F0 m 72 ls []) (rfl) ?_
  try dsimp only at h
  refine lv_goto (tgt := 148) B.1 B.2.1 dX11_advance_72 (by decide) ?_
  exact a_X11_advance_148 K hQ hX hTh _ h hGσ27 hYσ27 (hE.trans xσ27) (hth.up xσ27) _ _ _ hH (lv_sub (l' := [(0, .ref th)]) hl [0] rfl) hc
set_option maxRecDepth 20000 in
theorem a_X11_advance_75 {Q : Sg → Unit → Prop} {X : Sg → String → Prop} {th : Nat} (K : MD l R p s m args c cX11_advance 5 RX11 D cA tys A n0 s0 10 192 []) (hQ : CQV p l e R s m args below meth c cX11_advance D cA A n0 s0 QM σi Q) (hX : CX p l e R s m args below meth c 5 D cA A n0 s0 QM σi X) (hTh : CT p l e R s m args below meth c cX11_advance 5 D cA A n0 s0 QM σi RX11 X) : ∀ (σ : Sg) (v1 : Option Nat) (v2 : Option Nat) (v3 : Int64) (g1 : tyV σ 5 v1) (g2 : tyV σ 10 v2), w_X11_advance_75 th Q X σ v1 v2 v3 → RG σ → TY σ → Ext σi σ → kO σ th 11 → JJ p l e R s m args below meth c 5 D cA A n0 s0 QM σ 75 [(0, .ref th), (1, va_rf v1), (2, va_rf v2), (3, .long v3)] [] := by
  intro σ v1 v2 v3 g1 g2 h hGσ hYσ hE hth H locs ls hH hl hc
  have B := K.1
  have hl9 := K.2.2.2.2.2.2
  unfold w_X11_advance_75 at h
  refine lv_aload_n B.1 B.2.1 dX11_advance_75 rfl (lv_at hl 0 rfl) ?_
  refine lv_aload_nQ B.1 B.2.1 dX11_advance_76 rfl (lv_at hl 2 rfl) ?_
  obtain ⟨a28, ea28, h⟩ := h
  have ka28 : kO σ a28 10 := g2 a28 ea28
  have h := h ka28
  refine W.eq (g2 := F0 m 77 ls [.ref a28, .ref th]) (by rw [ea28]; rfl) ?_
  refine f_getp B hH ka28 (by decide) rfl wu_X10 2 (by decide) wf_X11_105 rfl rfl dX11_advance_77 ?_
  refine lv_lload_n B.1 B.2.1 dX11_advance_80 rfl (lv_at hl 3 rfl) ?_
  refine lv_aload_nQ B.1 B.2.1 dX11_advance_81 rfl (lv_at hl 1 rfl) ?_
  obtain ⟨a29, ea29, h⟩ := h
  have ka29 : kO σ a29 5 := g1 a29 ea29
  have h := h ka29
  refine W.eq (g2 := F0 m 82 ls [.ref a29, .long v3, va_rf (gP σ a28 2), .ref th]) (by rw [ea29]; rfl) ?_
  refine f_geti B hH ka29 (by decide) rfl wu_X5 16 (by decide) wf_X11_110 rfl rfl dX11_advance_82 ?_
  refine lv_i2l B.1 B.2.1 dX11_advance_85 (i32_i64 (hGσ _ _)) ?_
  refine lv_lsub B.1 B.2.1 dX11_advance_86 ?_
  refine W.eq (g2 := F0 m 87 ls [.long (v3 - (Int64.ofInt (gI σ a29 16))), va_rf (gP σ a28 2), .ref th]) (rfl) ?_
  refine c_V B hH hl hc K.2.2.1 (C := RX11) (T := TX11) (N := 6) (ci := 11) (As := [va_rf (gP σ a28 2), .long (v3 - (Int64.ofInt (gI σ a29 16)))]) (ok_X11_dropUpTo hl9 K.2.1 σ th (gP σ a28 2) (v3 - (Int64.ofInt (gI σ a29 16))) (hYσ.get ka28 (by decide)) hth hGσ hYσ h) wc_X11_113 2 hd_X11_dropUpTo ⟨Nat.le_trans (Nat.le_of_ble_eq_true rfl) K.2.2.2.1, Nat.le_trans (Nat.le_of_ble_eq_true rfl) K.2.2.2.2.1⟩ hth.1 hth.2 (by decide) rfl rfl (rest := []) rfl (Nat.le_of_ble_eq_true rfl) dX11_advance_87 (fun σ30 w hq => ?_) (fun σ9 E9 hx9 => hX σ9 E9 _ _ _ (tb_out K.2.2.2.2.2.1 rfl) hx9.1 hx9.2.1 hx9.2.2.1 (hE.trans hx9.2.2.2))
  obtain ⟨rfl, h, hGσ30, hYσ30, xσ30⟩ := hq
  have h := h xσ30
  intro H locs ls hH hl hc
  refine W.eq (g2 := F0 m 90 ls []) (rfl) ?_
  try dsimp only at h
  refine lv_aload_n B.1 B.2.1 dX11_advance_90 rfl (lv_at hl 0 rfl) ?_
  refine lv_aload_nQ B.1 B.2.1 dX11_advance_91 rfl (lv_at hl 2 rfl) ?_
  refine W.eq (g2 := F0 m 92 ls [.ref a28, .ref th]) (by rw [ea28]; rfl) ?_
  refine f_getp B hH (ka28.up xσ30) (by decide) rfl wu_X10 3 (by decide) wf_X11_117 rfl rfl dX11_advance_92 ?_
  refine lv_lload_n B.1 B.2.1 dX11_advance_95 rfl (lv_at hl 3 rfl) ?_
  refine lv_aload_nQ B.1 B.2.1 dX11_advance_96 rfl (lv_at hl 1 rfl) ?_
  refine W.eq (g2 := F0 m 97 ls [.ref a29, .long v3, va_rf (gP σ30 a28 3), .ref th]) (by rw [ea29]; rfl) ?_
  refine f_geti B hH (ka29.up xσ30) (by decide) rfl wu_X5 15 (by decide) wf_X11_120 rfl rfl dX11_advance_97 ?_
  refine lv_i2l B.1 B.2.1 dX11_advance_100 (i32_i64 (hGσ30 _ _)) ?_
  refine lv_ladd B.1 B.2.1 dX11_advance_101 ?_
  refine W.eq (g2 := F0 m 102 ls [.long (v3 + (Int64.ofInt (gI σ30 a29 15))), va_rf (gP σ30 a28 3), .ref th]) (rfl) ?_
  refine c_V B hH hl hc K.2.2.1 (C := RX11) (T := TX11) (N := 6) (ci := 11) (As := [va_rf (gP σ30 a28 3), .long (v3 + (Int64.ofInt (gI σ30 a29 15)))]) (ok_X11_dropUpTo hl9 K.2.1 σ30 th (gP σ30 a28 3) (v3 + (Int64.ofInt (gI σ30 a29 15))) (hYσ30.get (ka28.up xσ30) (by decide)) (hth.up xσ30) hGσ30 hYσ30 h) wc_X11_113 2 hd_X11_dropUpTo ⟨Nat.le_trans (Nat.le_of_ble_eq_true rfl) K.2.2.2.1, Nat.le_trans (Nat.le_of_ble_eq_true rfl) K.2.2.2.2.1⟩ (hth.up xσ30).1 (hth.up xσ30).2 (by decide) rfl rfl (rest := []) rfl (Nat.le_of_ble_eq_true rfl) dX11_advance_102 (fun σ31 w hq => ?_) (fun σ9 E9 hx9 => hX σ9 E9 _ _ _ (tb_out K.2.2.2.2.2.1 rfl) hx9.1 hx9.2.1 hx9.2.2.1 ((hE.trans xσ30).trans hx9.2.2.2))
  obtain ⟨rfl, h, hGσ31, hYσ31, xσ31⟩ := hq
  have h := h xσ31
  intro H locs ls hH hl hc
  refine W.eq (g2 := F0 m 105 ls []) (rfl) ?_
  try dsimp only at h
  refine lv_goto (tgt := 148) B.1 B.2.1 dX11_advance_105 (by decide) ?_
  exact a_X11_advance_148 K hQ hX hTh _ h hGσ31 hYσ31 ((hE.trans xσ30).trans xσ31) (hth.up (xσ30.trans xσ31)) _ _ _ hH (lv_sub (l' := [(0, .ref th)]) hl [0] rfl) hc
set_option maxRecDepth 20000 in
theorem a_X11_advance_108 {Q : Sg → Unit → Prop} {X : Sg → String → Prop} {th : Nat} (K : MD l R p s m args c cX11_advance 5 RX11 D cA tys A n0 s0 10 192 []) (hQ : CQV p l e R s m args below meth c cX11_advance D cA A n0 s0 QM σi Q) (hX : CX p l e R s m args below meth c 5 D cA A n0 s0 QM σi X) (hTh : CT p l e R s m args below meth c cX11_advance 5 D cA A n0 s0 QM σi RX11 X) : ∀ (σ : Sg) (v1 : Option Nat) (v2 : Option Nat) (v3 : Int64) (g1 : tyV σ 5 v1) (g2 : tyV σ 10 v2), w_X11_advance_108 th Q X σ v1 v2 v3 → RG σ → TY σ → Ext σi σ → kO σ th 11 → JJ p l e R s m args below meth c 5 D cA A n0 s0 QM σ 108 [(0, .ref th), (1, va_rf v1), (2, va_rf v2), (3, .long v3)] [] := by
  intro σ v1 v2 v3 g1 g2 h hGσ hYσ hE hth H locs ls hH hl hc
  have B := K.1
  have hl9 := K.2.2.2.2.2.2
  unfold w_X11_advance_108 at h
  refine lv_aload_n B.1 B.2.1 dX11_advance_108 rfl (lv_at hl 0 rfl) ?_
  refine lv_aload_nQ B.1 B.2.1 dX11_advance_109 rfl (lv_at hl 1 rfl) ?_
  refine lv_aload_nQ B.1 B.2.1 dX11_advance_110 rfl (lv_at hl 2 rfl) ?_
  refine lv_lload_n B.1 B.2.1 dX11_advance_111 rfl (lv_at hl 3 rfl) ?_
  refine W.eq (g2 := F0 m 112 ls [.long v3, va_rf v2, va_rf v1, .ref th]) (rfl) ?_
  refine c_V B hH hl hc K.2.2.1 (C := RX11) (T := TX11) (N := 6) (ci := 11) (As := [va_rf v1, va_rf v2, .long v3]) (ok_X11_lookUpTo hl9 K.2.1 σ th v1 v2 v3 g1 g2 hth hGσ hYσ h) wc_X11_123 3 hd_X11_lookUpTo ⟨Nat.le_trans (Nat.le_of_ble_eq_true rfl) K.2.2.2.1, Nat.le_trans (Nat.le_of_ble_eq_true rfl) K.2.2.2.2.1⟩ hth.1 hth.2 (by decide) rfl rfl (rest := []) rfl (Nat.le_of_ble_eq_true rfl) dX11_advance_112 (fun σ32 w hq => ?_) (fun σ9 E9 hx9 => hX σ9 E9 _ _ _ (tb_out K.2.2.2.2.2.1 rfl) hx9.1 hx9.2.1 hx9.2.2.1 (hE.trans hx9.2.2.2))
  obtain ⟨rfl, h, hGσ32, hYσ32, xσ32⟩ := hq
  have h := h xσ32
  intro H locs ls hH hl hc
  refine W.eq (g2 := F0 m 115 ls []) (rfl) ?_
  try dsimp only at h
  refine lv_goto (tgt := 148) B.1 B.2.1 dX11_advance_115 (by decide) ?_
  exact a_X11_advance_148 K hQ hX hTh _ h hGσ32 hYσ32 (hE.trans xσ32) (hth.up xσ32) _ _ _ hH (lv_sub (l' := [(0, .ref th)]) hl [0] rfl) hc
set_option maxRecDepth 20000 in
theorem a_X11_advance_118 {Q : Sg → Unit → Prop} {X : Sg → String → Prop} {th : Nat} (K : MD l R p s m args c cX11_advance 5 RX11 D cA tys A n0 s0 10 192 []) (hQ : CQV p l e R s m args below meth c cX11_advance D cA A n0 s0 QM σi Q) (hX : CX p l e R s m args below meth c 5 D cA A n0 s0 QM σi X) (hTh : CT p l e R s m args below meth c cX11_advance 5 D cA A n0 s0 QM σi RX11 X) : ∀ (σ : Sg) (v1 : Option Nat) (v2 : Option Nat) (v3 : Int64) (g1 : tyV σ 5 v1) (g2 : tyV σ 10 v2), w_X11_advance_118 th Q X σ v1 v2 v3 → RG σ → TY σ → Ext σi σ → kO σ th 11 → JJ p l e R s m args below meth c 5 D cA A n0 s0 QM σ 118 [(0, .ref th), (1, va_rf v1), (2, va_rf v2), (3, .long v3)] [] := by
  intro σ v1 v2 v3 g1 g2 h hGσ hYσ hE hth H locs ls hH hl hc
  have B := K.1
  have hl9 := K.2.2.2.2.2.2
  unfold w_X11_advance_118 at h
  refine lv_aload_n B.1 B.2.1 dX11_advance_118 rfl (lv_at hl 0 rfl) ?_
  refine lv_aload_nQ B.1 B.2.1 dX11_advance_119 rfl (lv_at hl 1 rfl) ?_
  refine lv_aload_nQ B.1 B.2.1 dX11_advance_120 rfl (lv_at hl 2 rfl) ?_
  refine lv_lload_n B.1 B.2.1 dX11_advance_121 rfl (lv_at hl 3 rfl) ?_
  refine W.eq (g2 := F0 m 122 ls [.long v3, va_rf v2, va_rf v1, .ref th]) (rfl) ?_
  refine c_V B hH hl hc K.2.2.1 (C := RX11) (T := TX11) (N := 6) (ci := 11) (As := [va_rf v1, va_rf v2, .long v3]) (ok_X11_matchUpTo hl9 K.2.1 σ th v1 v2 v3 g1 g2 hth hGσ hYσ h) wc_X11_127 3 hd_X11_matchUpTo ⟨Nat.le_trans (Nat.le_of_ble_eq_true rfl) K.2.2.2.1, Nat.le_trans (Nat.le_of_ble_eq_true rfl) K.2.2.2.2.1⟩ hth.1 hth.2 (by decide) rfl rfl (rest := []) rfl (Nat.le_of_ble_eq_true rfl) dX11_advance_122 (fun σ33 w hq => ?_) (fun σ9 E9 hx9 => hX σ9 E9 _ _ _ (tb_out K.2.2.2.2.2.1 rfl) hx9.1 hx9.2.1 hx9.2.2.1 (hE.trans hx9.2.2.2))
  obtain ⟨rfl, h, hGσ33, hYσ33, xσ33⟩ := hq
  have h := h xσ33
  intro H locs ls hH hl hc
  refine W.eq (g2 := F0 m 125 ls []) (rfl) ?_
  try dsimp only at h
  refine lv_goto (tgt := 148) B.1 B.2.1 dX11_advance_125 (by decide) ?_
  exact a_X11_advance_148 K hQ hX hTh _ h hGσ33 hYσ33 (hE.trans xσ33) (hth.up xσ33) _ _ _ hH (lv_sub (l' := [(0, .ref th)]) hl [0] rfl) hc
set_option maxRecDepth 20000 in
theorem a_X11_advance_128 {Q : Sg → Unit → Prop} {X : Sg → String → Prop} {th : Nat} (K : MD l R p s m args c cX11_advance 5 RX11 D cA tys A n0 s0 10 192 []) (hQ : CQV p l e R s m args below meth c cX11_advance D cA A n0 s0 QM σi Q) (hX : CX p l e R s m args below meth c 5 D cA A n0 s0 QM σi X) (hTh : CT p l e R s m args below meth c cX11_advance 5 D cA A n0 s0 QM σi RX11 X) : ∀ (σ : Sg) (v1 : Option Nat) (v2 : Option Nat) (v3 : Int64) (g1 : tyV σ 5 v1) (g2 : tyV σ 10 v2), w_X11_advance_128 th Q X σ v1 v2 v3 → RG σ → TY σ → Ext σi σ → kO σ th 11 → JJ p l e R s m args below meth c 5 D cA A n0 s0 QM σ 128 [(0, .ref th), (1, va_rf v1), (2, va_rf v2), (3, .long v3)] [] := by
  intro σ v1 v2 v3 g1 g2 h hGσ hYσ hE hth H locs ls hH hl hc
  have B := K.1
  have hl9 := K.2.2.2.2.2.2
  unfold w_X11_advance_128 at h
  refine lv_aload_n B.1 B.2.1 dX11_advance_128 rfl (lv_at hl 0 rfl) ?_
  refine lv_aload_nQ B.1 B.2.1 dX11_advance_129 rfl (lv_at hl 1 rfl) ?_
  refine lv_aload_nQ B.1 B.2.1 dX11_advance_130 rfl (lv_at hl 2 rfl) ?_
  refine lv_lload_n B.1 B.2.1 dX11_advance_131 rfl (lv_at hl 3 rfl) ?_
  refine W.eq (g2 := F0 m 132 ls [.long v3, va_rf v2, va_rf v1, .ref th]) (rfl) ?_
  refine c_V B hH hl hc K.2.2.1 (C := RX11) (T := TX11) (N := 6) (ci := 11) (As := [va_rf v1, va_rf v2, .long v3]) (ok_X11_uniqueUpTo hl9 K.2.1 σ th v1 v2 v3 g1 g2 hth hGσ hYσ h) wc_X11_130 3 hd_X11_uniqueUpTo ⟨Nat.le_trans (Nat.le_of_ble_eq_true rfl) K.2.2.2.1, Nat.le_trans (Nat.le_of_ble_eq_true rfl) K.2.2.2.2.1⟩ hth.1 hth.2 (by decide) rfl rfl (rest := []) rfl (Nat.le_of_ble_eq_true rfl) dX11_advance_132 (fun σ34 w hq => ?_) (fun σ9 E9 hx9 => hX σ9 E9 _ _ _ (tb_out K.2.2.2.2.2.1 rfl) hx9.1 hx9.2.1 hx9.2.2.1 (hE.trans hx9.2.2.2))
  obtain ⟨rfl, h, hGσ34, hYσ34, xσ34⟩ := hq
  have h := h xσ34
  intro H locs ls hH hl hc
  refine W.eq (g2 := F0 m 135 ls []) (rfl) ?_
  try dsimp only at h
  refine lv_goto (tgt := 148) B.1 B.2.1 dX11_advance_135 (by decide) ?_
  exact a_X11_advance_148 K hQ hX hTh _ h hGσ34 hYσ34 (hE.trans xσ34) (hth.up xσ34) _ _ _ hH (lv_sub (l' := [(0, .ref th)]) hl [0] rfl) hc
set_option maxRecDepth 20000 in
theorem a_X11_advance_138 {Q : Sg → Unit → Prop} {X : Sg → String → Prop} {th : Nat} (K : MD l R p s m args c cX11_advance 5 RX11 D cA tys A n0 s0 10 192 []) (hQ : CQV p l e R s m args below meth c cX11_advance D cA A n0 s0 QM σi Q) (hX : CX p l e R s m args below meth c 5 D cA A n0 s0 QM σi X) (hTh : CT p l e R s m args below meth c cX11_advance 5 D cA A n0 s0 QM σi RX11 X) : ∀ (σ : Sg) (v1 : Option Nat) (v2 : Option Nat) (v3 : Int64) (g1 : tyV σ 5 v1) (g2 : tyV σ 10 v2), w_X11_advance_138 th Q X σ v1 v2 v3 → RG σ → TY σ → Ext σi σ → kO σ th 11 → JJ p l e R s m args below meth c 5 D cA A n0 s0 QM σ 138 [(0, .ref th), (1, va_rf v1), (2, va_rf v2), (3, .long v3)] [] := by
  intro σ v1 v2 v3 g1 g2 h hGσ hYσ hE hth H locs ls hH hl hc
  have B := K.1
  have hl9 := K.2.2.2.2.2.2
  unfold w_X11_advance_138 at h
  refine lv_aload_n B.1 B.2.1 dX11_advance_138 rfl (lv_at hl 0 rfl) ?_
  refine lv_aload_nQ B.1 B.2.1 dX11_advance_139 rfl (lv_at hl 1 rfl) ?_
  refine lv_aload_nQ B.1 B.2.1 dX11_advance_140 rfl (lv_at hl 2 rfl) ?_
  refine lv_lload_n B.1 B.2.1 dX11_advance_141 rfl (lv_at hl 3 rfl) ?_
  refine W.eq (g2 := F0 m 142 ls [.long v3, va_rf v2, va_rf v1, .ref th]) (rfl) ?_
  refine c_V B hH hl hc K.2.2.1 (C := RX11) (T := TX11) (N := 6) (ci := 11) (As := [va_rf v1, va_rf v2, .long v3]) (ok_X11_topUpTo hl9 K.2.1 σ th v1 v2 v3 g1 g2 hth hGσ hYσ h) wc_X11_133 3 hd_X11_topUpTo ⟨Nat.le_trans (Nat.le_of_ble_eq_true rfl) K.2.2.2.1, Nat.le_trans (Nat.le_of_ble_eq_true rfl) K.2.2.2.2.1⟩ hth.1 hth.2 (by decide) rfl rfl (rest := []) rfl (Nat.le_of_ble_eq_true rfl) dX11_advance_142 (fun σ35 w hq => ?_) (fun σ9 E9 hx9 => hX σ9 E9 _ _ _ (tb_out K.2.2.2.2.2.1 rfl) hx9.1 hx9.2.1 hx9.2.2.1 (hE.trans hx9.2.2.2))
  obtain ⟨rfl, h, hGσ35, hYσ35, xσ35⟩ := hq
  have h := h xσ35
  intro H locs ls hH hl hc
  refine W.eq (g2 := F0 m 145 ls []) (rfl) ?_
  try dsimp only at h
  refine lv_goto (tgt := 148) B.1 B.2.1 dX11_advance_145 (by decide) ?_
  exact a_X11_advance_148 K hQ hX hTh _ h hGσ35 hYσ35 (hE.trans xσ35) (hth.up xσ35) _ _ _ hH (lv_sub (l' := [(0, .ref th)]) hl [0] rfl) hc
set_option maxRecDepth 20000 in
theorem a_X11_advance_0 {Q : Sg → Unit → Prop} {X : Sg → String → Prop} {th : Nat} (K : MD l R p s m args c cX11_advance 5 RX11 D cA tys A n0 s0 10 192 []) (hQ : CQV p l e R s m args below meth c cX11_advance D cA A n0 s0 QM σi Q) (hX : CX p l e R s m args below meth c 5 D cA A n0 s0 QM σi X) (hTh : CT p l e R s m args below meth c cX11_advance 5 D cA A n0 s0 QM σi RX11 X) : ∀ (σ : Sg) (v1 : Option Nat) (v2 : Option Nat) (v3 : Int64) (g1 : tyV σ 5 v1) (g2 : tyV σ 10 v2), w_X11_advance_0 th Q X σ v1 v2 v3 → RG σ → TY σ → Ext σi σ → kO σ th 11 → JJ p l e R s m args below meth c 5 D cA A n0 s0 QM σ 0 [(0, .ref th), (1, va_rf v1), (2, va_rf v2), (3, .long v3)] [] := by
  intro σ v1 v2 v3 g1 g2 h hGσ hYσ hE hth H locs ls hH hl hc
  have B := K.1
  have hl9 := K.2.2.2.2.2.2
  unfold w_X11_advance_0 at h
  refine lv_aload_nQ B.1 B.2.1 dX11_advance_0 rfl (lv_at hl 1 rfl) ?_
  obtain ⟨a36, ea36, h⟩ := h
  have ka36 : kO σ a36 5 := g1 a36 ea36
  have h := h ka36
  refine W.eq (g2 := F0 m 1 ls [.ref a36]) (by rw [ea36]; rfl) ?_
  refine f_geti B hH ka36 (by decide) rfl wu_X5 6 (by decide) wf_X11_30 rfl rfl dX11_advance_1 ?_
  rcases Classical.em (gI σ a36 6 = 4) with e9 | e9
  · rw [if_pos e9] at h
    refine lv_tableIn (off := 44) (tgt := 48) B.1 B.2.1 dX11_advance_4 (by rw [i32_toInt (hGσ _ _), e9]; decide) (by rw [i32_toInt (hGσ _ _), e9]; decide) (by rw [i32_toInt (hGσ _ _), e9]; rfl) (by decide) ?_
    exact a_X11_advance_48 K hQ hX hTh _ _ _ _ g1 g2 h hGσ hYσ hE hth _ _ _ hH (lv_sub (l' := [(0, .ref th), (1, va_rf v1), (2, va_rf v2), (3, .long v3)]) hl [0, 1, 2, 3] rfl) hc
  rw [if_neg e9] at h
  have k1 := e9
  rcases Classical.em (gI σ a36 6 = 5) with e9 | e9
  · rw [if_pos e9] at h
    refine lv_tableIn (off := 55) (tgt := 59) B.1 B.2.1 dX11_advance_4 (by rw [i32_toInt (hGσ _ _), e9]; decide) (by rw [i32_toInt (hGσ _ _), e9]; decide) (by rw [i32_toInt (hGσ _ _), e9]; rfl) (by decide) ?_
    exact a_X11_advance_59 K hQ hX hTh _ _ _ _ g1 g2 h hGσ hYσ hE hth _ _ _ hH (lv_sub (l' := [(0, .ref th), (1, va_rf v1), (2, va_rf v2), (3, .long v3)]) hl [0, 1, 2, 3] rfl) hc
  rw [if_neg e9] at h
  have k2 := e9
  rcases Classical.em (gI σ a36 6 = 6) with e9 | e9
  · rw [if_pos e9] at h
    refine lv_tableIn (off := 71) (tgt := 75) B.1 B.2.1 dX11_advance_4 (by rw [i32_toInt (hGσ _ _), e9]; decide) (by rw [i32_toInt (hGσ _ _), e9]; decide) (by rw [i32_toInt (hGσ _ _), e9]; rfl) (by decide) ?_
    exact a_X11_advance_75 K hQ hX hTh _ _ _ _ g1 g2 h hGσ hYσ hE hth _ _ _ hH (lv_sub (l' := [(0, .ref th), (1, va_rf v1), (2, va_rf v2), (3, .long v3)]) hl [0, 1, 2, 3] rfl) hc
  rw [if_neg e9] at h
  have k3 := e9
  rcases Classical.em (gI σ a36 6 = 7) with e9 | e9
  · rw [if_pos e9] at h
    refine lv_tableIn (off := 104) (tgt := 108) B.1 B.2.1 dX11_advance_4 (by rw [i32_toInt (hGσ _ _), e9]; decide) (by rw [i32_toInt (hGσ _ _), e9]; decide) (by rw [i32_toInt (hGσ _ _), e9]; rfl) (by decide) ?_
    exact a_X11_advance_108 K hQ hX hTh _ _ _ _ g1 g2 h hGσ hYσ hE hth _ _ _ hH (lv_sub (l' := [(0, .ref th), (1, va_rf v1), (2, va_rf v2), (3, .long v3)]) hl [0, 1, 2, 3] rfl) hc
  rw [if_neg e9] at h
  have k4 := e9
  rcases Classical.em (gI σ a36 6 = 8) with e9 | e9
  · rw [if_pos e9] at h
    refine lv_tableIn (off := 114) (tgt := 118) B.1 B.2.1 dX11_advance_4 (by rw [i32_toInt (hGσ _ _), e9]; decide) (by rw [i32_toInt (hGσ _ _), e9]; decide) (by rw [i32_toInt (hGσ _ _), e9]; rfl) (by decide) ?_
    exact a_X11_advance_118 K hQ hX hTh _ _ _ _ g1 g2 h hGσ hYσ hE hth _ _ _ hH (lv_sub (l' := [(0, .ref th), (1, va_rf v1), (2, va_rf v2), (3, .long v3)]) hl [0, 1, 2, 3] rfl) hc
  rw [if_neg e9] at h
  have k5 := e9
  rcases Classical.em (gI σ a36 6 = 9) with e9 | e9
  · rw [if_pos e9] at h
    refine lv_tableIn (off := 124) (tgt := 128) B.1 B.2.1 dX11_advance_4 (by rw [i32_toInt (hGσ _ _), e9]; decide) (by rw [i32_toInt (hGσ _ _), e9]; decide) (by rw [i32_toInt (hGσ _ _), e9]; rfl) (by decide) ?_
    exact a_X11_advance_128 K hQ hX hTh _ _ _ _ g1 g2 h hGσ hYσ hE hth _ _ _ hH (lv_sub (l' := [(0, .ref th), (1, va_rf v1), (2, va_rf v2), (3, .long v3)]) hl [0, 1, 2, 3] rfl) hc
  rw [if_neg e9] at h
  have k6 := e9
  rcases Classical.em (gI σ a36 6 = 10) with e9 | e9
  · rw [if_pos e9] at h
    refine lv_tableIn (off := 134) (tgt := 138) B.1 B.2.1 dX11_advance_4 (by rw [i32_toInt (hGσ _ _), e9]; decide) (by rw [i32_toInt (hGσ _ _), e9]; decide) (by rw [i32_toInt (hGσ _ _), e9]; rfl) (by decide) ?_
    exact a_X11_advance_138 K hQ hX hTh _ _ _ _ g1 g2 h hGσ hYσ hE hth _ _ _ hH (lv_sub (l' := [(0, .ref th), (1, va_rf v1), (2, va_rf v2), (3, .long v3)]) hl [0, 1, 2, 3] rfl) hc
  rw [if_neg e9] at h
  have k7 := e9
  rcases (show (gI σ a36 6 < 4 ∨ 10 < gI σ a36 6) ∨ False by omega) with e9 | e9
  · refine lv_tableOut (tgt := 148) B.1 B.2.1 dX11_advance_4 (by rw [i32_toInt (hGσ _ _)]; exact e9) (by decide) ?_
    exact a_X11_advance_148 K hQ hX hTh _ h hGσ hYσ hE hth _ _ _ hH (lv_sub (l' := [(0, .ref th)]) hl [0] rfl) hc
  exact e9.elim
theorem ok_X11_advance (hl0 : l.stackTraces = false) (hT : TyC cA tys) {Q : Sg → Unit → Prop} {X : Sg → String → Prop} (σ : Sg) (th : Nat) (v1 : Option Nat) (v2 : Option Nat) (v3 : Int64) (g1 : tyV σ 5 v1) (g2 : tyV σ 10 v2) (hth : kO σ th 11) (hG : RG σ) (hY : TY σ) (h : wp_X11_advance th v1 v2 v3 σ Q X) : Ok l D cA tys A yX11_advance (.code yX11_advance cX11_advance 5 none) 10 192 [.ref th, va_rf v1, va_rf v2, .long v3] σ (QcV σ Q) (QxC σ X) := by
  unfold wp_X11_advance at h
  exact oc_V hl0 (by decide) (by cases v1 <;> cases v2 <;> exact Nat.le_of_ble_eq_true rfl) hT (fun p e R s m args below meth c K hQ hX hTh hin9 H locs ls hH hl hc => a_X11_advance_0 K hQ hX hTh σ v1 v2 v3 g1 g2 h hG hY (Ext.rfl' σ) hth H locs ls hH (lv_sub (l' := [(0, .ref th), (1, va_rf v1), (2, va_rf v2), (3, .long v3)]) hl [0, 1, 2, 3] (by cases v1 <;> cases v2 <;> rfl)) hc)
end C80

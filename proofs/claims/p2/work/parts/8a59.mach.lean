section M59
variable {p : Program} {l : Launch} {e : Env} {R : Room} {s : State} {m : MethodId} {args : Array Value} {below : List Frame} {meth : Method} {c : Code} {D : va_G} {cA : Nat → ClassId} {tys : List (ClassId × FieldType)} {A : Nat → Prop} {n0 s0 : Nat} {QM : State → Prop} {dm : List Nat × Nat × Nat} {ra : Nat → Nat} {jx : Nat → Nat → Nat} {rm : Nat}
theorem dX16_newSet_0 : decode cX16_newSet 0 = .ok (.aload_n 0, 1) := by decide +kernel
theorem dX16_newSet_1 : decode cX16_newSet 1 = .ok (.getfield 343, 3) := by decide +kernel
theorem dX16_newSet_4 : decode cX16_newSet 4 = .ok (.sipush 30000, 3) := by decide +kernel
theorem dX16_newSet_7 : decode cX16_newSet 7 = .ok (.if_icmp .ne 8, 3) := by decide +kernel
theorem dX16_newSet_10 : decode cX16_newSet 10 = .ok (.aload_n 0, 1) := by decide +kernel
theorem dX16_newSet_11 : decode cX16_newSet 11 = .ok (.getfield 346, 3) := by decide +kernel
theorem dX16_newSet_14 : decode cX16_newSet 14 = .ok (.athrow, 1) := by decide +kernel
theorem dX16_newSet_15 : decode cX16_newSet 15 = .ok (.iconst 0, 1) := by decide +kernel
theorem dX16_newSet_16 : decode cX16_newSet 16 = .ok (.istore_n 1, 1) := by decide +kernel
theorem dX16_newSet_17 : decode cX16_newSet 17 = .ok (.iload_n 1, 1) := by decide +kernel
theorem dX16_newSet_18 : decode cX16_newSet 18 = .ok (.iconst 4, 1) := by decide +kernel
theorem dX16_newSet_19 : decode cX16_newSet 19 = .ok (.if_icmp .ge 23, 3) := by decide +kernel
theorem dX16_newSet_22 : decode cX16_newSet 22 = .ok (.aload_n 0, 1) := by decide +kernel
theorem dX16_newSet_23 : decode cX16_newSet 23 = .ok (.getfield 350, 3) := by decide +kernel
theorem dX16_newSet_26 : decode cX16_newSet 26 = .ok (.iconst 4, 1) := by decide +kernel
theorem dX16_newSet_27 : decode cX16_newSet 27 = .ok (.aload_n 0, 1) := by decide +kernel
theorem dX16_newSet_28 : decode cX16_newSet 28 = .ok (.getfield 343, 3) := by decide +kernel
theorem dX16_newSet_31 : decode cX16_newSet 31 = .ok (.imul, 1) := by decide +kernel
theorem dX16_newSet_32 : decode cX16_newSet 32 = .ok (.iload_n 1, 1) := by decide +kernel
theorem dX16_newSet_33 : decode cX16_newSet 33 = .ok (.iadd, 1) := by decide +kernel
theorem dX16_newSet_34 : decode cX16_newSet 34 = .ok (.lconst 0, 1) := by decide +kernel
theorem dX16_newSet_35 : decode cX16_newSet 35 = .ok (.lastore, 1) := by decide +kernel
theorem dX16_newSet_36 : decode cX16_newSet 36 = .ok (.iinc 1 1, 3) := by decide +kernel
theorem dX16_newSet_39 : decode cX16_newSet 39 = .ok (.goto (-22), 3) := by decide +kernel
theorem dX16_newSet_42 : decode cX16_newSet 42 = .ok (.aload_n 0, 1) := by decide +kernel
theorem dX16_newSet_43 : decode cX16_newSet 43 = .ok (.dup, 1) := by decide +kernel
theorem dX16_newSet_44 : decode cX16_newSet 44 = .ok (.getfield 343, 3) := by decide +kernel
theorem dX16_newSet_47 : decode cX16_newSet 47 = .ok (.iconst 1, 1) := by decide +kernel
theorem dX16_newSet_48 : decode cX16_newSet 48 = .ok (.iadd, 1) := by decide +kernel
theorem dX16_newSet_49 : decode cX16_newSet 49 = .ok (.putfield 343, 3) := by decide +kernel
theorem dX16_newSet_52 : decode cX16_newSet 52 = .ok (.aload_n 0, 1) := by decide +kernel
theorem dX16_newSet_53 : decode cX16_newSet 53 = .ok (.getfield 343, 3) := by decide +kernel
theorem dX16_newSet_56 : decode cX16_newSet 56 = .ok (.iconst 1, 1) := by decide +kernel
theorem dX16_newSet_57 : decode cX16_newSet 57 = .ok (.isub, 1) := by decide +kernel
theorem dX16_newSet_58 : decode cX16_newSet 58 = .ok (.ireturn, 1) := by decide +kernel
set_option maxRecDepth 20000 in
theorem a_X16_newSet_42 {Q : Sg → Int → Prop} {X : Sg → String → Prop} (K : MC R p s m args c cX16_newSet 2 RX16 D cA tys A n0 s0 0 0 []) (hQ : HQI p l e R s m args below meth c cX16_newSet D cA A n0 s0 QM dm ra jx rm Q) (hX : HX p l e R s m args below meth c 2 D cA A n0 s0 QM dm ra jx rm X) : ∀ (σ : Sg), w_X16_newSet_42 ra jx rm Q X σ → RG σ → Shp dm ra jx rm σ → JJ p l e R s m args below meth c 2 D cA A n0 s0 QM σ 42 [(0, .ref rm)] [] := by
  intro σ h hGσ hS H locs ls hH hl hc
  have B := K.1
  unfold w_X16_newSet_42 at h
  refine lv_aload_n B.1 B.2.1 dX16_newSet_42 rfl (lv_at hl 0 rfl) ?_
  refine lv_dup B.1 B.2.1 dX16_newSet_43 rfl ?_
  refine r_geti B hH hS 27 (by decide) wf_X16_343 rfl rfl dX16_newSet_44 ?_
  refine lv_iconst (v := i32 1) B.1 B.2.1 dX16_newSet_47 (by decide) ?_
  obtain ⟨q1, h⟩ := h
  refine lv_iadd B.1 B.2.1 dX16_newSet_48 ?_
  rw [i32_add]
  obtain ⟨σ5, eσ5⟩ : ∃ z, z = pI σ rm 27 (gI σ rm 27 + 1) := ⟨_, rfl⟩
  have h := h σ5 eσ5
  refine r_puti B hH hS 27 (ty := .int) (by decide) wf_X16_343 rfl rfl rfl rfl rfl rfl dX16_newSet_49 (fun H locs hH => ?_)
  have hH : Hd D cA A s (pI σ rm 27 (gI σ rm 27 + 1)) H locs := hH
  rw [← eσ5] at hH
  have hGσ5 : RG σ5 := by rw [eσ5]; exact hGσ.pI q1
  have hS : Shp dm ra jx rm σ5 := by rw [eσ5]; exact hS
  have hc : CB n0 s0 σ5 := by rw [eσ5]; exact hc
  rw [show gc σ = gc σ5 by rw [eσ5], show gs σ = gs σ5 by rw [eσ5]]
  refine lv_aload_n B.1 B.2.1 dX16_newSet_52 rfl (lv_at hl 0 rfl) ?_
  refine r_geti B hH hS 27 (by decide) wf_X16_343 rfl rfl dX16_newSet_53 ?_
  refine lv_iconst (v := i32 1) B.1 B.2.1 dX16_newSet_56 (by decide) ?_
  obtain ⟨q3, h⟩ := h
  refine lv_isub B.1 B.2.1 dX16_newSet_57 ?_
  rw [i32_sub]
  exact hQ _ _ _ _ _ _ q3 dX16_newSet_58 hH hc h hGσ5 hS
set_option maxRecDepth 20000 in
theorem a_X16_newSet_22 {Q : Sg → Int → Prop} {X : Sg → String → Prop} (K : MC R p s m args c cX16_newSet 2 RX16 D cA tys A n0 s0 0 0 []) (hQ : HQI p l e R s m args below meth c cX16_newSet D cA A n0 s0 QM dm ra jx rm Q) (hX : HX p l e R s m args below meth c 2 D cA A n0 s0 QM dm ra jx rm X) {K17 : Sg → Int → Prop} (hK17 : ∀ (σ : Sg) (v1 : Int) (g1 : rng v1), K17 σ v1 → RG σ → Shp dm ra jx rm σ → JJ p l e R s m args below meth c 2 D cA A n0 s0 QM σ 17 [(0, .ref rm), (1, .int (i32 v1))] []) : ∀ (σ : Sg) (v1 : Int) (g1 : rng v1), w_X16_newSet_22 ra jx rm K17 Q X σ v1 → RG σ → Shp dm ra jx rm σ → JJ p l e R s m args below meth c 2 D cA A n0 s0 QM σ 22 [(0, .ref rm), (1, .int (i32 v1))] [] := by
  intro σ v1 g1 h hGσ hS H locs ls hH hl hc
  have B := K.1
  unfold w_X16_newSet_22 at h
  refine lv_aload_n B.1 B.2.1 dX16_newSet_22 rfl (lv_at hl 0 rfl) ?_
  refine r_arr B hH hS 26 (kd := 101) (n := 120000) (by decide) (by decide) wf_X16_350 rfl rfl dX16_newSet_23 ?_
  refine lv_iconst (v := i32 4) B.1 B.2.1 dX16_newSet_26 (by decide) ?_
  refine lv_aload_n B.1 B.2.1 dX16_newSet_27 rfl (lv_at hl 0 rfl) ?_
  refine r_geti B hH hS 27 (by decide) wf_X16_343 rfl rfl dX16_newSet_28 ?_
  obtain ⟨q1, h⟩ := h
  refine lv_imul B.1 B.2.1 dX16_newSet_31 ?_
  rw [i32_mul]
  refine lv_iload_n B.1 B.2.1 dX16_newSet_32 rfl (lv_at hl 1 rfl) ?_
  obtain ⟨q2, h⟩ := h
  refine lv_iadd B.1 B.2.1 dX16_newSet_33 ?_
  rw [i32_add]
  refine lv_lconst (v := 0) B.1 B.2.1 dX16_newSet_34 (by decide) ?_
  obtain ⟨q3, h⟩ := h
  obtain ⟨σ6, eσ6⟩ : ∃ z, z = pJ σ (ra 26) ((4 * gI σ rm 27) + v1).toNat 0 := ⟨_, rfl⟩
  have h := h σ6 eσ6
  refine x_last B K.2.1 hH (hS.ar (k := 26) (kd := 101) (n := 120000) (by decide)) (by decide) q3 dX16_newSet_35 (fun H locs hH => ?_)
  have hH : Hd D cA A s (pJ σ (ra 26) ((4 * gI σ rm 27) + v1).toNat 0) H locs := hH
  rw [← eσ6] at hH
  have hGσ6 : RG σ6 := by rw [eσ6]; exact hGσ.pJ
  have hS : Shp dm ra jx rm σ6 := by rw [eσ6]; exact hS
  have hc : CB n0 s0 σ6 := by rw [eσ6]; exact hc
  rw [show gc σ = gc σ6 by rw [eσ6], show gs σ = gs σ6 by rw [eσ6]]
  obtain ⟨q5, h⟩ := h
  refine lv_iinc (k := 1) (v := i32 (v1 + 1)) (lv' := [(1, .int (i32 (v1 + 1))), (0, .ref rm)]) B.1 B.2.1 dX16_newSet_36 hl rfl (i32_add _ _) (by decide) rfl (fun ls hl => ?_)
  refine lv_goto (tgt := 17) B.1 B.2.1 dX16_newSet_39 (by decide) ?_
  exact hK17 _ _ q5 h hGσ6 hS _ _ _ hH (lv_sub (l' := [(0, .ref rm), (1, .int (i32 (v1 + 1)))]) hl [1, 0] rfl) hc
set_option maxRecDepth 20000 in
theorem a_X16_newSet_17 {Q : Sg → Int → Prop} {X : Sg → String → Prop} (K : MC R p s m args c cX16_newSet 2 RX16 D cA tys A n0 s0 0 0 []) (hQ : HQI p l e R s m args below meth c cX16_newSet D cA A n0 s0 QM dm ra jx rm Q) (hX : HX p l e R s m args below meth c 2 D cA A n0 s0 QM dm ra jx rm X) {K17 : Sg → Int → Prop} (hK17 : ∀ (σ : Sg) (v1 : Int) (g1 : rng v1), K17 σ v1 → RG σ → Shp dm ra jx rm σ → JJ p l e R s m args below meth c 2 D cA A n0 s0 QM σ 17 [(0, .ref rm), (1, .int (i32 v1))] []) : ∀ (σ : Sg) (v1 : Int) (g1 : rng v1), w_X16_newSet_17 ra jx rm K17 Q X σ v1 → RG σ → Shp dm ra jx rm σ → JJ p l e R s m args below meth c 2 D cA A n0 s0 QM σ 17 [(0, .ref rm), (1, .int (i32 v1))] [] := by
  intro σ v1 g1 h hGσ hS H locs ls hH hl hc
  have B := K.1
  unfold w_X16_newSet_17 at h
  refine lv_iload_n B.1 B.2.1 dX16_newSet_17 rfl (lv_at hl 1 rfl) ?_
  refine lv_iconst (v := i32 4) B.1 B.2.1 dX16_newSet_18 (by decide) ?_
  refine lv_icmp_ge (tgt := 42) B.1 B.2.1 dX16_newSet_19 (by decide) (fun h9 => ?_) (fun h9 => ?_)
  · rw [if_pos ((i32_le (by unfold rng; omega) g1).mp h9)] at h
    exact a_X16_newSet_42 K hQ hX _ h hGσ hS _ _ _ hH (lv_sub (l' := [(0, .ref rm)]) hl [0] rfl) hc
  · rw [if_neg (fun q => h9 ((i32_le (by unfold rng; omega) g1).mpr q))] at h
    exact a_X16_newSet_22 K hQ hX hK17 _ _ g1 h hGσ hS _ _ _ hH (lv_sub (l' := [(0, .ref rm), (1, .int (i32 v1))]) hl [0, 1] rfl) hc
theorem al_X16_newSet_17 {Q : Sg → Int → Prop} {X : Sg → String → Prop} (K : MC R p s m args c cX16_newSet 2 RX16 D cA tys A n0 s0 0 0 []) (hQ : HQI p l e R s m args below meth c cX16_newSet D cA A n0 s0 QM dm ra jx rm Q) (hX : HX p l e R s m args below meth c 2 D cA A n0 s0 QM dm ra jx rm X) : ∀ (n : Nat), ∀ (σ : Sg) (v1 : Int) (g1 : rng v1), wl_X16_newSet_17 ra jx rm Q X n σ v1 → RG σ → Shp dm ra jx rm σ → JJ p l e R s m args below meth c 2 D cA A n0 s0 QM σ 17 [(0, .ref rm), (1, .int (i32 v1))] [] := by
  intro n
  induction n with
  | zero => intro σ v1 g1 h; exact h.elim
  | succ n ih => exact fun σ v1 g1 h => a_X16_newSet_17 K hQ hX ih σ v1 g1 h
set_option maxRecDepth 20000 in
theorem a_X16_newSet_15 {Q : Sg → Int → Prop} {X : Sg → String → Prop} (K : MC R p s m args c cX16_newSet 2 RX16 D cA tys A n0 s0 0 0 []) (hQ : HQI p l e R s m args below meth c cX16_newSet D cA A n0 s0 QM dm ra jx rm Q) (hX : HX p l e R s m args below meth c 2 D cA A n0 s0 QM dm ra jx rm X) : ∀ (σ : Sg), w_X16_newSet_15 ra jx rm Q X σ → RG σ → Shp dm ra jx rm σ → JJ p l e R s m args below meth c 2 D cA A n0 s0 QM σ 15 [(0, .ref rm)] [] := by
  intro σ h hGσ hS H locs ls hH hl hc
  have B := K.1
  unfold w_X16_newSet_15 at h
  refine lv_iconst (v := i32 0) B.1 B.2.1 dX16_newSet_15 (by decide) ?_
  refine lv_istore_n (lv' := [(1, .int (i32 0)), (0, .ref rm)]) B.1 B.2.1 dX16_newSet_16 rfl hl (by decide) rfl (fun ls hl => ?_)
  obtain ⟨n9, h⟩ := h
  exact al_X16_newSet_17 K hQ hX n9 _ _ (by unfold rng; omega) h hGσ hS _ _ _ hH (lv_sub (l' := [(0, .ref rm), (1, .int (i32 0))]) hl [1, 0] rfl) hc
set_option maxRecDepth 20000 in
theorem a_X16_newSet_10 {Q : Sg → Int → Prop} {X : Sg → String → Prop} (K : MC R p s m args c cX16_newSet 2 RX16 D cA tys A n0 s0 0 0 []) (hQ : HQI p l e R s m args below meth c cX16_newSet D cA A n0 s0 QM dm ra jx rm Q) (hX : HX p l e R s m args below meth c 2 D cA A n0 s0 QM dm ra jx rm X) : ∀ (σ : Sg), w_X16_newSet_10 ra jx rm Q X σ → RG σ → Shp dm ra jx rm σ → JJ p l e R s m args below meth c 2 D cA A n0 s0 QM σ 10 [(0, .ref rm)] [] := by
  intro σ h hGσ hS H locs ls hH hl hc
  have B := K.1
  unfold w_X16_newSet_10 at h
  refine lv_aload_n B.1 B.2.1 dX16_newSet_10 rfl (lv_at hl 0 rfl) ?_
  refine r_obj B hH hS 28 (ci := 13) (by decide) (by decide) wf_X16_346 rfl rfl dX16_newSet_11 ?_
  refine W.eq (g2 := F0 m 14 ls [va_rf (some (ra 28))]) (rfl) ?_
  obtain ⟨qt, h⟩ := h
  rcases qt with qt | qt
  · refine W.eq (g2 := F0 m 14 ls [.ref (ra 28)]) (by rw [qt]; rfl) ?_
    have hx9 := And.intro h (And.intro hGσ hS)
    refine h_athrow B hH hl hc (ci := 13) (hS.ob (k := 28) (ci := 13) (by decide)).1 (hS.ob (k := 28) (ci := 13) (by decide)).2 (by decide) rfl dX16_newSet_14 ?_
    exact hX σ _ _ _ _ (tb_out K.2.2.2.2.2 rfl) hx9.1 hx9.2.1 hx9.2.2
  · refine W.eq (g2 := F0 m 14 ls [.ref (ra 29)]) (by rw [qt]; rfl) ?_
    have hx9 := And.intro h (And.intro hGσ hS)
    refine h_athrow B hH hl hc (ci := 13) (hS.ob (k := 29) (ci := 13) (by decide)).1 (hS.ob (k := 29) (ci := 13) (by decide)).2 (by decide) rfl dX16_newSet_14 ?_
    exact hX σ _ _ _ _ (tb_out K.2.2.2.2.2 rfl) hx9.1 hx9.2.1 hx9.2.2
set_option maxRecDepth 20000 in
theorem a_X16_newSet_0 {Q : Sg → Int → Prop} {X : Sg → String → Prop} (K : MC R p s m args c cX16_newSet 2 RX16 D cA tys A n0 s0 0 0 []) (hQ : HQI p l e R s m args below meth c cX16_newSet D cA A n0 s0 QM dm ra jx rm Q) (hX : HX p l e R s m args below meth c 2 D cA A n0 s0 QM dm ra jx rm X) : ∀ (σ : Sg), w_X16_newSet_0 ra jx rm Q X σ → RG σ → Shp dm ra jx rm σ → JJ p l e R s m args below meth c 2 D cA A n0 s0 QM σ 0 [(0, .ref rm)] [] := by
  intro σ h hGσ hS H locs ls hH hl hc
  have B := K.1
  unfold w_X16_newSet_0 at h
  refine lv_aload_n B.1 B.2.1 dX16_newSet_0 rfl (lv_at hl 0 rfl) ?_
  refine r_geti B hH hS 27 (by decide) wf_X16_343 rfl rfl dX16_newSet_1 ?_
  refine lv_sipush (v := i32 30000) B.1 B.2.1 dX16_newSet_4 (by decide) ?_
  refine lv_icmp_ne (tgt := 15) B.1 B.2.1 dX16_newSet_7 (by decide) (fun h9 => ?_) (fun h9 => ?_)
  · rw [if_pos (fun q => h9 ((i32_eq (hGσ _ _) (by unfold rng; omega)).mpr q))] at h
    exact a_X16_newSet_15 K hQ hX _ h hGσ hS _ _ _ hH (lv_sub (l' := [(0, .ref rm)]) hl [0] rfl) hc
  · rw [if_neg (fun q => q ((i32_eq (hGσ _ _) (by unfold rng; omega)).mp h9))] at h
    exact a_X16_newSet_10 K hQ hX _ h hGσ hS _ _ _ hH (lv_sub (l' := [(0, .ref rm)]) hl [0] rfl) hc
theorem ok_X16_newSet (hT : Tys cA tys) {Q : Sg → Int → Prop} {X : Sg → String → Prop} (σ : Sg) (hG : RG σ) (hS : Shp dm ra jx rm σ) (h : wp_X16_newSet ra jx rm σ Q X) : Ok l D cA tys A yX16_newSet (.code yX16_newSet cX16_newSet 2 (some .int)) 0 0 [.ref rm] σ (QnI dm ra jx rm Q) (QxR dm ra jx rm X) := by
  unfold wp_X16_newSet at h
  exact ok_I (plainFor_of_name (by decide)) (by exact Nat.le_of_ble_eq_true rfl) hT (fun p e R s m args below meth c K hQ hX H locs ls hH hl hc => a_X16_newSet_0 K hQ hX σ h hG hS H locs ls hH (lv_sub (l' := [(0, .ref rm)]) hl [0] rfl) hc)
theorem dX16_joined_0 : decode cX16_joined 0 = .ok (.iload_n 1, 1) := by decide +kernel
theorem dX16_joined_1 : decode cX16_joined 1 = .ok (.iload_n 2, 1) := by decide +kernel
theorem dX16_joined_2 : decode cX16_joined 2 = .ok (.if_icmp .ne 5, 3) := by decide +kernel
theorem dX16_joined_5 : decode cX16_joined 5 = .ok (.iload_n 1, 1) := by decide +kernel
theorem dX16_joined_6 : decode cX16_joined 6 = .ok (.ireturn, 1) := by decide +kernel
theorem dX16_joined_7 : decode cX16_joined 7 = .ok (.aload_n 0, 1) := by decide +kernel
theorem dX16_joined_8 : decode cX16_joined 8 = .ok (.invokevirtual 353, 3) := by decide +kernel
theorem dX16_joined_11 : decode cX16_joined 11 = .ok (.istore_n 3, 1) := by decide +kernel
theorem dX16_joined_12 : decode cX16_joined 12 = .ok (.iconst 0, 1) := by decide +kernel
theorem dX16_joined_13 : decode cX16_joined 13 = .ok (.istore 4, 2) := by decide +kernel
theorem dX16_joined_15 : decode cX16_joined 15 = .ok (.iload 4, 2) := by decide +kernel
theorem dX16_joined_17 : decode cX16_joined 17 = .ok (.iconst 4, 1) := by decide +kernel
theorem dX16_joined_18 : decode cX16_joined 18 = .ok (.if_icmp .ge 43, 3) := by decide +kernel
theorem dX16_joined_21 : decode cX16_joined 21 = .ok (.aload_n 0, 1) := by decide +kernel
theorem dX16_joined_22 : decode cX16_joined 22 = .ok (.getfield 350, 3) := by decide +kernel
theorem dX16_joined_25 : decode cX16_joined 25 = .ok (.iconst 4, 1) := by decide +kernel
theorem dX16_joined_26 : decode cX16_joined 26 = .ok (.iload_n 3, 1) := by decide +kernel
theorem dX16_joined_27 : decode cX16_joined 27 = .ok (.imul, 1) := by decide +kernel
theorem dX16_joined_28 : decode cX16_joined 28 = .ok (.iload 4, 2) := by decide +kernel
theorem dX16_joined_30 : decode cX16_joined 30 = .ok (.iadd, 1) := by decide +kernel
theorem dX16_joined_31 : decode cX16_joined 31 = .ok (.aload_n 0, 1) := by decide +kernel
theorem dX16_joined_32 : decode cX16_joined 32 = .ok (.getfield 350, 3) := by decide +kernel
theorem dX16_joined_35 : decode cX16_joined 35 = .ok (.iconst 4, 1) := by decide +kernel
theorem dX16_joined_36 : decode cX16_joined 36 = .ok (.iload_n 1, 1) := by decide +kernel
theorem dX16_joined_37 : decode cX16_joined 37 = .ok (.imul, 1) := by decide +kernel
theorem dX16_joined_38 : decode cX16_joined 38 = .ok (.iload 4, 2) := by decide +kernel
theorem dX16_joined_40 : decode cX16_joined 40 = .ok (.iadd, 1) := by decide +kernel
theorem dX16_joined_41 : decode cX16_joined 41 = .ok (.laload, 1) := by decide +kernel
theorem dX16_joined_42 : decode cX16_joined 42 = .ok (.aload_n 0, 1) := by decide +kernel
theorem dX16_joined_43 : decode cX16_joined 43 = .ok (.getfield 350, 3) := by decide +kernel
theorem dX16_joined_46 : decode cX16_joined 46 = .ok (.iconst 4, 1) := by decide +kernel
theorem dX16_joined_47 : decode cX16_joined 47 = .ok (.iload_n 2, 1) := by decide +kernel
theorem dX16_joined_48 : decode cX16_joined 48 = .ok (.imul, 1) := by decide +kernel
theorem dX16_joined_49 : decode cX16_joined 49 = .ok (.iload 4, 2) := by decide +kernel
theorem dX16_joined_51 : decode cX16_joined 51 = .ok (.iadd, 1) := by decide +kernel
theorem dX16_joined_52 : decode cX16_joined 52 = .ok (.laload, 1) := by decide +kernel
theorem dX16_joined_53 : decode cX16_joined 53 = .ok (.lor, 1) := by decide +kernel
theorem dX16_joined_54 : decode cX16_joined 54 = .ok (.lastore, 1) := by decide +kernel
theorem dX16_joined_55 : decode cX16_joined 55 = .ok (.iinc 4 1, 3) := by decide +kernel
theorem dX16_joined_58 : decode cX16_joined 58 = .ok (.goto (-43), 3) := by decide +kernel
theorem dX16_joined_61 : decode cX16_joined 61 = .ok (.iload_n 3, 1) := by decide +kernel
theorem dX16_joined_62 : decode cX16_joined 62 = .ok (.ireturn, 1) := by decide +kernel
set_option maxRecDepth 20000 in
theorem a_X16_joined_61 {Q : Sg → Int → Prop} {X : Sg → String → Prop} (K : MC R p s m args c cX16_joined 5 RX16 D cA tys A n0 s0 1 21 []) (hQ : HQI p l e R s m args below meth c cX16_joined D cA A n0 s0 QM dm ra jx rm Q) (hX : HX p l e R s m args below meth c 5 D cA A n0 s0 QM dm ra jx rm X) : ∀ (σ : Sg) (v3 : Int) (g3 : rng v3), w_X16_joined_61 ra jx rm Q X σ v3 → RG σ → Shp dm ra jx rm σ → JJ p l e R s m args below meth c 5 D cA A n0 s0 QM σ 61 [(0, .ref rm), (3, .int (i32 v3))] [] := by
  intro σ v3 g3 h hGσ hS H locs ls hH hl hc
  have B := K.1
  unfold w_X16_joined_61 at h
  refine lv_iload_n B.1 B.2.1 dX16_joined_61 rfl (lv_at hl 1 rfl) ?_
  exact hQ _ _ _ _ _ _ g3 dX16_joined_62 hH hc h hGσ hS
set_option maxRecDepth 20000 in
theorem a_X16_joined_21 {Q : Sg → Int → Prop} {X : Sg → String → Prop} (K : MC R p s m args c cX16_joined 5 RX16 D cA tys A n0 s0 1 21 []) (hQ : HQI p l e R s m args below meth c cX16_joined D cA A n0 s0 QM dm ra jx rm Q) (hX : HX p l e R s m args below meth c 5 D cA A n0 s0 QM dm ra jx rm X) {K15 : Sg → Int → Int → Int → Int → Prop} (hK15 : ∀ (σ : Sg) (v1 : Int) (v2 : Int) (v3 : Int) (v4 : Int) (g1 : rng v1) (g2 : rng v2) (g3 : rng v3) (g4 : rng v4), K15 σ v1 v2 v3 v4 → RG σ → Shp dm ra jx rm σ → JJ p l e R s m args below meth c 5 D cA A n0 s0 QM σ 15 [(0, .ref rm), (1, .int (i32 v1)), (2, .int (i32 v2)), (3, .int (i32 v3)), (4, .int (i32 v4))] []) : ∀ (σ : Sg) (v1 : Int) (v2 : Int) (v3 : Int) (v4 : Int) (g1 : rng v1) (g2 : rng v2) (g3 : rng v3) (g4 : rng v4), w_X16_joined_21 ra jx rm K15 Q X σ v1 v2 v3 v4 → RG σ → Shp dm ra jx rm σ → JJ p l e R s m args below meth c 5 D cA A n0 s0 QM σ 21 [(0, .ref rm), (1, .int (i32 v1)), (2, .int (i32 v2)), (3, .int (i32 v3)), (4, .int (i32 v4))] [] := by
  intro σ v1 v2 v3 v4 g1 g2 g3 g4 h hGσ hS H locs ls hH hl hc
  have B := K.1
  unfold w_X16_joined_21 at h
  refine lv_aload_n B.1 B.2.1 dX16_joined_21 rfl (lv_at hl 0 rfl) ?_
  refine r_arr B hH hS 26 (kd := 101) (n := 120000) (by decide) (by decide) wf_X16_350 rfl rfl dX16_joined_22 ?_
  refine lv_iconst (v := i32 4) B.1 B.2.1 dX16_joined_25 (by decide) ?_
  refine lv_iload_n B.1 B.2.1 dX16_joined_26 rfl (lv_at hl 3 rfl) ?_
  obtain ⟨q1, h⟩ := h
  refine lv_imul B.1 B.2.1 dX16_joined_27 ?_
  rw [i32_mul]
  refine lv_iload B.1 B.2.1 dX16_joined_28 (lv_at hl 4 rfl) ?_
  obtain ⟨q2, h⟩ := h
  refine lv_iadd B.1 B.2.1 dX16_joined_30 ?_
  rw [i32_add]
  refine lv_aload_n B.1 B.2.1 dX16_joined_31 rfl (lv_at hl 0 rfl) ?_
  refine r_arr B hH hS 26 (kd := 101) (n := 120000) (by decide) (by decide) wf_X16_350 rfl rfl dX16_joined_32 ?_
  refine lv_iconst (v := i32 4) B.1 B.2.1 dX16_joined_35 (by decide) ?_
  refine lv_iload_n B.1 B.2.1 dX16_joined_36 rfl (lv_at hl 1 rfl) ?_
  obtain ⟨q3, h⟩ := h
  refine lv_imul B.1 B.2.1 dX16_joined_37 ?_
  rw [i32_mul]
  refine lv_iload B.1 B.2.1 dX16_joined_38 (lv_at hl 4 rfl) ?_
  obtain ⟨q4, h⟩ := h
  refine lv_iadd B.1 B.2.1 dX16_joined_40 ?_
  rw [i32_add]
  obtain ⟨q5, h⟩ := h
  refine x_lald B K.2.1 hH (hS.ar (k := 26) (kd := 101) (n := 120000) (by decide)) (by decide) q5 dX16_joined_41 ?_
  refine lv_aload_n B.1 B.2.1 dX16_joined_42 rfl (lv_at hl 0 rfl) ?_
  refine r_arr B hH hS 26 (kd := 101) (n := 120000) (by decide) (by decide) wf_X16_350 rfl rfl dX16_joined_43 ?_
  refine lv_iconst (v := i32 4) B.1 B.2.1 dX16_joined_46 (by decide) ?_
  refine lv_iload_n B.1 B.2.1 dX16_joined_47 rfl (lv_at hl 2 rfl) ?_
  obtain ⟨q6, h⟩ := h
  refine lv_imul B.1 B.2.1 dX16_joined_48 ?_
  rw [i32_mul]
  refine lv_iload B.1 B.2.1 dX16_joined_49 (lv_at hl 4 rfl) ?_
  obtain ⟨q7, h⟩ := h
  refine lv_iadd B.1 B.2.1 dX16_joined_51 ?_
  rw [i32_add]
  obtain ⟨q8, h⟩ := h
  refine x_lald B K.2.1 hH (hS.ar (k := 26) (kd := 101) (n := 120000) (by decide)) (by decide) q8 dX16_joined_52 ?_
  refine lv_lor B.1 B.2.1 dX16_joined_53 ?_
  obtain ⟨q9, h⟩ := h
  obtain ⟨σ7, eσ7⟩ : ∃ z, z = pJ σ (ra 26) ((4 * v3) + v4).toNat ((gJ σ (ra 26) ((4 * v1) + v4).toNat) ||| (gJ σ (ra 26) ((4 * v2) + v4).toNat)) := ⟨_, rfl⟩
  have h := h σ7 eσ7
  refine x_last B K.2.1 hH (hS.ar (k := 26) (kd := 101) (n := 120000) (by decide)) (by decide) q9 dX16_joined_54 (fun H locs hH => ?_)
  have hH : Hd D cA A s (pJ σ (ra 26) ((4 * v3) + v4).toNat ((gJ σ (ra 26) ((4 * v1) + v4).toNat) ||| (gJ σ (ra 26) ((4 * v2) + v4).toNat))) H locs := hH
  rw [← eσ7] at hH
  have hGσ7 : RG σ7 := by rw [eσ7]; exact hGσ.pJ
  have hS : Shp dm ra jx rm σ7 := by rw [eσ7]; exact hS
  have hc : CB n0 s0 σ7 := by rw [eσ7]; exact hc
  rw [show gc σ = gc σ7 by rw [eσ7], show gs σ = gs σ7 by rw [eσ7]]
  obtain ⟨q11, h⟩ := h
  refine lv_iinc (k := 4) (v := i32 (v4 + 1)) (lv' := [(4, .int (i32 (v4 + 1))), (0, .ref rm), (1, .int (i32 v1)), (2, .int (i32 v2)), (3, .int (i32 v3))]) B.1 B.2.1 dX16_joined_55 hl rfl (i32_add _ _) (by decide) rfl (fun ls hl => ?_)
  refine lv_goto (tgt := 15) B.1 B.2.1 dX16_joined_58 (by decide) ?_
  exact hK15 _ _ _ _ _ g1 g2 g3 q11 h hGσ7 hS _ _ _ hH (lv_sub (l' := [(0, .ref rm), (1, .int (i32 v1)), (2, .int (i32 v2)), (3, .int (i32 v3)), (4, .int (i32 (v4 + 1)))]) hl [1, 2, 3, 4, 0] rfl) hc
set_option maxRecDepth 20000 in
theorem a_X16_joined_15 {Q : Sg → Int → Prop} {X : Sg → String → Prop} (K : MC R p s m args c cX16_joined 5 RX16 D cA tys A n0 s0 1 21 []) (hQ : HQI p l e R s m args below meth c cX16_joined D cA A n0 s0 QM dm ra jx rm Q) (hX : HX p l e R s m args below meth c 5 D cA A n0 s0 QM dm ra jx rm X) {K15 : Sg → Int → Int → Int → Int → Prop} (hK15 : ∀ (σ : Sg) (v1 : Int) (v2 : Int) (v3 : Int) (v4 : Int) (g1 : rng v1) (g2 : rng v2) (g3 : rng v3) (g4 : rng v4), K15 σ v1 v2 v3 v4 → RG σ → Shp dm ra jx rm σ → JJ p l e R s m args below meth c 5 D cA A n0 s0 QM σ 15 [(0, .ref rm), (1, .int (i32 v1)), (2, .int (i32 v2)), (3, .int (i32 v3)), (4, .int (i32 v4))] []) : ∀ (σ : Sg) (v1 : Int) (v2 : Int) (v3 : Int) (v4 : Int) (g1 : rng v1) (g2 : rng v2) (g3 : rng v3) (g4 : rng v4), w_X16_joined_15 ra jx rm K15 Q X σ v1 v2 v3 v4 → RG σ → Shp dm ra jx rm σ → JJ p l e R s m args below meth c 5 D cA A n0 s0 QM σ 15 [(0, .ref rm), (1, .int (i32 v1)), (2, .int (i32 v2)), (3, .int (i32 v3)), (4, .int (i32 v4))] [] := by
  intro σ v1 v2 v3 v4 g1 g2 g3 g4 h hGσ hS H locs ls hH hl hc
  have B := K.1
  unfold w_X16_joined_15 at h
  refine lv_iload B.1 B.2.1 dX16_joined_15 (lv_at hl 4 rfl) ?_
  refine lv_iconst (v := i32 4) B.1 B.2.1 dX16_joined_17 (by decide) ?_
  refine lv_icmp_ge (tgt := 61) B.1 B.2.1 dX16_joined_18 (by decide) (fun h9 => ?_) (fun h9 => ?_)
  · rw [if_pos ((i32_le (by unfold rng; omega) g4).mp h9)] at h
    exact a_X16_joined_61 K hQ hX _ _ g3 h hGσ hS _ _ _ hH (lv_sub (l' := [(0, .ref rm), (3, .int (i32 v3))]) hl [0, 3] rfl) hc
  · rw [if_neg (fun q => h9 ((i32_le (by unfold rng; omega) g4).mpr q))] at h
    exact a_X16_joined_21 K hQ hX hK15 _ _ _ _ _ g1 g2 g3 g4 h hGσ hS _ _ _ hH (lv_sub (l' := [(0, .ref rm), (1, .int (i32 v1)), (2, .int (i32 v2)), (3, .int (i32 v3)), (4, .int (i32 v4))]) hl [0, 1, 2, 3, 4] rfl) hc
theorem al_X16_joined_15 {Q : Sg → Int → Prop} {X : Sg → String → Prop} (K : MC R p s m args c cX16_joined 5 RX16 D cA tys A n0 s0 1 21 []) (hQ : HQI p l e R s m args below meth c cX16_joined D cA A n0 s0 QM dm ra jx rm Q) (hX : HX p l e R s m args below meth c 5 D cA A n0 s0 QM dm ra jx rm X) : ∀ (n : Nat), ∀ (σ : Sg) (v1 : Int) (v2 : Int) (v3 : Int) (v4 : Int) (g1 : rng v1) (g2 : rng v2) (g3 : rng v3) (g4 : rng v4), wl_X16_joined_15 ra jx rm Q X n σ v1 v2 v3 v4 → RG σ → Shp dm ra jx rm σ → JJ p l e R s m args below meth c 5 D cA A n0 s0 QM σ 15 [(0, .ref rm), (1, .int (i32 v1)), (2, .int (i32 v2)), (3, .int (i32 v3)), (4, .int (i32 v4))] [] := by
  intro n
  induction n with
  | zero => intro σ v1 v2 v3 v4 g1 g2 g3 g4 h; exact h.elim
  | succ n ih => exact fun σ v1 v2 v3 v4 g1 g2 g3 g4 h => a_X16_joined_15 K hQ hX ih σ v1 v2 v3 v4 g1 g2 g3 g4 h
set_option maxRecDepth 20000 in
theorem a_X16_joined_7 {Q : Sg → Int → Prop} {X : Sg → String → Prop} (K : MC R p s m args c cX16_joined 5 RX16 D cA tys A n0 s0 1 21 []) (hQ : HQI p l e R s m args below meth c cX16_joined D cA A n0 s0 QM dm ra jx rm Q) (hX : HX p l e R s m args below meth c 5 D cA A n0 s0 QM dm ra jx rm X) : ∀ (σ : Sg) (v1 : Int) (v2 : Int) (g1 : rng v1) (g2 : rng v2), w_X16_joined_7 ra jx rm Q X σ v1 v2 → RG σ → Shp dm ra jx rm σ → JJ p l e R s m args below meth c 5 D cA A n0 s0 QM σ 7 [(0, .ref rm), (1, .int (i32 v1)), (2, .int (i32 v2))] [] := by
  intro σ v1 v2 g1 g2 h hGσ hS H locs ls hH hl hc
  have B := K.1
  unfold w_X16_joined_7 at h
  refine lv_aload_n B.1 B.2.1 dX16_joined_7 rfl (lv_at hl 0 rfl) ?_
  refine c_V B hH hl hc K.2.2.1 (C := RX16) (T := TX16) (N := 123) (ci := 16) (As := []) (ok_X16_newSet K.2.1 σ hGσ hS h) wc_X16_353 0 hd_X16_newSet ⟨Nat.le_trans (Nat.le_of_ble_eq_true rfl) K.2.2.2.1, Nat.le_trans (Nat.le_of_ble_eq_true rfl) K.2.2.2.2.1⟩ hS.1.1 hS.1.2 (by decide) rfl rfl (rest := []) rfl (Nat.le_of_ble_eq_true rfl) dX16_joined_8 (fun σ8 w hq => ?_) (fun σ9 E9 hx9 => hX σ9 E9 _ _ _ (tb_out K.2.2.2.2.2 rfl) hx9.1 hx9.2.1 hx9.2.2)
  obtain ⟨r9, rfl, gr9, h, hGσ8, hS⟩ := hq
  intro H locs ls hH hl hc
  refine W.eq (g2 := F0 m 11 ls [.int (i32 r9)]) (rfl) ?_
  try dsimp only at h
  refine lv_istore_n (lv' := [(3, .int (i32 r9)), (0, .ref rm), (1, .int (i32 v1)), (2, .int (i32 v2))]) B.1 B.2.1 dX16_joined_11 rfl hl (by decide) rfl (fun ls hl => ?_)
  refine lv_iconst (v := i32 0) B.1 B.2.1 dX16_joined_12 (by decide) ?_
  refine lv_istore (lv' := [(4, .int (i32 0)), (3, .int (i32 r9)), (0, .ref rm), (1, .int (i32 v1)), (2, .int (i32 v2))]) B.1 B.2.1 dX16_joined_13 hl (by decide) rfl (fun ls hl => ?_)
  obtain ⟨n9, h⟩ := h
  exact al_X16_joined_15 K hQ hX n9 _ _ _ _ _ g1 g2 gr9 (by unfold rng; omega) h hGσ8 hS _ _ _ hH (lv_sub (l' := [(0, .ref rm), (1, .int (i32 v1)), (2, .int (i32 v2)), (3, .int (i32 r9)), (4, .int (i32 0))]) hl [2, 3, 4, 1, 0] rfl) hc
set_option maxRecDepth 20000 in
theorem a_X16_joined_5 {Q : Sg → Int → Prop} {X : Sg → String → Prop} (K : MC R p s m args c cX16_joined 5 RX16 D cA tys A n0 s0 1 21 []) (hQ : HQI p l e R s m args below meth c cX16_joined D cA A n0 s0 QM dm ra jx rm Q) (hX : HX p l e R s m args below meth c 5 D cA A n0 s0 QM dm ra jx rm X) : ∀ (σ : Sg) (v1 : Int) (g1 : rng v1), w_X16_joined_5 ra jx rm Q X σ v1 → RG σ → Shp dm ra jx rm σ → JJ p l e R s m args below meth c 5 D cA A n0 s0 QM σ 5 [(0, .ref rm), (1, .int (i32 v1))] [] := by
  intro σ v1 g1 h hGσ hS H locs ls hH hl hc
  have B := K.1
  unfold w_X16_joined_5 at h
  refine lv_iload_n B.1 B.2.1 dX16_joined_5 rfl (lv_at hl 1 rfl) ?_
  exact hQ _ _ _ _ _ _ g1 dX16_joined_6 hH hc h hGσ hS
set_option maxRecDepth 20000 in
theorem a_X16_joined_0 {Q : Sg → Int → Prop} {X : Sg → String → Prop} (K : MC R p s m args c cX16_joined 5 RX16 D cA tys A n0 s0 1 21 []) (hQ : HQI p l e R s m args below meth c cX16_joined D cA A n0 s0 QM dm ra jx rm Q) (hX : HX p l e R s m args below meth c 5 D cA A n0 s0 QM dm ra jx rm X) : ∀ (σ : Sg) (v1 : Int) (v2 : Int) (g1 : rng v1) (g2 : rng v2), w_X16_joined_0 ra jx rm Q X σ v1 v2 → RG σ → Shp dm ra jx rm σ → JJ p l e R s m args below meth c 5 D cA A n0 s0 QM σ 0 [(0, .ref rm), (1, .int (i32 v1)), (2, .int (i32 v2))] [] := by
  intro σ v1 v2 g1 g2 h hGσ hS H locs ls hH hl hc
  have B := K.1
  unfold w_X16_joined_0 at h
  refine lv_iload_n B.1 B.2.1 dX16_joined_0 rfl (lv_at hl 1 rfl) ?_
  refine lv_iload_n B.1 B.2.1 dX16_joined_1 rfl (lv_at hl 2 rfl) ?_
  refine lv_icmp_ne (tgt := 7) B.1 B.2.1 dX16_joined_2 (by decide) (fun h9 => ?_) (fun h9 => ?_)
  · rw [if_pos (fun q => h9 ((i32_eq g1 g2).mpr q))] at h
    exact a_X16_joined_7 K hQ hX _ _ _ g1 g2 h hGσ hS _ _ _ hH (lv_sub (l' := [(0, .ref rm), (1, .int (i32 v1)), (2, .int (i32 v2))]) hl [0, 1, 2] rfl) hc
  · rw [if_neg (fun q => q ((i32_eq g1 g2).mp h9))] at h
    exact a_X16_joined_5 K hQ hX _ _ g1 h hGσ hS _ _ _ hH (lv_sub (l' := [(0, .ref rm), (1, .int (i32 v1))]) hl [0, 1] rfl) hc
theorem ok_X16_joined (hT : Tys cA tys) {Q : Sg → Int → Prop} {X : Sg → String → Prop} (σ : Sg) (v1 : Int) (v2 : Int) (g1 : rng v1) (g2 : rng v2) (hG : RG σ) (hS : Shp dm ra jx rm σ) (h : wp_X16_joined ra jx rm v1 v2 σ Q X) : Ok l D cA tys A yX16_joined (.code yX16_joined cX16_joined 5 (some .int)) 1 21 [.ref rm, .int (i32 v1), .int (i32 v2)] σ (QnI dm ra jx rm Q) (QxR dm ra jx rm X) := by
  unfold wp_X16_joined at h
  exact ok_I (plainFor_of_name (by decide)) (by exact Nat.le_of_ble_eq_true rfl) hT (fun p e R s m args below meth c K hQ hX H locs ls hH hl hc => a_X16_joined_0 K hQ hX σ v1 v2 g1 g2 h hG hS H locs ls hH (lv_sub (l' := [(0, .ref rm), (1, .int (i32 v1)), (2, .int (i32 v2))]) hl [0, 1, 2] rfl) hc)
theorem dX16_leastWaiting_0 : decode cX16_leastWaiting 0 = .ok (.iconst (-1), 1) := by decide +kernel
theorem dX16_leastWaiting_1 : decode cX16_leastWaiting 1 = .ok (.istore 5, 2) := by decide +kernel
theorem dX16_leastWaiting_3 : decode cX16_leastWaiting 3 = .ok (.aload_n 0, 1) := by decide +kernel
theorem dX16_leastWaiting_4 : decode cX16_leastWaiting 4 = .ok (.getfield 504, 3) := by decide +kernel
theorem dX16_leastWaiting_7 : decode cX16_leastWaiting 7 = .ok (.iload_n 1, 1) := by decide +kernel
theorem dX16_leastWaiting_8 : decode cX16_leastWaiting 8 = .ok (.iaload, 1) := by decide +kernel
theorem dX16_leastWaiting_9 : decode cX16_leastWaiting 9 = .ok (.istore 6, 2) := by decide +kernel
theorem dX16_leastWaiting_11 : decode cX16_leastWaiting 11 = .ok (.iload 6, 2) := by decide +kernel
theorem dX16_leastWaiting_13 : decode cX16_leastWaiting 13 = .ok (.iconst (-1), 1) := by decide +kernel
theorem dX16_leastWaiting_14 : decode cX16_leastWaiting 14 = .ok (.if_icmp .eq 59, 3) := by decide +kernel
theorem dX16_leastWaiting_17 : decode cX16_leastWaiting 17 = .ok (.aload_n 0, 1) := by decide +kernel
theorem dX16_leastWaiting_18 : decode cX16_leastWaiting 18 = .ok (.getfield 513, 3) := by decide +kernel
theorem dX16_leastWaiting_21 : decode cX16_leastWaiting 21 = .ok (.iload 6, 2) := by decide +kernel
theorem dX16_leastWaiting_23 : decode cX16_leastWaiting 23 = .ok (.iaload, 1) := by decide +kernel
theorem dX16_leastWaiting_24 : decode cX16_leastWaiting 24 = .ok (.ifCond .ne 37, 3) := by decide +kernel
theorem dX16_leastWaiting_27 : decode cX16_leastWaiting 27 = .ok (.aload_n 0, 1) := by decide +kernel
theorem dX16_leastWaiting_28 : decode cX16_leastWaiting 28 = .ok (.getfield 522, 3) := by decide +kernel
theorem dX16_leastWaiting_31 : decode cX16_leastWaiting 31 = .ok (.iload 6, 2) := by decide +kernel
theorem dX16_leastWaiting_33 : decode cX16_leastWaiting 33 = .ok (.laload, 1) := by decide +kernel
theorem dX16_leastWaiting_34 : decode cX16_leastWaiting 34 = .ok (.lload_n 3, 1) := by decide +kernel
theorem dX16_leastWaiting_35 : decode cX16_leastWaiting 35 = .ok (.lcmp, 1) := by decide +kernel
theorem dX16_leastWaiting_36 : decode cX16_leastWaiting 36 = .ok (.ifCond .gt 25, 3) := by decide +kernel
theorem dX16_leastWaiting_39 : decode cX16_leastWaiting 39 = .ok (.iload 5, 2) := by decide +kernel
theorem dX16_leastWaiting_41 : decode cX16_leastWaiting 41 = .ok (.iconst (-1), 1) := by decide +kernel
theorem dX16_leastWaiting_42 : decode cX16_leastWaiting 42 = .ok (.if_icmp .eq 15, 3) := by decide +kernel
theorem dX16_leastWaiting_45 : decode cX16_leastWaiting 45 = .ok (.aload_n 0, 1) := by decide +kernel
theorem dX16_leastWaiting_46 : decode cX16_leastWaiting 46 = .ok (.iload 6, 2) := by decide +kernel
theorem dX16_leastWaiting_48 : decode cX16_leastWaiting 48 = .ok (.iload 5, 2) := by decide +kernel
theorem dX16_leastWaiting_50 : decode cX16_leastWaiting 50 = .ok (.iload_n 2, 1) := by decide +kernel
theorem dX16_leastWaiting_51 : decode cX16_leastWaiting 51 = .ok (.invokevirtual 538, 3) := by decide +kernel
theorem dX16_leastWaiting_54 : decode cX16_leastWaiting 54 = .ok (.ifCond .ge 7, 3) := by decide +kernel
theorem dX16_leastWaiting_57 : decode cX16_leastWaiting 57 = .ok (.iload 6, 2) := by decide +kernel
theorem dX16_leastWaiting_59 : decode cX16_leastWaiting 59 = .ok (.istore 5, 2) := by decide +kernel
theorem dX16_leastWaiting_61 : decode cX16_leastWaiting 61 = .ok (.aload_n 0, 1) := by decide +kernel
theorem dX16_leastWaiting_62 : decode cX16_leastWaiting 62 = .ok (.getfield 495, 3) := by decide +kernel
theorem dX16_leastWaiting_65 : decode cX16_leastWaiting 65 = .ok (.iload 6, 2) := by decide +kernel
theorem dX16_leastWaiting_67 : decode cX16_leastWaiting 67 = .ok (.iaload, 1) := by decide +kernel
theorem dX16_leastWaiting_68 : decode cX16_leastWaiting 68 = .ok (.istore 6, 2) := by decide +kernel
theorem dX16_leastWaiting_70 : decode cX16_leastWaiting 70 = .ok (.goto (-59), 3) := by decide +kernel
theorem dX16_leastWaiting_73 : decode cX16_leastWaiting 73 = .ok (.iload 5, 2) := by decide +kernel
theorem dX16_leastWaiting_75 : decode cX16_leastWaiting 75 = .ok (.ireturn, 1) := by decide +kernel
set_option maxRecDepth 20000 in
theorem a_X16_leastWaiting_73 {Q : Sg → Int → Prop} {X : Sg → String → Prop} (K : MC R p s m args c cX16_leastWaiting 7 RX16 D cA tys A n0 s0 2 53 []) (hQ : HQI p l e R s m args below meth c cX16_leastWaiting D cA A n0 s0 QM dm ra jx rm Q) (hX : HX p l e R s m args below meth c 7 D cA A n0 s0 QM dm ra jx rm X) : ∀ (σ : Sg) (v5 : Int) (g5 : rng v5), w_X16_leastWaiting_73 ra jx rm Q X σ v5 → RG σ → Shp dm ra jx rm σ → JJ p l e R s m args below meth c 7 D cA A n0 s0 QM σ 73 [(0, .ref rm), (5, .int (i32 v5))] [] := by
  intro σ v5 g5 h hGσ hS H locs ls hH hl hc
  have B := K.1
  unfold w_X16_leastWaiting_73 at h
  refine lv_iload B.1 B.2.1 dX16_leastWaiting_73 (lv_at hl 1 rfl) ?_
  exact hQ _ _ _ _ _ _ g5 dX16_leastWaiting_75 hH hc h hGσ hS
set_option maxRecDepth 20000 in
theorem a_X16_leastWaiting_61 {Q : Sg → Int → Prop} {X : Sg → String → Prop} (K : MC R p s m args c cX16_leastWaiting 7 RX16 D cA tys A n0 s0 2 53 []) (hQ : HQI p l e R s m args below meth c cX16_leastWaiting D cA A n0 s0 QM dm ra jx rm Q) (hX : HX p l e R s m args below meth c 7 D cA A n0 s0 QM dm ra jx rm X) {K11 : Sg → Int → Int64 → Int → Int → Prop} (hK11 : ∀ (σ : Sg) (v2 : Int) (v3 : Int64) (v5 : Int) (v6 : Int) (g2 : rng v2) (g5 : rng v5) (g6 : rng v6), K11 σ v2 v3 v5 v6 → RG σ → Shp dm ra jx rm σ → JJ p l e R s m args below meth c 7 D cA A n0 s0 QM σ 11 [(0, .ref rm), (2, .int (i32 v2)), (3, .long v3), (5, .int (i32 v5)), (6, .int (i32 v6))] []) : ∀ (σ : Sg) (v2 : Int) (v3 : Int64) (v5 : Int) (v6 : Int) (g2 : rng v2) (g5 : rng v5) (g6 : rng v6), w_X16_leastWaiting_61 ra jx rm K11 Q X σ v2 v3 v5 v6 → RG σ → Shp dm ra jx rm σ → JJ p l e R s m args below meth c 7 D cA A n0 s0 QM σ 61 [(0, .ref rm), (2, .int (i32 v2)), (3, .long v3), (5, .int (i32 v5)), (6, .int (i32 v6))] [] := by
  intro σ v2 v3 v5 v6 g2 g5 g6 h hGσ hS H locs ls hH hl hc
  have B := K.1
  unfold w_X16_leastWaiting_61 at h
  refine lv_aload_n B.1 B.2.1 dX16_leastWaiting_61 rfl (lv_at hl 0 rfl) ?_
  refine r_arr B hH hS 75 (kd := 100) (n := 4000) (by decide) (by decide) wf_X16_495 rfl rfl dX16_leastWaiting_62 ?_
  refine lv_iload B.1 B.2.1 dX16_leastWaiting_65 (lv_at hl 4 rfl) ?_
  obtain ⟨q1, h⟩ := h
  refine x_iald B K.2.1 hH (hS.ar (k := 75) (kd := 100) (n := 4000) (by decide)) (by decide) q1 dX16_leastWaiting_67 ?_
  refine lv_istore (lv' := [(6, .int (i32 (gI σ (ra 75) v6.toNat))), (0, .ref rm), (2, .int (i32 v2)), (3, .long v3), (5, .int (i32 v5))]) B.1 B.2.1 dX16_leastWaiting_68 hl (by decide) rfl (fun ls hl => ?_)
  refine lv_goto (tgt := 11) B.1 B.2.1 dX16_leastWaiting_70 (by decide) ?_
  exact hK11 _ _ _ _ _ g2 g5 (hGσ _ _) h hGσ hS _ _ _ hH (lv_sub (l' := [(0, .ref rm), (2, .int (i32 v2)), (3, .long v3), (5, .int (i32 v5)), (6, .int (i32 (gI σ (ra 75) v6.toNat)))]) hl [1, 2, 3, 4, 0] rfl) hc
set_option maxRecDepth 20000 in
theorem a_X16_leastWaiting_57 {Q : Sg → Int → Prop} {X : Sg → String → Prop} (K : MC R p s m args c cX16_leastWaiting 7 RX16 D cA tys A n0 s0 2 53 []) (hQ : HQI p l e R s m args below meth c cX16_leastWaiting D cA A n0 s0 QM dm ra jx rm Q) (hX : HX p l e R s m args below meth c 7 D cA A n0 s0 QM dm ra jx rm X) {K11 : Sg → Int → Int64 → Int → Int → Prop} (hK11 : ∀ (σ : Sg) (v2 : Int) (v3 : Int64) (v5 : Int) (v6 : Int) (g2 : rng v2) (g5 : rng v5) (g6 : rng v6), K11 σ v2 v3 v5 v6 → RG σ → Shp dm ra jx rm σ → JJ p l e R s m args below meth c 7 D cA A n0 s0 QM σ 11 [(0, .ref rm), (2, .int (i32 v2)), (3, .long v3), (5, .int (i32 v5)), (6, .int (i32 v6))] []) : ∀ (σ : Sg) (v2 : Int) (v3 : Int64) (v6 : Int) (g2 : rng v2) (g6 : rng v6), w_X16_leastWaiting_57 ra jx rm K11 Q X σ v2 v3 v6 → RG σ → Shp dm ra jx rm σ → JJ p l e R s m args below meth c 7 D cA A n0 s0 QM σ 57 [(0, .ref rm), (2, .int (i32 v2)), (3, .long v3), (6, .int (i32 v6))] [] := by
  intro σ v2 v3 v6 g2 g6 h hGσ hS H locs ls hH hl hc
  have B := K.1
  unfold w_X16_leastWaiting_57 at h
  refine lv_iload B.1 B.2.1 dX16_leastWaiting_57 (lv_at hl 3 rfl) ?_
  refine lv_istore (lv' := [(5, .int (i32 v6)), (0, .ref rm), (2, .int (i32 v2)), (3, .long v3), (6, .int (i32 v6))]) B.1 B.2.1 dX16_leastWaiting_59 hl (by decide) rfl (fun ls hl => ?_)
  exact a_X16_leastWaiting_61 K hQ hX hK11 _ _ _ _ _ g2 g6 g6 h hGσ hS _ _ _ hH (lv_sub (l' := [(0, .ref rm), (2, .int (i32 v2)), (3, .long v3), (5, .int (i32 v6)), (6, .int (i32 v6))]) hl [1, 2, 3, 0, 4] rfl) hc
set_option maxRecDepth 20000 in
theorem a_X16_leastWaiting_45 {Q : Sg → Int → Prop} {X : Sg → String → Prop} (K : MC R p s m args c cX16_leastWaiting 7 RX16 D cA tys A n0 s0 2 53 []) (hQ : HQI p l e R s m args below meth c cX16_leastWaiting D cA A n0 s0 QM dm ra jx rm Q) (hX : HX p l e R s m args below meth c 7 D cA A n0 s0 QM dm ra jx rm X) {K11 : Sg → Int → Int64 → Int → Int → Prop} (hK11 : ∀ (σ : Sg) (v2 : Int) (v3 : Int64) (v5 : Int) (v6 : Int) (g2 : rng v2) (g5 : rng v5) (g6 : rng v6), K11 σ v2 v3 v5 v6 → RG σ → Shp dm ra jx rm σ → JJ p l e R s m args below meth c 7 D cA A n0 s0 QM σ 11 [(0, .ref rm), (2, .int (i32 v2)), (3, .long v3), (5, .int (i32 v5)), (6, .int (i32 v6))] []) : ∀ (σ : Sg) (v2 : Int) (v3 : Int64) (v5 : Int) (v6 : Int) (g2 : rng v2) (g5 : rng v5) (g6 : rng v6), w_X16_leastWaiting_45 ra jx rm K11 Q X σ v2 v3 v5 v6 → RG σ → Shp dm ra jx rm σ → JJ p l e R s m args below meth c 7 D cA A n0 s0 QM σ 45 [(0, .ref rm), (2, .int (i32 v2)), (3, .long v3), (5, .int (i32 v5)), (6, .int (i32 v6))] [] := by
  intro σ v2 v3 v5 v6 g2 g5 g6 h hGσ hS H locs ls hH hl hc
  have B := K.1
  unfold w_X16_leastWaiting_45 at h
  refine lv_aload_n B.1 B.2.1 dX16_leastWaiting_45 rfl (lv_at hl 0 rfl) ?_
  refine lv_iload B.1 B.2.1 dX16_leastWaiting_46 (lv_at hl 4 rfl) ?_
  refine lv_iload B.1 B.2.1 dX16_leastWaiting_48 (lv_at hl 3 rfl) ?_
  refine lv_iload_n B.1 B.2.1 dX16_leastWaiting_50 rfl (lv_at hl 1 rfl) ?_
  refine c_V B hH hl hc K.2.2.1 (C := RX16) (T := TX16) (N := 123) (ci := 16) (As := [.int (i32 v6), .int (i32 v5), .int (i32 v2)]) (ok_X16_orderOf K.2.1 σ v6 v5 v2 g6 g5 g2 hGσ hS h) wc_X16_538 3 hd_X16_orderOf ⟨Nat.le_trans (Nat.le_of_ble_eq_true rfl) K.2.2.2.1, Nat.le_trans (Nat.le_of_ble_eq_true rfl) K.2.2.2.2.1⟩ hS.1.1 hS.1.2 (by decide) rfl rfl (rest := []) rfl (Nat.le_of_ble_eq_true rfl) dX16_leastWaiting_51 (fun σ5 w hq => ?_) (fun σ9 E9 hx9 => hX σ9 E9 _ _ _ (tb_out K.2.2.2.2.2 rfl) hx9.1 hx9.2.1 hx9.2.2)
  obtain ⟨r6, rfl, gr6, h, hGσ5, hS⟩ := hq
  intro H locs ls hH hl hc
  refine W.eq (g2 := F0 m 54 ls [.int (i32 r6)]) (rfl) ?_
  try dsimp only at h
  refine lv_if_ge (tgt := 61) B.1 B.2.1 dX16_leastWaiting_54 (by decide) (fun h9 => ?_) (fun h9 => ?_)
  · rw [if_pos ((z_ge gr6).mp h9)] at h
    exact a_X16_leastWaiting_61 K hQ hX hK11 _ _ _ _ _ g2 g5 g6 h hGσ5 hS _ _ _ hH (lv_sub (l' := [(0, .ref rm), (2, .int (i32 v2)), (3, .long v3), (5, .int (i32 v5)), (6, .int (i32 v6))]) hl [0, 1, 2, 3, 4] rfl) hc
  · rw [if_neg (fun q => h9 ((z_ge gr6).mpr q))] at h
    exact a_X16_leastWaiting_57 K hQ hX hK11 _ _ _ _ g2 g6 h hGσ5 hS _ _ _ hH (lv_sub (l' := [(0, .ref rm), (2, .int (i32 v2)), (3, .long v3), (6, .int (i32 v6))]) hl [0, 1, 2, 4] rfl) hc
set_option maxRecDepth 20000 in
theorem a_X16_leastWaiting_39 {Q : Sg → Int → Prop} {X : Sg → String → Prop} (K : MC R p s m args c cX16_leastWaiting 7 RX16 D cA tys A n0 s0 2 53 []) (hQ : HQI p l e R s m args below meth c cX16_leastWaiting D cA A n0 s0 QM dm ra jx rm Q) (hX : HX p l e R s m args below meth c 7 D cA A n0 s0 QM dm ra jx rm X) {K11 : Sg → Int → Int64 → Int → Int → Prop} (hK11 : ∀ (σ : Sg) (v2 : Int) (v3 : Int64) (v5 : Int) (v6 : Int) (g2 : rng v2) (g5 : rng v5) (g6 : rng v6), K11 σ v2 v3 v5 v6 → RG σ → Shp dm ra jx rm σ → JJ p l e R s m args below meth c 7 D cA A n0 s0 QM σ 11 [(0, .ref rm), (2, .int (i32 v2)), (3, .long v3), (5, .int (i32 v5)), (6, .int (i32 v6))] []) : ∀ (σ : Sg) (v2 : Int) (v3 : Int64) (v5 : Int) (v6 : Int) (g2 : rng v2) (g5 : rng v5) (g6 : rng v6), w_X16_leastWaiting_39 ra jx rm K11 Q X σ v2 v3 v5 v6 → RG σ → Shp dm ra jx rm σ → JJ p l e R s m args below meth c 7 D cA A n0 s0 QM σ 39 [(0, .ref rm), (2, .int (i32 v2)), (3, .long v3), (5, .int (i32 v5)), (6, .int (i32 v6))] [] := by
  intro σ v2 v3 v5 v6 g2 g5 g6 h hGσ hS H locs ls hH hl hc
  have B := K.1
  unfold w_X16_leastWaiting_39 at h
  refine lv_iload B.1 B.2.1 dX16_leastWaiting_39 (lv_at hl 3 rfl) ?_
  refine lv_iconst (v := i32 (-1)) B.1 B.2.1 dX16_leastWaiting_41 (by decide) ?_
  refine lv_icmp_eq (tgt := 57) B.1 B.2.1 dX16_leastWaiting_42 (by decide) (fun h9 => ?_) (fun h9 => ?_)
  · rw [if_pos ((i32_eq g5 (by unfold rng; omega)).mp h9)] at h
    exact a_X16_leastWaiting_57 K hQ hX hK11 _ _ _ _ g2 g6 h hGσ hS _ _ _ hH (lv_sub (l' := [(0, .ref rm), (2, .int (i32 v2)), (3, .long v3), (6, .int (i32 v6))]) hl [0, 1, 2, 4] rfl) hc
  · rw [if_neg (fun q => h9 ((i32_eq g5 (by unfold rng; omega)).mpr q))] at h
    exact a_X16_leastWaiting_45 K hQ hX hK11 _ _ _ _ _ g2 g5 g6 h hGσ hS _ _ _ hH (lv_sub (l' := [(0, .ref rm), (2, .int (i32 v2)), (3, .long v3), (5, .int (i32 v5)), (6, .int (i32 v6))]) hl [0, 1, 2, 3, 4] rfl) hc
set_option maxRecDepth 20000 in
theorem a_X16_leastWaiting_27 {Q : Sg → Int → Prop} {X : Sg → String → Prop} (K : MC R p s m args c cX16_leastWaiting 7 RX16 D cA tys A n0 s0 2 53 []) (hQ : HQI p l e R s m args below meth c cX16_leastWaiting D cA A n0 s0 QM dm ra jx rm Q) (hX : HX p l e R s m args below meth c 7 D cA A n0 s0 QM dm ra jx rm X) {K11 : Sg → Int → Int64 → Int → Int → Prop} (hK11 : ∀ (σ : Sg) (v2 : Int) (v3 : Int64) (v5 : Int) (v6 : Int) (g2 : rng v2) (g5 : rng v5) (g6 : rng v6), K11 σ v2 v3 v5 v6 → RG σ → Shp dm ra jx rm σ → JJ p l e R s m args below meth c 7 D cA A n0 s0 QM σ 11 [(0, .ref rm), (2, .int (i32 v2)), (3, .long v3), (5, .int (i32 v5)), (6, .int (i32 v6))] []) : ∀ (σ : Sg) (v2 : Int) (v3 : Int64) (v5 : Int) (v6 : Int) (g2 : rng v2) (g5 : rng v5) (g6 : rng v6), w_X16_leastWaiting_27 ra jx rm K11 Q X σ v2 v3 v5 v6 → RG σ → Shp dm ra jx rm σ → JJ p l e R s m args below meth c 7 D cA A n0 s0 QM σ 27 [(0, .ref rm), (2, .int (i32 v2)), (3, .long v3), (5, .int (i32 v5)), (6, .int (i32 v6))] [] := by
  intro σ v2 v3 v5 v6 g2 g5 g6 h hGσ hS H locs ls hH hl hc
  have B := K.1
  unfold w_X16_leastWaiting_27 at h
  refine lv_aload_n B.1 B.2.1 dX16_leastWaiting_27 rfl (lv_at hl 0 rfl) ?_
  refine r_arr B hH hS 71 (kd := 101) (n := 4000) (by decide) (by decide) wf_X16_522 rfl rfl dX16_leastWaiting_28 ?_
  refine lv_iload B.1 B.2.1 dX16_leastWaiting_31 (lv_at hl 4 rfl) ?_
  obtain ⟨q1, h⟩ := h
  refine x_lald B K.2.1 hH (hS.ar (k := 71) (kd := 101) (n := 4000) (by decide)) (by decide) q1 dX16_leastWaiting_33 ?_
  refine lv_lload_n B.1 B.2.1 dX16_leastWaiting_34 rfl (lv_at hl 2 rfl) ?_
  refine W.lcmp B.1 B.2.1 dX16_leastWaiting_35 ?_
  refine lv_if_gt (tgt := 61) B.1 B.2.1 dX16_leastWaiting_36 (by decide) (fun h9 => ?_) (fun h9 => ?_)
  · rw [if_pos ((lg_cmp_gt _ _).mp h9)] at h
    exact a_X16_leastWaiting_61 K hQ hX hK11 _ _ _ _ _ g2 g5 g6 h hGσ hS _ _ _ hH (lv_sub (l' := [(0, .ref rm), (2, .int (i32 v2)), (3, .long v3), (5, .int (i32 v5)), (6, .int (i32 v6))]) hl [0, 1, 2, 3, 4] rfl) hc
  · rw [if_neg (fun q => h9 ((lg_cmp_gt _ _).mpr q))] at h
    exact a_X16_leastWaiting_39 K hQ hX hK11 _ _ _ _ _ g2 g5 g6 h hGσ hS _ _ _ hH (lv_sub (l' := [(0, .ref rm), (2, .int (i32 v2)), (3, .long v3), (5, .int (i32 v5)), (6, .int (i32 v6))]) hl [0, 1, 2, 3, 4] rfl) hc
set_option maxRecDepth 20000 in
theorem a_X16_leastWaiting_17 {Q : Sg → Int → Prop} {X : Sg → String → Prop} (K : MC R p s m args c cX16_leastWaiting 7 RX16 D cA tys A n0 s0 2 53 []) (hQ : HQI p l e R s m args below meth c cX16_leastWaiting D cA A n0 s0 QM dm ra jx rm Q) (hX : HX p l e R s m args below meth c 7 D cA A n0 s0 QM dm ra jx rm X) {K11 : Sg → Int → Int64 → Int → Int → Prop} (hK11 : ∀ (σ : Sg) (v2 : Int) (v3 : Int64) (v5 : Int) (v6 : Int) (g2 : rng v2) (g5 : rng v5) (g6 : rng v6), K11 σ v2 v3 v5 v6 → RG σ → Shp dm ra jx rm σ → JJ p l e R s m args below meth c 7 D cA A n0 s0 QM σ 11 [(0, .ref rm), (2, .int (i32 v2)), (3, .long v3), (5, .int (i32 v5)), (6, .int (i32 v6))] []) : ∀ (σ : Sg) (v2 : Int) (v3 : Int64) (v5 : Int) (v6 : Int) (g2 : rng v2) (g5 : rng v5) (g6 : rng v6), w_X16_leastWaiting_17 ra jx rm K11 Q X σ v2 v3 v5 v6 → RG σ → Shp dm ra jx rm σ → JJ p l e R s m args below meth c 7 D cA A n0 s0 QM σ 17 [(0, .ref rm), (2, .int (i32 v2)), (3, .long v3), (5, .int (i32 v5)), (6, .int (i32 v6))] [] := by
  intro σ v2 v3 v5 v6 g2 g5 g6 h hGσ hS H locs ls hH hl hc
  have B := K.1
  unfold w_X16_leastWaiting_17 at h
  refine lv_aload_n B.1 B.2.1 dX16_leastWaiting_17 rfl (lv_at hl 0 rfl) ?_
  refine r_arr B hH hS 68 (kd := 100) (n := 4000) (by decide) (by decide) wf_X16_513 rfl rfl dX16_leastWaiting_18 ?_
  refine lv_iload B.1 B.2.1 dX16_leastWaiting_21 (lv_at hl 4 rfl) ?_
  obtain ⟨q1, h⟩ := h
  refine x_iald B K.2.1 hH (hS.ar (k := 68) (kd := 100) (n := 4000) (by decide)) (by decide) q1 dX16_leastWaiting_23 ?_
  refine lv_if_ne (tgt := 61) B.1 B.2.1 dX16_leastWaiting_24 (by decide) (fun h9 => ?_) (fun h9 => ?_)
  · rw [if_pos (fun q => h9 ((z_eq (hGσ _ _)).mpr q))] at h
    exact a_X16_leastWaiting_61 K hQ hX hK11 _ _ _ _ _ g2 g5 g6 h hGσ hS _ _ _ hH (lv_sub (l' := [(0, .ref rm), (2, .int (i32 v2)), (3, .long v3), (5, .int (i32 v5)), (6, .int (i32 v6))]) hl [0, 1, 2, 3, 4] rfl) hc
  · rw [if_neg (fun q => q ((z_eq (hGσ _ _)).mp h9))] at h
    exact a_X16_leastWaiting_27 K hQ hX hK11 _ _ _ _ _ g2 g5 g6 h hGσ hS _ _ _ hH (lv_sub (l' := [(0, .ref rm), (2, .int (i32 v2)), (3, .long v3), (5, .int (i32 v5)), (6, .int (i32 v6))]) hl [0, 1, 2, 3, 4] rfl) hc
set_option maxRecDepth 20000 in
theorem a_X16_leastWaiting_11 {Q : Sg → Int → Prop} {X : Sg → String → Prop} (K : MC R p s m args c cX16_leastWaiting 7 RX16 D cA tys A n0 s0 2 53 []) (hQ : HQI p l e R s m args below meth c cX16_leastWaiting D cA A n0 s0 QM dm ra jx rm Q) (hX : HX p l e R s m args below meth c 7 D cA A n0 s0 QM dm ra jx rm X) {K11 : Sg → Int → Int64 → Int → Int → Prop} (hK11 : ∀ (σ : Sg) (v2 : Int) (v3 : Int64) (v5 : Int) (v6 : Int) (g2 : rng v2) (g5 : rng v5) (g6 : rng v6), K11 σ v2 v3 v5 v6 → RG σ → Shp dm ra jx rm σ → JJ p l e R s m args below meth c 7 D cA A n0 s0 QM σ 11 [(0, .ref rm), (2, .int (i32 v2)), (3, .long v3), (5, .int (i32 v5)), (6, .int (i32 v6))] []) : ∀ (σ : Sg) (v2 : Int) (v3 : Int64) (v5 : Int) (v6 : Int) (g2 : rng v2) (g5 : rng v5) (g6 : rng v6), w_X16_leastWaiting_11 ra jx rm K11 Q X σ v2 v3 v5 v6 → RG σ → Shp dm ra jx rm σ → JJ p l e R s m args below meth c 7 D cA A n0 s0 QM σ 11 [(0, .ref rm), (2, .int (i32 v2)), (3, .long v3), (5, .int (i32 v5)), (6, .int (i32 v6))] [] := by
  intro σ v2 v3 v5 v6 g2 g5 g6 h hGσ hS H locs ls hH hl hc
  have B := K.1
  unfold w_X16_leastWaiting_11 at h
  refine lv_iload B.1 B.2.1 dX16_leastWaiting_11 (lv_at hl 4 rfl) ?_
  refine lv_iconst (v := i32 (-1)) B.1 B.2.1 dX16_leastWaiting_13 (by decide) ?_
  refine lv_icmp_eq (tgt := 73) B.1 B.2.1 dX16_leastWaiting_14 (by decide) (fun h9 => ?_) (fun h9 => ?_)
  · rw [if_pos ((i32_eq g6 (by unfold rng; omega)).mp h9)] at h
    exact a_X16_leastWaiting_73 K hQ hX _ _ g5 h hGσ hS _ _ _ hH (lv_sub (l' := [(0, .ref rm), (5, .int (i32 v5))]) hl [0, 3] rfl) hc
  · rw [if_neg (fun q => h9 ((i32_eq g6 (by unfold rng; omega)).mpr q))] at h
    exact a_X16_leastWaiting_17 K hQ hX hK11 _ _ _ _ _ g2 g5 g6 h hGσ hS _ _ _ hH (lv_sub (l' := [(0, .ref rm), (2, .int (i32 v2)), (3, .long v3), (5, .int (i32 v5)), (6, .int (i32 v6))]) hl [0, 1, 2, 3, 4] rfl) hc
theorem al_X16_leastWaiting_11 {Q : Sg → Int → Prop} {X : Sg → String → Prop} (K : MC R p s m args c cX16_leastWaiting 7 RX16 D cA tys A n0 s0 2 53 []) (hQ : HQI p l e R s m args below meth c cX16_leastWaiting D cA A n0 s0 QM dm ra jx rm Q) (hX : HX p l e R s m args below meth c 7 D cA A n0 s0 QM dm ra jx rm X) : ∀ (n : Nat), ∀ (σ : Sg) (v2 : Int) (v3 : Int64) (v5 : Int) (v6 : Int) (g2 : rng v2) (g5 : rng v5) (g6 : rng v6), wl_X16_leastWaiting_11 ra jx rm Q X n σ v2 v3 v5 v6 → RG σ → Shp dm ra jx rm σ → JJ p l e R s m args below meth c 7 D cA A n0 s0 QM σ 11 [(0, .ref rm), (2, .int (i32 v2)), (3, .long v3), (5, .int (i32 v5)), (6, .int (i32 v6))] [] := by
  intro n
  induction n with
  | zero => intro σ v2 v3 v5 v6 g2 g5 g6 h; exact h.elim
  | succ n ih => exact fun σ v2 v3 v5 v6 g2 g5 g6 h => a_X16_leastWaiting_11 K hQ hX ih σ v2 v3 v5 v6 g2 g5 g6 h
set_option maxRecDepth 20000 in
theorem a_X16_leastWaiting_0 {Q : Sg → Int → Prop} {X : Sg → String → Prop} (K : MC R p s m args c cX16_leastWaiting 7 RX16 D cA tys A n0 s0 2 53 []) (hQ : HQI p l e R s m args below meth c cX16_leastWaiting D cA A n0 s0 QM dm ra jx rm Q) (hX : HX p l e R s m args below meth c 7 D cA A n0 s0 QM dm ra jx rm X) : ∀ (σ : Sg) (v1 : Int) (v2 : Int) (v3 : Int64) (g1 : rng v1) (g2 : rng v2), w_X16_leastWaiting_0 ra jx rm Q X σ v1 v2 v3 → RG σ → Shp dm ra jx rm σ → JJ p l e R s m args below meth c 7 D cA A n0 s0 QM σ 0 [(0, .ref rm), (1, .int (i32 v1)), (2, .int (i32 v2)), (3, .long v3)] [] := by
  intro σ v1 v2 v3 g1 g2 h hGσ hS H locs ls hH hl hc
  have B := K.1
  unfold w_X16_leastWaiting_0 at h
  refine lv_iconst (v := i32 (-1)) B.1 B.2.1 dX16_leastWaiting_0 (by decide) ?_
  refine lv_istore (lv' := [(5, .int (i32 (-1))), (0, .ref rm), (1, .int (i32 v1)), (2, .int (i32 v2)), (3, .long v3)]) B.1 B.2.1 dX16_leastWaiting_1 hl (by decide) rfl (fun ls hl => ?_)
  refine lv_aload_n B.1 B.2.1 dX16_leastWaiting_3 rfl (lv_at hl 1 rfl) ?_
  refine r_arr B hH hS 76 (kd := 100) (n := 64) (by decide) (by decide) wf_X16_504 rfl rfl dX16_leastWaiting_4 ?_
  refine lv_iload_n B.1 B.2.1 dX16_leastWaiting_7 rfl (lv_at hl 2 rfl) ?_
  obtain ⟨q1, h⟩ := h
  refine x_iald B K.2.1 hH (hS.ar (k := 76) (kd := 100) (n := 64) (by decide)) (by decide) q1 dX16_leastWaiting_8 ?_
  refine lv_istore (lv' := [(6, .int (i32 (gI σ (ra 76) v1.toNat))), (5, .int (i32 (-1))), (0, .ref rm), (1, .int (i32 v1)), (2, .int (i32 v2)), (3, .long v3)]) B.1 B.2.1 dX16_leastWaiting_9 hl (by decide) rfl (fun ls hl => ?_)
  obtain ⟨n9, h⟩ := h
  exact al_X16_leastWaiting_11 K hQ hX n9 _ _ _ _ _ g2 (by unfold rng; omega) (hGσ _ _) h hGσ hS _ _ _ hH (lv_sub (l' := [(0, .ref rm), (2, .int (i32 v2)), (3, .long v3), (5, .int (i32 (-1))), (6, .int (i32 (gI σ (ra 76) v1.toNat)))]) hl [2, 4, 5, 1, 0] rfl) hc
theorem ok_X16_leastWaiting (hT : Tys cA tys) {Q : Sg → Int → Prop} {X : Sg → String → Prop} (σ : Sg) (v1 : Int) (v2 : Int) (v3 : Int64) (g1 : rng v1) (g2 : rng v2) (hG : RG σ) (hS : Shp dm ra jx rm σ) (h : wp_X16_leastWaiting ra jx rm v1 v2 v3 σ Q X) : Ok l D cA tys A yX16_leastWaiting (.code yX16_leastWaiting cX16_leastWaiting 7 (some .int)) 2 53 [.ref rm, .int (i32 v1), .int (i32 v2), .long v3] σ (QnI dm ra jx rm Q) (QxR dm ra jx rm X) := by
  unfold wp_X16_leastWaiting at h
  exact ok_I (plainFor_of_name (by decide)) (by exact Nat.le_of_ble_eq_true rfl) hT (fun p e R s m args below meth c K hQ hX H locs ls hH hl hc => a_X16_leastWaiting_0 K hQ hX σ v1 v2 v3 g1 g2 h hG hS H locs ls hH (lv_sub (l' := [(0, .ref rm), (1, .int (i32 v1)), (2, .int (i32 v2)), (3, .long v3)]) hl [0, 1, 2, 3] rfl) hc)
theorem dX16_growLook_0 : decode cX16_growLook 0 = .ok (.aload_n 0, 1) := by decide +kernel
theorem dX16_growLook_1 : decode cX16_growLook 1 = .ok (.getfield 356, 3) := by decide +kernel
theorem dX16_growLook_4 : decode cX16_growLook 4 = .ok (.getfield 178, 3) := by decide +kernel
theorem dX16_growLook_7 : decode cX16_growLook 7 = .ok (.aload_n 0, 1) := by decide +kernel
theorem dX16_growLook_8 : decode cX16_growLook 8 = .ok (.getfield 356, 3) := by decide +kernel
theorem dX16_growLook_11 : decode cX16_growLook 11 = .ok (.getfield 216, 3) := by decide +kernel
theorem dX16_growLook_14 : decode cX16_growLook 14 = .ok (.iload_n 2, 1) := by decide +kernel
theorem dX16_growLook_15 : decode cX16_growLook 15 = .ok (.iaload, 1) := by decide +kernel
theorem dX16_growLook_16 : decode cX16_growLook 16 = .ok (.iaload, 1) := by decide +kernel
theorem dX16_growLook_17 : decode cX16_growLook 17 = .ok (.istore 5, 2) := by decide +kernel
theorem dX16_growLook_19 : decode cX16_growLook 19 = .ok (.aload_n 0, 1) := by decide +kernel
theorem dX16_growLook_20 : decode cX16_growLook 20 = .ok (.getfield 356, 3) := by decide +kernel
theorem dX16_growLook_23 : decode cX16_growLook 23 = .ok (.getfield 178, 3) := by decide +kernel
theorem dX16_growLook_26 : decode cX16_growLook 26 = .ok (.aload_n 0, 1) := by decide +kernel
theorem dX16_growLook_27 : decode cX16_growLook 27 = .ok (.getfield 356, 3) := by decide +kernel
theorem dX16_growLook_30 : decode cX16_growLook 30 = .ok (.getfield 231, 3) := by decide +kernel
theorem dX16_growLook_33 : decode cX16_growLook 33 = .ok (.iload_n 2, 1) := by decide +kernel
theorem dX16_growLook_34 : decode cX16_growLook 34 = .ok (.iaload, 1) := by decide +kernel
theorem dX16_growLook_35 : decode cX16_growLook 35 = .ok (.iaload, 1) := by decide +kernel
theorem dX16_growLook_36 : decode cX16_growLook 36 = .ok (.istore 6, 2) := by decide +kernel
theorem dX16_growLook_38 : decode cX16_growLook 38 = .ok (.aload_n 0, 1) := by decide +kernel
theorem dX16_growLook_39 : decode cX16_growLook 39 = .ok (.iload_n 1, 1) := by decide +kernel
theorem dX16_growLook_40 : decode cX16_growLook 40 = .ok (.iload 5, 2) := by decide +kernel
theorem dX16_growLook_42 : decode cX16_growLook 42 = .ok (.lload_n 3, 1) := by decide +kernel
theorem dX16_growLook_43 : decode cX16_growLook 43 = .ok (.invokevirtual 636, 3) := by decide +kernel
theorem dX16_growLook_46 : decode cX16_growLook 46 = .ok (.istore 7, 2) := by decide +kernel
theorem dX16_growLook_48 : decode cX16_growLook 48 = .ok (.iload 7, 2) := by decide +kernel
theorem dX16_growLook_50 : decode cX16_growLook 50 = .ok (.iconst (-1), 1) := by decide +kernel
theorem dX16_growLook_51 : decode cX16_growLook 51 = .ok (.if_icmp .eq 178, 3) := by decide +kernel
theorem dX16_growLook_54 : decode cX16_growLook 54 = .ok (.aload_n 0, 1) := by decide +kernel
theorem dX16_growLook_55 : decode cX16_growLook 55 = .ok (.iload_n 1, 1) := by decide +kernel
theorem dX16_growLook_56 : decode cX16_growLook 56 = .ok (.iload_n 2, 1) := by decide +kernel
theorem dX16_growLook_57 : decode cX16_growLook 57 = .ok (.aload_n 0, 1) := by decide +kernel
theorem dX16_growLook_58 : decode cX16_growLook 58 = .ok (.getfield 519, 3) := by decide +kernel
theorem dX16_growLook_61 : decode cX16_growLook 61 = .ok (.iload 7, 2) := by decide +kernel
theorem dX16_growLook_63 : decode cX16_growLook 63 = .ok (.laload, 1) := by decide +kernel
theorem dX16_growLook_64 : decode cX16_growLook 64 = .ok (.aload_n 0, 1) := by decide +kernel
theorem dX16_growLook_65 : decode cX16_growLook 65 = .ok (.getfield 522, 3) := by decide +kernel
theorem dX16_growLook_68 : decode cX16_growLook 68 = .ok (.iload 7, 2) := by decide +kernel
theorem dX16_growLook_70 : decode cX16_growLook 70 = .ok (.laload, 1) := by decide +kernel
theorem dX16_growLook_71 : decode cX16_growLook 71 = .ok (.invokevirtual 640, 3) := by decide +kernel
theorem dX16_growLook_74 : decode cX16_growLook 74 = .ok (.istore 8, 2) := by decide +kernel
theorem dX16_growLook_76 : decode cX16_growLook 76 = .ok (.iload 8, 2) := by decide +kernel
theorem dX16_growLook_78 : decode cX16_growLook 78 = .ok (.iconst (-1), 1) := by decide +kernel
theorem dX16_growLook_79 : decode cX16_growLook 79 = .ok (.if_icmp .eq 131, 3) := by decide +kernel
theorem dX16_growLook_82 : decode cX16_growLook 82 = .ok (.iconst 0, 1) := by decide +kernel
theorem dX16_growLook_83 : decode cX16_growLook 83 = .ok (.istore 9, 2) := by decide +kernel
theorem dX16_growLook_85 : decode cX16_growLook 85 = .ok (.iload 9, 2) := by decide +kernel
theorem dX16_growLook_87 : decode cX16_growLook 87 = .ok (.bipush 8, 2) := by decide +kernel
theorem dX16_growLook_89 : decode cX16_growLook 89 = .ok (.if_icmp .ge 69, 3) := by decide +kernel
theorem dX16_growLook_92 : decode cX16_growLook 92 = .ok (.aload_n 0, 1) := by decide +kernel
theorem dX16_growLook_93 : decode cX16_growLook 93 = .ok (.getfield 578, 3) := by decide +kernel
theorem dX16_growLook_96 : decode cX16_growLook 96 = .ok (.iload 9, 2) := by decide +kernel
theorem dX16_growLook_98 : decode cX16_growLook 98 = .ok (.iload 9, 2) := by decide +kernel
theorem dX16_growLook_100 : decode cX16_growLook 100 = .ok (.iload 5, 2) := by decide +kernel
theorem dX16_growLook_102 : decode cX16_growLook 102 = .ok (.if_icmp .ge 19, 3) := by decide +kernel
theorem dX16_growLook_105 : decode cX16_growLook 105 = .ok (.aload_n 0, 1) := by decide +kernel
theorem dX16_growLook_106 : decode cX16_growLook 106 = .ok (.getfield 528, 3) := by decide +kernel
theorem dX16_growLook_109 : decode cX16_growLook 109 = .ok (.bipush 8, 2) := by decide +kernel
theorem dX16_growLook_111 : decode cX16_growLook 111 = .ok (.iload 7, 2) := by decide +kernel
theorem dX16_growLook_113 : decode cX16_growLook 113 = .ok (.imul, 1) := by decide +kernel
theorem dX16_growLook_114 : decode cX16_growLook 114 = .ok (.iload 9, 2) := by decide +kernel
theorem dX16_growLook_116 : decode cX16_growLook 116 = .ok (.iadd, 1) := by decide +kernel
theorem dX16_growLook_117 : decode cX16_growLook 117 = .ok (.laload, 1) := by decide +kernel
theorem dX16_growLook_118 : decode cX16_growLook 118 = .ok (.goto 33, 3) := by decide +kernel
theorem dX16_growLook_121 : decode cX16_growLook 121 = .ok (.iload 9, 2) := by decide +kernel
theorem dX16_growLook_123 : decode cX16_growLook 123 = .ok (.iload 5, 2) := by decide +kernel
theorem dX16_growLook_125 : decode cX16_growLook 125 = .ok (.iload 6, 2) := by decide +kernel
theorem dX16_growLook_127 : decode cX16_growLook 127 = .ok (.iadd, 1) := by decide +kernel
theorem dX16_growLook_128 : decode cX16_growLook 128 = .ok (.if_icmp .ge 22, 3) := by decide +kernel
theorem dX16_growLook_131 : decode cX16_growLook 131 = .ok (.aload_n 0, 1) := by decide +kernel
theorem dX16_growLook_132 : decode cX16_growLook 132 = .ok (.getfield 528, 3) := by decide +kernel
theorem dX16_growLook_135 : decode cX16_growLook 135 = .ok (.bipush 8, 2) := by decide +kernel
theorem dX16_growLook_137 : decode cX16_growLook 137 = .ok (.iload 8, 2) := by decide +kernel
theorem dX16_growLook_139 : decode cX16_growLook 139 = .ok (.imul, 1) := by decide +kernel
theorem dX16_growLook_140 : decode cX16_growLook 140 = .ok (.iload 9, 2) := by decide +kernel
theorem dX16_growLook_142 : decode cX16_growLook 142 = .ok (.iadd, 1) := by decide +kernel
theorem dX16_growLook_143 : decode cX16_growLook 143 = .ok (.iload 5, 2) := by decide +kernel
theorem dX16_growLook_145 : decode cX16_growLook 145 = .ok (.isub, 1) := by decide +kernel
theorem dX16_growLook_146 : decode cX16_growLook 146 = .ok (.laload, 1) := by decide +kernel
theorem dX16_growLook_147 : decode cX16_growLook 147 = .ok (.goto 4, 3) := by decide +kernel
theorem dX16_growLook_150 : decode cX16_growLook 150 = .ok (.lconst 0, 1) := by decide +kernel
theorem dX16_growLook_151 : decode cX16_growLook 151 = .ok (.lastore, 1) := by decide +kernel
theorem dX16_growLook_152 : decode cX16_growLook 152 = .ok (.iinc 9 1, 3) := by decide +kernel
theorem dX16_growLook_155 : decode cX16_growLook 155 = .ok (.goto (-70), 3) := by decide +kernel
theorem dX16_growLook_158 : decode cX16_growLook 158 = .ok (.aload_n 0, 1) := by decide +kernel
theorem dX16_growLook_159 : decode cX16_growLook 159 = .ok (.getfield 522, 3) := by decide +kernel
theorem dX16_growLook_162 : decode cX16_growLook 162 = .ok (.iload 7, 2) := by decide +kernel
theorem dX16_growLook_164 : decode cX16_growLook 164 = .ok (.laload, 1) := by decide +kernel
theorem dX16_growLook_165 : decode cX16_growLook 165 = .ok (.lstore 9, 2) := by decide +kernel
theorem dX16_growLook_167 : decode cX16_growLook 167 = .ok (.aload_n 0, 1) := by decide +kernel
theorem dX16_growLook_168 : decode cX16_growLook 168 = .ok (.aload_n 0, 1) := by decide +kernel
theorem dX16_growLook_169 : decode cX16_growLook 169 = .ok (.getfield 531, 3) := by decide +kernel
theorem dX16_growLook_172 : decode cX16_growLook 172 = .ok (.iload 7, 2) := by decide +kernel
theorem dX16_growLook_174 : decode cX16_growLook 174 = .ok (.iaload, 1) := by decide +kernel
theorem dX16_growLook_175 : decode cX16_growLook 175 = .ok (.aload_n 0, 1) := by decide +kernel
theorem dX16_growLook_176 : decode cX16_growLook 176 = .ok (.getfield 531, 3) := by decide +kernel
theorem dX16_growLook_179 : decode cX16_growLook 179 = .ok (.iload 8, 2) := by decide +kernel
theorem dX16_growLook_181 : decode cX16_growLook 181 = .ok (.iaload, 1) := by decide +kernel
theorem dX16_growLook_182 : decode cX16_growLook 182 = .ok (.invokevirtual 603, 3) := by decide +kernel
theorem dX16_growLook_185 : decode cX16_growLook 185 = .ok (.istore 11, 2) := by decide +kernel
theorem dX16_growLook_187 : decode cX16_growLook 187 = .ok (.aload_n 0, 1) := by decide +kernel
theorem dX16_growLook_188 : decode cX16_growLook 188 = .ok (.iload 7, 2) := by decide +kernel
theorem dX16_growLook_190 : decode cX16_growLook 190 = .ok (.invokevirtual 607, 3) := by decide +kernel
theorem dX16_growLook_193 : decode cX16_growLook 193 = .ok (.aload_n 0, 1) := by decide +kernel
theorem dX16_growLook_194 : decode cX16_growLook 194 = .ok (.iload_n 1, 1) := by decide +kernel
theorem dX16_growLook_195 : decode cX16_growLook 195 = .ok (.lload 9, 2) := by decide +kernel
theorem dX16_growLook_197 : decode cX16_growLook 197 = .ok (.aload_n 0, 1) := by decide +kernel
theorem dX16_growLook_198 : decode cX16_growLook 198 = .ok (.getfield 578, 3) := by decide +kernel
theorem dX16_growLook_201 : decode cX16_growLook 201 = .ok (.iconst 0, 1) := by decide +kernel
theorem dX16_growLook_202 : decode cX16_growLook 202 = .ok (.iload 11, 2) := by decide +kernel
theorem dX16_growLook_204 : decode cX16_growLook 204 = .ok (.invokevirtual 549, 3) := by decide +kernel
theorem dX16_growLook_207 : decode cX16_growLook 207 = .ok (.goto 9, 3) := by decide +kernel
theorem dX16_growLook_210 : decode cX16_growLook 210 = .ok (.aload_n 0, 1) := by decide +kernel
theorem dX16_growLook_211 : decode cX16_growLook 211 = .ok (.iload 7, 2) := by decide +kernel
theorem dX16_growLook_213 : decode cX16_growLook 213 = .ok (.invokevirtual 607, 3) := by decide +kernel
theorem dX16_growLook_216 : decode cX16_growLook 216 = .ok (.aload_n 0, 1) := by decide +kernel
theorem dX16_growLook_217 : decode cX16_growLook 217 = .ok (.iload_n 1, 1) := by decide +kernel
theorem dX16_growLook_218 : decode cX16_growLook 218 = .ok (.iload 5, 2) := by decide +kernel
theorem dX16_growLook_220 : decode cX16_growLook 220 = .ok (.lload_n 3, 1) := by decide +kernel
theorem dX16_growLook_221 : decode cX16_growLook 221 = .ok (.invokevirtual 636, 3) := by decide +kernel
theorem dX16_growLook_224 : decode cX16_growLook 224 = .ok (.istore 7, 2) := by decide +kernel
theorem dX16_growLook_226 : decode cX16_growLook 226 = .ok (.goto (-178), 3) := by decide +kernel
theorem dX16_growLook_229 : decode cX16_growLook 229 = .ok (.aload_n 0, 1) := by decide +kernel
theorem dX16_growLook_230 : decode cX16_growLook 230 = .ok (.getfield 504, 3) := by decide +kernel
theorem dX16_growLook_233 : decode cX16_growLook 233 = .ok (.iload_n 1, 1) := by decide +kernel
theorem dX16_growLook_234 : decode cX16_growLook 234 = .ok (.iaload, 1) := by decide +kernel
theorem dX16_growLook_235 : decode cX16_growLook 235 = .ok (.istore 7, 2) := by decide +kernel
theorem dX16_growLook_237 : decode cX16_growLook 237 = .ok (.iload 7, 2) := by decide +kernel
theorem dX16_growLook_239 : decode cX16_growLook 239 = .ok (.iconst (-1), 1) := by decide +kernel
theorem dX16_growLook_240 : decode cX16_growLook 240 = .ok (.if_icmp .eq 67, 3) := by decide +kernel
theorem dX16_growLook_243 : decode cX16_growLook 243 = .ok (.aload_n 0, 1) := by decide +kernel
theorem dX16_growLook_244 : decode cX16_growLook 244 = .ok (.getfield 495, 3) := by decide +kernel
theorem dX16_growLook_247 : decode cX16_growLook 247 = .ok (.iload 7, 2) := by decide +kernel
theorem dX16_growLook_249 : decode cX16_growLook 249 = .ok (.iaload, 1) := by decide +kernel
theorem dX16_growLook_250 : decode cX16_growLook 250 = .ok (.istore 8, 2) := by decide +kernel
theorem dX16_growLook_252 : decode cX16_growLook 252 = .ok (.aload_n 0, 1) := by decide +kernel
theorem dX16_growLook_253 : decode cX16_growLook 253 = .ok (.getfield 513, 3) := by decide +kernel
theorem dX16_growLook_256 : decode cX16_growLook 256 = .ok (.iload 7, 2) := by decide +kernel
theorem dX16_growLook_258 : decode cX16_growLook 258 = .ok (.iaload, 1) := by decide +kernel
theorem dX16_growLook_259 : decode cX16_growLook 259 = .ok (.iconst 1, 1) := by decide +kernel
theorem dX16_growLook_260 : decode cX16_growLook 260 = .ok (.if_icmp .ne 40, 3) := by decide +kernel
theorem dX16_growLook_263 : decode cX16_growLook 263 = .ok (.aload_n 0, 1) := by decide +kernel
theorem dX16_growLook_264 : decode cX16_growLook 264 = .ok (.getfield 522, 3) := by decide +kernel
theorem dX16_growLook_267 : decode cX16_growLook 267 = .ok (.iload 7, 2) := by decide +kernel
theorem dX16_growLook_269 : decode cX16_growLook 269 = .ok (.laload, 1) := by decide +kernel
theorem dX16_growLook_270 : decode cX16_growLook 270 = .ok (.lload_n 3, 1) := by decide +kernel
theorem dX16_growLook_271 : decode cX16_growLook 271 = .ok (.lcmp, 1) := by decide +kernel
theorem dX16_growLook_272 : decode cX16_growLook 272 = .ok (.ifCond .gt 28, 3) := by decide +kernel
theorem dX16_growLook_275 : decode cX16_growLook 275 = .ok (.aload_n 0, 1) := by decide +kernel
theorem dX16_growLook_276 : decode cX16_growLook 276 = .ok (.iload_n 1, 1) := by decide +kernel
theorem dX16_growLook_277 : decode cX16_growLook 277 = .ok (.iload_n 2, 1) := by decide +kernel
theorem dX16_growLook_278 : decode cX16_growLook 278 = .ok (.aload_n 0, 1) := by decide +kernel
theorem dX16_growLook_279 : decode cX16_growLook 279 = .ok (.getfield 519, 3) := by decide +kernel
theorem dX16_growLook_282 : decode cX16_growLook 282 = .ok (.iload 7, 2) := by decide +kernel
theorem dX16_growLook_284 : decode cX16_growLook 284 = .ok (.laload, 1) := by decide +kernel
theorem dX16_growLook_285 : decode cX16_growLook 285 = .ok (.lload_n 3, 1) := by decide +kernel
theorem dX16_growLook_286 : decode cX16_growLook 286 = .ok (.invokevirtual 640, 3) := by decide +kernel
theorem dX16_growLook_289 : decode cX16_growLook 289 = .ok (.iload 7, 2) := by decide +kernel
theorem dX16_growLook_291 : decode cX16_growLook 291 = .ok (.if_icmp .eq 9, 3) := by decide +kernel
theorem dX16_growLook_294 : decode cX16_growLook 294 = .ok (.aload_n 0, 1) := by decide +kernel
theorem dX16_growLook_295 : decode cX16_growLook 295 = .ok (.iload 7, 2) := by decide +kernel
theorem dX16_growLook_297 : decode cX16_growLook 297 = .ok (.invokevirtual 607, 3) := by decide +kernel
theorem dX16_growLook_300 : decode cX16_growLook 300 = .ok (.iload 8, 2) := by decide +kernel
theorem dX16_growLook_302 : decode cX16_growLook 302 = .ok (.istore 7, 2) := by decide +kernel
theorem dX16_growLook_304 : decode cX16_growLook 304 = .ok (.goto (-67), 3) := by decide +kernel
theorem dX16_growLook_307 : decode cX16_growLook 307 = .ok (.return_, 1) := by decide +kernel
set_option maxRecDepth 20000 in
theorem a_X16_growLook_307 {Q : Sg → Unit → Prop} {X : Sg → String → Prop} (K : MC R p s m args c cX16_growLook 12 RX16 D cA tys A n0 s0 3 81 []) (hQ : HQV p l e R s m args below meth c cX16_growLook D cA A n0 s0 QM dm ra jx rm Q) (hX : HX p l e R s m args below meth c 12 D cA A n0 s0 QM dm ra jx rm X) : ∀ (σ : Sg), w_X16_growLook_307 ra jx rm Q X σ → RG σ → Shp dm ra jx rm σ → JJ p l e R s m args below meth c 12 D cA A n0 s0 QM σ 307 [(0, .ref rm)] [] := by
  intro σ h hGσ hS H locs ls hH hl hc
  have B := K.1
  unfold w_X16_growLook_307 at h
  exact hQ _ _ _ _ _ dX16_growLook_307 hH hc h hGσ hS
set_option maxRecDepth 20000 in
theorem a_X16_growLook_300 {Q : Sg → Unit → Prop} {X : Sg → String → Prop} (K : MC R p s m args c cX16_growLook 12 RX16 D cA tys A n0 s0 3 81 []) (hQ : HQV p l e R s m args below meth c cX16_growLook D cA A n0 s0 QM dm ra jx rm Q) (hX : HX p l e R s m args below meth c 12 D cA A n0 s0 QM dm ra jx rm X) {K237 : Sg → Int → Int → Int64 → Int → Prop} (hK237 : ∀ (σ : Sg) (v1 : Int) (v2 : Int) (v3 : Int64) (v7 : Int) (g1 : rng v1) (g2 : rng v2) (g7 : rng v7), K237 σ v1 v2 v3 v7 → RG σ → Shp dm ra jx rm σ → JJ p l e R s m args below meth c 12 D cA A n0 s0 QM σ 237 [(0, .ref rm), (1, .int (i32 v1)), (2, .int (i32 v2)), (3, .long v3), (7, .int (i32 v7))] []) : ∀ (σ : Sg) (v1 : Int) (v2 : Int) (v3 : Int64) (v8 : Int) (g1 : rng v1) (g2 : rng v2) (g8 : rng v8), w_X16_growLook_300 ra jx rm K237 Q X σ v1 v2 v3 v8 → RG σ → Shp dm ra jx rm σ → JJ p l e R s m args below meth c 12 D cA A n0 s0 QM σ 300 [(0, .ref rm), (1, .int (i32 v1)), (2, .int (i32 v2)), (3, .long v3), (8, .int (i32 v8))] [] := by
  intro σ v1 v2 v3 v8 g1 g2 g8 h hGσ hS H locs ls hH hl hc
  have B := K.1
  unfold w_X16_growLook_300 at h
  refine lv_iload B.1 B.2.1 dX16_growLook_300 (lv_at hl 4 rfl) ?_
  refine lv_istore (lv' := [(7, .int (i32 v8)), (0, .ref rm), (1, .int (i32 v1)), (2, .int (i32 v2)), (3, .long v3), (8, .int (i32 v8))]) B.1 B.2.1 dX16_growLook_302 hl (by decide) rfl (fun ls hl => ?_)
  refine lv_goto (tgt := 237) B.1 B.2.1 dX16_growLook_304 (by decide) ?_
  exact hK237 _ _ _ _ _ g1 g2 g8 h hGσ hS _ _ _ hH (lv_sub (l' := [(0, .ref rm), (1, .int (i32 v1)), (2, .int (i32 v2)), (3, .long v3), (7, .int (i32 v8))]) hl [1, 2, 3, 4, 0] rfl) hc
set_option maxRecDepth 20000 in
theorem a_X16_growLook_294 {Q : Sg → Unit → Prop} {X : Sg → String → Prop} (K : MC R p s m args c cX16_growLook 12 RX16 D cA tys A n0 s0 3 81 []) (hQ : HQV p l e R s m args below meth c cX16_growLook D cA A n0 s0 QM dm ra jx rm Q) (hX : HX p l e R s m args below meth c 12 D cA A n0 s0 QM dm ra jx rm X) {K237 : Sg → Int → Int → Int64 → Int → Prop} (hK237 : ∀ (σ : Sg) (v1 : Int) (v2 : Int) (v3 : Int64) (v7 : Int) (g1 : rng v1) (g2 : rng v2) (g7 : rng v7), K237 σ v1 v2 v3 v7 → RG σ → Shp dm ra jx rm σ → JJ p l e R s m args below meth c 12 D cA A n0 s0 QM σ 237 [(0, .ref rm), (1, .int (i32 v1)), (2, .int (i32 v2)), (3, .long v3), (7, .int (i32 v7))] []) : ∀ (σ : Sg) (v1 : Int) (v2 : Int) (v3 : Int64) (v7 : Int) (v8 : Int) (g1 : rng v1) (g2 : rng v2) (g7 : rng v7) (g8 : rng v8), w_X16_growLook_294 ra jx rm K237 Q X σ v1 v2 v3 v7 v8 → RG σ → Shp dm ra jx rm σ → JJ p l e R s m args below meth c 12 D cA A n0 s0 QM σ 294 [(0, .ref rm), (1, .int (i32 v1)), (2, .int (i32 v2)), (3, .long v3), (7, .int (i32 v7)), (8, .int (i32 v8))] [] := by
  intro σ v1 v2 v3 v7 v8 g1 g2 g7 g8 h hGσ hS H locs ls hH hl hc
  have B := K.1
  unfold w_X16_growLook_294 at h
  refine lv_aload_n B.1 B.2.1 dX16_growLook_294 rfl (lv_at hl 0 rfl) ?_
  refine lv_iload B.1 B.2.1 dX16_growLook_295 (lv_at hl 4 rfl) ?_
  refine c_V B hH hl hc K.2.2.1 (C := RX16) (T := TX16) (N := 123) (ci := 16) (As := [.int (i32 v7)]) (ok_X16_drop K.2.1 σ v7 g7 hGσ hS h) wc_X16_607 1 hd_X16_drop ⟨Nat.le_trans (Nat.le_of_ble_eq_true rfl) K.2.2.2.1, Nat.le_trans (Nat.le_of_ble_eq_true rfl) K.2.2.2.2.1⟩ hS.1.1 hS.1.2 (by decide) rfl rfl (rest := []) rfl (Nat.le_of_ble_eq_true rfl) dX16_growLook_297 (fun σ41 w hq => ?_) (fun σ9 E9 hx9 => hX σ9 E9 _ _ _ (tb_out K.2.2.2.2.2 rfl) hx9.1 hx9.2.1 hx9.2.2)
  obtain ⟨rfl, h, hGσ41, hS⟩ := hq
  intro H locs ls hH hl hc
  refine W.eq (g2 := F0 m 300 ls []) (rfl) ?_
  try dsimp only at h
  exact a_X16_growLook_300 K hQ hX hK237 _ _ _ _ _ g1 g2 g8 h hGσ41 hS _ _ _ hH (lv_sub (l' := [(0, .ref rm), (1, .int (i32 v1)), (2, .int (i32 v2)), (3, .long v3), (8, .int (i32 v8))]) hl [0, 1, 2, 3, 5] rfl) hc
set_option maxRecDepth 20000 in
theorem a_X16_growLook_275 {Q : Sg → Unit → Prop} {X : Sg → String → Prop} (K : MC R p s m args c cX16_growLook 12 RX16 D cA tys A n0 s0 3 81 []) (hQ : HQV p l e R s m args below meth c cX16_growLook D cA A n0 s0 QM dm ra jx rm Q) (hX : HX p l e R s m args below meth c 12 D cA A n0 s0 QM dm ra jx rm X) {K237 : Sg → Int → Int → Int64 → Int → Prop} (hK237 : ∀ (σ : Sg) (v1 : Int) (v2 : Int) (v3 : Int64) (v7 : Int) (g1 : rng v1) (g2 : rng v2) (g7 : rng v7), K237 σ v1 v2 v3 v7 → RG σ → Shp dm ra jx rm σ → JJ p l e R s m args below meth c 12 D cA A n0 s0 QM σ 237 [(0, .ref rm), (1, .int (i32 v1)), (2, .int (i32 v2)), (3, .long v3), (7, .int (i32 v7))] []) : ∀ (σ : Sg) (v1 : Int) (v2 : Int) (v3 : Int64) (v7 : Int) (v8 : Int) (g1 : rng v1) (g2 : rng v2) (g7 : rng v7) (g8 : rng v8), w_X16_growLook_275 ra jx rm K237 Q X σ v1 v2 v3 v7 v8 → RG σ → Shp dm ra jx rm σ → JJ p l e R s m args below meth c 12 D cA A n0 s0 QM σ 275 [(0, .ref rm), (1, .int (i32 v1)), (2, .int (i32 v2)), (3, .long v3), (7, .int (i32 v7)), (8, .int (i32 v8))] [] := by
  intro σ v1 v2 v3 v7 v8 g1 g2 g7 g8 h hGσ hS H locs ls hH hl hc
  have B := K.1
  unfold w_X16_growLook_275 at h
  refine lv_aload_n B.1 B.2.1 dX16_growLook_275 rfl (lv_at hl 0 rfl) ?_
  refine lv_iload_n B.1 B.2.1 dX16_growLook_276 rfl (lv_at hl 1 rfl) ?_
  refine lv_iload_n B.1 B.2.1 dX16_growLook_277 rfl (lv_at hl 2 rfl) ?_
  refine lv_aload_n B.1 B.2.1 dX16_growLook_278 rfl (lv_at hl 0 rfl) ?_
  refine r_arr B hH hS 70 (kd := 101) (n := 4000) (by decide) (by decide) wf_X16_519 rfl rfl dX16_growLook_279 ?_
  refine lv_iload B.1 B.2.1 dX16_growLook_282 (lv_at hl 4 rfl) ?_
  obtain ⟨q1, h⟩ := h
  refine x_lald B K.2.1 hH (hS.ar (k := 70) (kd := 101) (n := 4000) (by decide)) (by decide) q1 dX16_growLook_284 ?_
  refine lv_lload_n B.1 B.2.1 dX16_growLook_285 rfl (lv_at hl 3 rfl) ?_
  refine c_V B hH hl hc K.2.2.1 (C := RX16) (T := TX16) (N := 123) (ci := 16) (As := [.int (i32 v1), .int (i32 v2), .long (gJ σ (ra 70) v7.toNat), .long v3]) (ok_X16_greatestOf K.2.1 σ v1 v2 (gJ σ (ra 70) v7.toNat) v3 g1 g2 hGσ hS h) wc_X16_640 4 hd_X16_greatestOf ⟨Nat.le_trans (Nat.le_of_ble_eq_true rfl) K.2.2.2.1, Nat.le_trans (Nat.le_of_ble_eq_true rfl) K.2.2.2.2.1⟩ hS.1.1 hS.1.2 (by decide) rfl rfl (rest := []) rfl (Nat.le_of_ble_eq_true rfl) dX16_growLook_286 (fun σ42 w hq => ?_) (fun σ9 E9 hx9 => hX σ9 E9 _ _ _ (tb_out K.2.2.2.2.2 rfl) hx9.1 hx9.2.1 hx9.2.2)
  obtain ⟨r43, rfl, gr43, h, hGσ42, hS⟩ := hq
  intro H locs ls hH hl hc
  refine W.eq (g2 := F0 m 289 ls [.int (i32 r43)]) (rfl) ?_
  try dsimp only at h
  refine lv_iload B.1 B.2.1 dX16_growLook_289 (lv_at hl 4 rfl) ?_
  refine lv_icmp_eq (tgt := 300) B.1 B.2.1 dX16_growLook_291 (by decide) (fun h9 => ?_) (fun h9 => ?_)
  · rw [if_pos ((i32_eq gr43 g7).mp h9)] at h
    exact a_X16_growLook_300 K hQ hX hK237 _ _ _ _ _ g1 g2 g8 h hGσ42 hS _ _ _ hH (lv_sub (l' := [(0, .ref rm), (1, .int (i32 v1)), (2, .int (i32 v2)), (3, .long v3), (8, .int (i32 v8))]) hl [0, 1, 2, 3, 5] rfl) hc
  · rw [if_neg (fun q => h9 ((i32_eq gr43 g7).mpr q))] at h
    exact a_X16_growLook_294 K hQ hX hK237 _ _ _ _ _ _ g1 g2 g7 g8 h hGσ42 hS _ _ _ hH (lv_sub (l' := [(0, .ref rm), (1, .int (i32 v1)), (2, .int (i32 v2)), (3, .long v3), (7, .int (i32 v7)), (8, .int (i32 v8))]) hl [0, 1, 2, 3, 4, 5] rfl) hc
set_option maxRecDepth 20000 in
theorem a_X16_growLook_263 {Q : Sg → Unit → Prop} {X : Sg → String → Prop} (K : MC R p s m args c cX16_growLook 12 RX16 D cA tys A n0 s0 3 81 []) (hQ : HQV p l e R s m args below meth c cX16_growLook D cA A n0 s0 QM dm ra jx rm Q) (hX : HX p l e R s m args below meth c 12 D cA A n0 s0 QM dm ra jx rm X) {K237 : Sg → Int → Int → Int64 → Int → Prop} (hK237 : ∀ (σ : Sg) (v1 : Int) (v2 : Int) (v3 : Int64) (v7 : Int) (g1 : rng v1) (g2 : rng v2) (g7 : rng v7), K237 σ v1 v2 v3 v7 → RG σ → Shp dm ra jx rm σ → JJ p l e R s m args below meth c 12 D cA A n0 s0 QM σ 237 [(0, .ref rm), (1, .int (i32 v1)), (2, .int (i32 v2)), (3, .long v3), (7, .int (i32 v7))] []) : ∀ (σ : Sg) (v1 : Int) (v2 : Int) (v3 : Int64) (v7 : Int) (v8 : Int) (g1 : rng v1) (g2 : rng v2) (g7 : rng v7) (g8 : rng v8), w_X16_growLook_263 ra jx rm K237 Q X σ v1 v2 v3 v7 v8 → RG σ → Shp dm ra jx rm σ → JJ p l e R s m args below meth c 12 D cA A n0 s0 QM σ 263 [(0, .ref rm), (1, .int (i32 v1)), (2, .int (i32 v2)), (3, .long v3), (7, .int (i32 v7)), (8, .int (i32 v8))] [] := by
  intro σ v1 v2 v3 v7 v8 g1 g2 g7 g8 h hGσ hS H locs ls hH hl hc
  have B := K.1
  unfold w_X16_growLook_263 at h
  refine lv_aload_n B.1 B.2.1 dX16_growLook_263 rfl (lv_at hl 0 rfl) ?_
  refine r_arr B hH hS 71 (kd := 101) (n := 4000) (by decide) (by decide) wf_X16_522 rfl rfl dX16_growLook_264 ?_
  refine lv_iload B.1 B.2.1 dX16_growLook_267 (lv_at hl 4 rfl) ?_
  obtain ⟨q1, h⟩ := h
  refine x_lald B K.2.1 hH (hS.ar (k := 71) (kd := 101) (n := 4000) (by decide)) (by decide) q1 dX16_growLook_269 ?_
  refine lv_lload_n B.1 B.2.1 dX16_growLook_270 rfl (lv_at hl 3 rfl) ?_
  refine W.lcmp B.1 B.2.1 dX16_growLook_271 ?_
  refine lv_if_gt (tgt := 300) B.1 B.2.1 dX16_growLook_272 (by decide) (fun h9 => ?_) (fun h9 => ?_)
  · rw [if_pos ((lg_cmp_gt _ _).mp h9)] at h
    exact a_X16_growLook_300 K hQ hX hK237 _ _ _ _ _ g1 g2 g8 h hGσ hS _ _ _ hH (lv_sub (l' := [(0, .ref rm), (1, .int (i32 v1)), (2, .int (i32 v2)), (3, .long v3), (8, .int (i32 v8))]) hl [0, 1, 2, 3, 5] rfl) hc
  · rw [if_neg (fun q => h9 ((lg_cmp_gt _ _).mpr q))] at h
    exact a_X16_growLook_275 K hQ hX hK237 _ _ _ _ _ _ g1 g2 g7 g8 h hGσ hS _ _ _ hH (lv_sub (l' := [(0, .ref rm), (1, .int (i32 v1)), (2, .int (i32 v2)), (3, .long v3), (7, .int (i32 v7)), (8, .int (i32 v8))]) hl [0, 1, 2, 3, 4, 5] rfl) hc
set_option maxRecDepth 20000 in
theorem a_X16_growLook_243 {Q : Sg → Unit → Prop} {X : Sg → String → Prop} (K : MC R p s m args c cX16_growLook 12 RX16 D cA tys A n0 s0 3 81 []) (hQ : HQV p l e R s m args below meth c cX16_growLook D cA A n0 s0 QM dm ra jx rm Q) (hX : HX p l e R s m args below meth c 12 D cA A n0 s0 QM dm ra jx rm X) {K237 : Sg → Int → Int → Int64 → Int → Prop} (hK237 : ∀ (σ : Sg) (v1 : Int) (v2 : Int) (v3 : Int64) (v7 : Int) (g1 : rng v1) (g2 : rng v2) (g7 : rng v7), K237 σ v1 v2 v3 v7 → RG σ → Shp dm ra jx rm σ → JJ p l e R s m args below meth c 12 D cA A n0 s0 QM σ 237 [(0, .ref rm), (1, .int (i32 v1)), (2, .int (i32 v2)), (3, .long v3), (7, .int (i32 v7))] []) : ∀ (σ : Sg) (v1 : Int) (v2 : Int) (v3 : Int64) (v7 : Int) (g1 : rng v1) (g2 : rng v2) (g7 : rng v7), w_X16_growLook_243 ra jx rm K237 Q X σ v1 v2 v3 v7 → RG σ → Shp dm ra jx rm σ → JJ p l e R s m args below meth c 12 D cA A n0 s0 QM σ 243 [(0, .ref rm), (1, .int (i32 v1)), (2, .int (i32 v2)), (3, .long v3), (7, .int (i32 v7))] [] := by
  intro σ v1 v2 v3 v7 g1 g2 g7 h hGσ hS H locs ls hH hl hc
  have B := K.1
  unfold w_X16_growLook_243 at h
  refine lv_aload_n B.1 B.2.1 dX16_growLook_243 rfl (lv_at hl 0 rfl) ?_
  refine r_arr B hH hS 75 (kd := 100) (n := 4000) (by decide) (by decide) wf_X16_495 rfl rfl dX16_growLook_244 ?_
  refine lv_iload B.1 B.2.1 dX16_growLook_247 (lv_at hl 4 rfl) ?_
  obtain ⟨q1, h⟩ := h
  refine x_iald B K.2.1 hH (hS.ar (k := 75) (kd := 100) (n := 4000) (by decide)) (by decide) q1 dX16_growLook_249 ?_
  refine lv_istore (lv' := [(8, .int (i32 (gI σ (ra 75) v7.toNat))), (0, .ref rm), (1, .int (i32 v1)), (2, .int (i32 v2)), (3, .long v3), (7, .int (i32 v7))]) B.1 B.2.1 dX16_growLook_250 hl (by decide) rfl (fun ls hl => ?_)
  refine lv_aload_n B.1 B.2.1 dX16_growLook_252 rfl (lv_at hl 1 rfl) ?_
  refine r_arr B hH hS 68 (kd := 100) (n := 4000) (by decide) (by decide) wf_X16_513 rfl rfl dX16_growLook_253 ?_
  refine lv_iload B.1 B.2.1 dX16_growLook_256 (lv_at hl 5 rfl) ?_
  obtain ⟨q2, h⟩ := h
  refine x_iald B K.2.1 hH (hS.ar (k := 68) (kd := 100) (n := 4000) (by decide)) (by decide) q2 dX16_growLook_258 ?_
  refine lv_iconst (v := i32 1) B.1 B.2.1 dX16_growLook_259 (by decide) ?_
  refine lv_icmp_ne (tgt := 300) B.1 B.2.1 dX16_growLook_260 (by decide) (fun h9 => ?_) (fun h9 => ?_)
  · rw [if_pos (fun q => h9 ((i32_eq (hGσ _ _) (by unfold rng; omega)).mpr q))] at h
    exact a_X16_growLook_300 K hQ hX hK237 _ _ _ _ _ g1 g2 (hGσ _ _) h hGσ hS _ _ _ hH (lv_sub (l' := [(0, .ref rm), (1, .int (i32 v1)), (2, .int (i32 v2)), (3, .long v3), (8, .int (i32 (gI σ (ra 75) v7.toNat)))]) hl [1, 2, 3, 4, 0] rfl) hc
  · rw [if_neg (fun q => q ((i32_eq (hGσ _ _) (by unfold rng; omega)).mp h9))] at h
    exact a_X16_growLook_263 K hQ hX hK237 _ _ _ _ _ _ g1 g2 g7 (hGσ _ _) h hGσ hS _ _ _ hH (lv_sub (l' := [(0, .ref rm), (1, .int (i32 v1)), (2, .int (i32 v2)), (3, .long v3), (7, .int (i32 v7)), (8, .int (i32 (gI σ (ra 75) v7.toNat)))]) hl [1, 2, 3, 4, 5, 0] rfl) hc
set_option maxRecDepth 20000 in
theorem a_X16_growLook_237 {Q : Sg → Unit → Prop} {X : Sg → String → Prop} (K : MC R p s m args c cX16_growLook 12 RX16 D cA tys A n0 s0 3 81 []) (hQ : HQV p l e R s m args below meth c cX16_growLook D cA A n0 s0 QM dm ra jx rm Q) (hX : HX p l e R s m args below meth c 12 D cA A n0 s0 QM dm ra jx rm X) {K237 : Sg → Int → Int → Int64 → Int → Prop} (hK237 : ∀ (σ : Sg) (v1 : Int) (v2 : Int) (v3 : Int64) (v7 : Int) (g1 : rng v1) (g2 : rng v2) (g7 : rng v7), K237 σ v1 v2 v3 v7 → RG σ → Shp dm ra jx rm σ → JJ p l e R s m args below meth c 12 D cA A n0 s0 QM σ 237 [(0, .ref rm), (1, .int (i32 v1)), (2, .int (i32 v2)), (3, .long v3), (7, .int (i32 v7))] []) : ∀ (σ : Sg) (v1 : Int) (v2 : Int) (v3 : Int64) (v7 : Int) (g1 : rng v1) (g2 : rng v2) (g7 : rng v7), w_X16_growLook_237 ra jx rm K237 Q X σ v1 v2 v3 v7 → RG σ → Shp dm ra jx rm σ → JJ p l e R s m args below meth c 12 D cA A n0 s0 QM σ 237 [(0, .ref rm), (1, .int (i32 v1)), (2, .int (i32 v2)), (3, .long v3), (7, .int (i32 v7))] [] := by
  intro σ v1 v2 v3 v7 g1 g2 g7 h hGσ hS H locs ls hH hl hc
  have B := K.1
  unfold w_X16_growLook_237 at h
  refine lv_iload B.1 B.2.1 dX16_growLook_237 (lv_at hl 4 rfl) ?_
  refine lv_iconst (v := i32 (-1)) B.1 B.2.1 dX16_growLook_239 (by decide) ?_
  refine lv_icmp_eq (tgt := 307) B.1 B.2.1 dX16_growLook_240 (by decide) (fun h9 => ?_) (fun h9 => ?_)
  · rw [if_pos ((i32_eq g7 (by unfold rng; omega)).mp h9)] at h
    exact a_X16_growLook_307 K hQ hX _ h hGσ hS _ _ _ hH (lv_sub (l' := [(0, .ref rm)]) hl [0] rfl) hc
  · rw [if_neg (fun q => h9 ((i32_eq g7 (by unfold rng; omega)).mpr q))] at h
    exact a_X16_growLook_243 K hQ hX hK237 _ _ _ _ _ g1 g2 g7 h hGσ hS _ _ _ hH (lv_sub (l' := [(0, .ref rm), (1, .int (i32 v1)), (2, .int (i32 v2)), (3, .long v3), (7, .int (i32 v7))]) hl [0, 1, 2, 3, 4] rfl) hc
theorem al_X16_growLook_237 {Q : Sg → Unit → Prop} {X : Sg → String → Prop} (K : MC R p s m args c cX16_growLook 12 RX16 D cA tys A n0 s0 3 81 []) (hQ : HQV p l e R s m args below meth c cX16_growLook D cA A n0 s0 QM dm ra jx rm Q) (hX : HX p l e R s m args below meth c 12 D cA A n0 s0 QM dm ra jx rm X) : ∀ (n : Nat), ∀ (σ : Sg) (v1 : Int) (v2 : Int) (v3 : Int64) (v7 : Int) (g1 : rng v1) (g2 : rng v2) (g7 : rng v7), wl_X16_growLook_237 ra jx rm Q X n σ v1 v2 v3 v7 → RG σ → Shp dm ra jx rm σ → JJ p l e R s m args below meth c 12 D cA A n0 s0 QM σ 237 [(0, .ref rm), (1, .int (i32 v1)), (2, .int (i32 v2)), (3, .long v3), (7, .int (i32 v7))] [] := by
  intro n
  induction n with
  | zero => intro σ v1 v2 v3 v7 g1 g2 g7 h; exact h.elim
  | succ n ih => exact fun σ v1 v2 v3 v7 g1 g2 g7 h => a_X16_growLook_237 K hQ hX ih σ v1 v2 v3 v7 g1 g2 g7 h
set_option maxRecDepth 20000 in
theorem a_X16_growLook_229 {Q : Sg → Unit → Prop} {X : Sg → String → Prop} (K : MC R p s m args c cX16_growLook 12 RX16 D cA tys A n0 s0 3 81 []) (hQ : HQV p l e R s m args below meth c cX16_growLook D cA A n0 s0 QM dm ra jx rm Q) (hX : HX p l e R s m args below meth c 12 D cA A n0 s0 QM dm ra jx rm X) : ∀ (σ : Sg) (v1 : Int) (v2 : Int) (v3 : Int64) (g1 : rng v1) (g2 : rng v2), w_X16_growLook_229 ra jx rm Q X σ v1 v2 v3 → RG σ → Shp dm ra jx rm σ → JJ p l e R s m args below meth c 12 D cA A n0 s0 QM σ 229 [(0, .ref rm), (1, .int (i32 v1)), (2, .int (i32 v2)), (3, .long v3)] [] := by
  intro σ v1 v2 v3 g1 g2 h hGσ hS H locs ls hH hl hc
  have B := K.1
  unfold w_X16_growLook_229 at h
  refine lv_aload_n B.1 B.2.1 dX16_growLook_229 rfl (lv_at hl 0 rfl) ?_
  refine r_arr B hH hS 76 (kd := 100) (n := 64) (by decide) (by decide) wf_X16_504 rfl rfl dX16_growLook_230 ?_
  refine lv_iload_n B.1 B.2.1 dX16_growLook_233 rfl (lv_at hl 1 rfl) ?_
  obtain ⟨q1, h⟩ := h
  refine x_iald B K.2.1 hH (hS.ar (k := 76) (kd := 100) (n := 64) (by decide)) (by decide) q1 dX16_growLook_234 ?_
  refine lv_istore (lv' := [(7, .int (i32 (gI σ (ra 76) v1.toNat))), (0, .ref rm), (1, .int (i32 v1)), (2, .int (i32 v2)), (3, .long v3)]) B.1 B.2.1 dX16_growLook_235 hl (by decide) rfl (fun ls hl => ?_)
  obtain ⟨n9, h⟩ := h
  exact al_X16_growLook_237 K hQ hX n9 _ _ _ _ _ g1 g2 (hGσ _ _) h hGσ hS _ _ _ hH (lv_sub (l' := [(0, .ref rm), (1, .int (i32 v1)), (2, .int (i32 v2)), (3, .long v3), (7, .int (i32 (gI σ (ra 76) v1.toNat)))]) hl [1, 2, 3, 4, 0] rfl) hc
set_option maxRecDepth 20000 in
theorem a_X16_growLook_216 {Q : Sg → Unit → Prop} {X : Sg → String → Prop} (K : MC R p s m args c cX16_growLook 12 RX16 D cA tys A n0 s0 3 81 []) (hQ : HQV p l e R s m args below meth c cX16_growLook D cA A n0 s0 QM dm ra jx rm Q) (hX : HX p l e R s m args below meth c 12 D cA A n0 s0 QM dm ra jx rm X) {K48 : Sg → Int → Int → Int64 → Int → Int → Int → Prop} (hK48 : ∀ (σ : Sg) (v1 : Int) (v2 : Int) (v3 : Int64) (v5 : Int) (v6 : Int) (v7 : Int) (g1 : rng v1) (g2 : rng v2) (g5 : rng v5) (g6 : rng v6) (g7 : rng v7), K48 σ v1 v2 v3 v5 v6 v7 → RG σ → Shp dm ra jx rm σ → JJ p l e R s m args below meth c 12 D cA A n0 s0 QM σ 48 [(0, .ref rm), (1, .int (i32 v1)), (2, .int (i32 v2)), (3, .long v3), (5, .int (i32 v5)), (6, .int (i32 v6)), (7, .int (i32 v7))] []) : ∀ (σ : Sg) (v1 : Int) (v2 : Int) (v3 : Int64) (v5 : Int) (v6 : Int) (g1 : rng v1) (g2 : rng v2) (g5 : rng v5) (g6 : rng v6), w_X16_growLook_216 ra jx rm K48 Q X σ v1 v2 v3 v5 v6 → RG σ → Shp dm ra jx rm σ → JJ p l e R s m args below meth c 12 D cA A n0 s0 QM σ 216 [(0, .ref rm), (1, .int (i32 v1)), (2, .int (i32 v2)), (3, .long v3), (5, .int (i32 v5)), (6, .int (i32 v6))] [] := by
  intro σ v1 v2 v3 v5 v6 g1 g2 g5 g6 h hGσ hS H locs ls hH hl hc
  have B := K.1
  unfold w_X16_growLook_216 at h
  refine lv_aload_n B.1 B.2.1 dX16_growLook_216 rfl (lv_at hl 0 rfl) ?_
  refine lv_iload_n B.1 B.2.1 dX16_growLook_217 rfl (lv_at hl 1 rfl) ?_
  refine lv_iload B.1 B.2.1 dX16_growLook_218 (lv_at hl 4 rfl) ?_
  refine lv_lload_n B.1 B.2.1 dX16_growLook_220 rfl (lv_at hl 3 rfl) ?_
  refine c_V B hH hl hc K.2.2.1 (C := RX16) (T := TX16) (N := 123) (ci := 16) (As := [.int (i32 v1), .int (i32 v5), .long v3]) (ok_X16_leastWaiting K.2.1 σ v1 v5 v3 g1 g5 hGσ hS h) wc_X16_636 3 hd_X16_leastWaiting ⟨Nat.le_trans (Nat.le_of_ble_eq_true rfl) K.2.2.2.1, Nat.le_trans (Nat.le_of_ble_eq_true rfl) K.2.2.2.2.1⟩ hS.1.1 hS.1.2 (by decide) rfl rfl (rest := []) rfl (Nat.le_of_ble_eq_true rfl) dX16_growLook_221 (fun σ44 w hq => ?_) (fun σ9 E9 hx9 => hX σ9 E9 _ _ _ (tb_out K.2.2.2.2.2 rfl) hx9.1 hx9.2.1 hx9.2.2)
  obtain ⟨r45, rfl, gr45, h, hGσ44, hS⟩ := hq
  intro H locs ls hH hl hc
  refine W.eq (g2 := F0 m 224 ls [.int (i32 r45)]) (rfl) ?_
  try dsimp only at h
  refine lv_istore (lv' := [(7, .int (i32 r45)), (0, .ref rm), (1, .int (i32 v1)), (2, .int (i32 v2)), (3, .long v3), (5, .int (i32 v5)), (6, .int (i32 v6))]) B.1 B.2.1 dX16_growLook_224 hl (by decide) rfl (fun ls hl => ?_)
  refine lv_goto (tgt := 48) B.1 B.2.1 dX16_growLook_226 (by decide) ?_
  exact hK48 _ _ _ _ _ _ _ g1 g2 g5 g6 gr45 h hGσ44 hS _ _ _ hH (lv_sub (l' := [(0, .ref rm), (1, .int (i32 v1)), (2, .int (i32 v2)), (3, .long v3), (5, .int (i32 v5)), (6, .int (i32 v6)), (7, .int (i32 r45))]) hl [1, 2, 3, 4, 5, 6, 0] rfl) hc
set_option maxRecDepth 20000 in
theorem a_X16_growLook_210 {Q : Sg → Unit → Prop} {X : Sg → String → Prop} (K : MC R p s m args c cX16_growLook 12 RX16 D cA tys A n0 s0 3 81 []) (hQ : HQV p l e R s m args below meth c cX16_growLook D cA A n0 s0 QM dm ra jx rm Q) (hX : HX p l e R s m args below meth c 12 D cA A n0 s0 QM dm ra jx rm X) {K48 : Sg → Int → Int → Int64 → Int → Int → Int → Prop} (hK48 : ∀ (σ : Sg) (v1 : Int) (v2 : Int) (v3 : Int64) (v5 : Int) (v6 : Int) (v7 : Int) (g1 : rng v1) (g2 : rng v2) (g5 : rng v5) (g6 : rng v6) (g7 : rng v7), K48 σ v1 v2 v3 v5 v6 v7 → RG σ → Shp dm ra jx rm σ → JJ p l e R s m args below meth c 12 D cA A n0 s0 QM σ 48 [(0, .ref rm), (1, .int (i32 v1)), (2, .int (i32 v2)), (3, .long v3), (5, .int (i32 v5)), (6, .int (i32 v6)), (7, .int (i32 v7))] []) : ∀ (σ : Sg) (v1 : Int) (v2 : Int) (v3 : Int64) (v5 : Int) (v6 : Int) (v7 : Int) (g1 : rng v1) (g2 : rng v2) (g5 : rng v5) (g6 : rng v6) (g7 : rng v7), w_X16_growLook_210 ra jx rm K48 Q X σ v1 v2 v3 v5 v6 v7 → RG σ → Shp dm ra jx rm σ → JJ p l e R s m args below meth c 12 D cA A n0 s0 QM σ 210 [(0, .ref rm), (1, .int (i32 v1)), (2, .int (i32 v2)), (3, .long v3), (5, .int (i32 v5)), (6, .int (i32 v6)), (7, .int (i32 v7))] [] := by
  intro σ v1 v2 v3 v5 v6 v7 g1 g2 g5 g6 g7 h hGσ hS H locs ls hH hl hc
  have B := K.1
  unfold w_X16_growLook_210 at h
  refine lv_aload_n B.1 B.2.1 dX16_growLook_210 rfl (lv_at hl 0 rfl) ?_
  refine lv_iload B.1 B.2.1 dX16_growLook_211 (lv_at hl 6 rfl) ?_
  refine c_V B hH hl hc K.2.2.1 (C := RX16) (T := TX16) (N := 123) (ci := 16) (As := [.int (i32 v7)]) (ok_X16_drop K.2.1 σ v7 g7 hGσ hS h) wc_X16_607 1 hd_X16_drop ⟨Nat.le_trans (Nat.le_of_ble_eq_true rfl) K.2.2.2.1, Nat.le_trans (Nat.le_of_ble_eq_true rfl) K.2.2.2.2.1⟩ hS.1.1 hS.1.2 (by decide) rfl rfl (rest := []) rfl (Nat.le_of_ble_eq_true rfl) dX16_growLook_213 (fun σ46 w hq => ?_) (fun σ9 E9 hx9 => hX σ9 E9 _ _ _ (tb_out K.2.2.2.2.2 rfl) hx9.1 hx9.2.1 hx9.2.2)
  obtain ⟨rfl, h, hGσ46, hS⟩ := hq
  intro H locs ls hH hl hc
  refine W.eq (g2 := F0 m 216 ls []) (rfl) ?_
  try dsimp only at h
  exact a_X16_growLook_216 K hQ hX hK48 _ _ _ _ _ _ g1 g2 g5 g6 h hGσ46 hS _ _ _ hH (lv_sub (l' := [(0, .ref rm), (1, .int (i32 v1)), (2, .int (i32 v2)), (3, .long v3), (5, .int (i32 v5)), (6, .int (i32 v6))]) hl [0, 1, 2, 3, 4, 5] rfl) hc
set_option maxRecDepth 20000 in
theorem a_X16_growLook_158 {Q : Sg → Unit → Prop} {X : Sg → String → Prop} (K : MC R p s m args c cX16_growLook 12 RX16 D cA tys A n0 s0 3 81 []) (hQ : HQV p l e R s m args below meth c cX16_growLook D cA A n0 s0 QM dm ra jx rm Q) (hX : HX p l e R s m args below meth c 12 D cA A n0 s0 QM dm ra jx rm X) {K48 : Sg → Int → Int → Int64 → Int → Int → Int → Prop} (hK48 : ∀ (σ : Sg) (v1 : Int) (v2 : Int) (v3 : Int64) (v5 : Int) (v6 : Int) (v7 : Int) (g1 : rng v1) (g2 : rng v2) (g5 : rng v5) (g6 : rng v6) (g7 : rng v7), K48 σ v1 v2 v3 v5 v6 v7 → RG σ → Shp dm ra jx rm σ → JJ p l e R s m args below meth c 12 D cA A n0 s0 QM σ 48 [(0, .ref rm), (1, .int (i32 v1)), (2, .int (i32 v2)), (3, .long v3), (5, .int (i32 v5)), (6, .int (i32 v6)), (7, .int (i32 v7))] []) : ∀ (σ : Sg) (v1 : Int) (v2 : Int) (v3 : Int64) (v5 : Int) (v6 : Int) (v7 : Int) (v8 : Int) (g1 : rng v1) (g2 : rng v2) (g5 : rng v5) (g6 : rng v6) (g7 : rng v7) (g8 : rng v8), w_X16_growLook_158 ra jx rm K48 Q X σ v1 v2 v3 v5 v6 v7 v8 → RG σ → Shp dm ra jx rm σ → JJ p l e R s m args below meth c 12 D cA A n0 s0 QM σ 158 [(0, .ref rm), (1, .int (i32 v1)), (2, .int (i32 v2)), (3, .long v3), (5, .int (i32 v5)), (6, .int (i32 v6)), (7, .int (i32 v7)), (8, .int (i32 v8))] [] := by
  intro σ v1 v2 v3 v5 v6 v7 v8 g1 g2 g5 g6 g7 g8 h hGσ hS H locs ls hH hl hc
  have B := K.1
  unfold w_X16_growLook_158 at h
  refine lv_aload_n B.1 B.2.1 dX16_growLook_158 rfl (lv_at hl 0 rfl) ?_
  refine r_arr B hH hS 71 (kd := 101) (n := 4000) (by decide) (by decide) wf_X16_522 rfl rfl dX16_growLook_159 ?_
  refine lv_iload B.1 B.2.1 dX16_growLook_162 (lv_at hl 6 rfl) ?_
  obtain ⟨q1, h⟩ := h
  refine x_lald B K.2.1 hH (hS.ar (k := 71) (kd := 101) (n := 4000) (by decide)) (by decide) q1 dX16_growLook_164 ?_
  refine lv_lstore (lv' := [(9, .long (gJ σ (ra 71) v7.toNat)), (0, .ref rm), (1, .int (i32 v1)), (2, .int (i32 v2)), (3, .long v3), (5, .int (i32 v5)), (6, .int (i32 v6)), (7, .int (i32 v7)), (8, .int (i32 v8))]) B.1 B.2.1 dX16_growLook_165 hl (by decide) rfl (fun ls hl => ?_)
  refine lv_aload_n B.1 B.2.1 dX16_growLook_167 rfl (lv_at hl 1 rfl) ?_
  refine lv_aload_n B.1 B.2.1 dX16_growLook_168 rfl (lv_at hl 1 rfl) ?_
  refine r_arr B hH hS 74 (kd := 100) (n := 4000) (by decide) (by decide) wf_X16_531 rfl rfl dX16_growLook_169 ?_
  refine lv_iload B.1 B.2.1 dX16_growLook_172 (lv_at hl 7 rfl) ?_
  obtain ⟨q2, h⟩ := h
  refine x_iald B K.2.1 hH (hS.ar (k := 74) (kd := 100) (n := 4000) (by decide)) (by decide) q2 dX16_growLook_174 ?_
  refine lv_aload_n B.1 B.2.1 dX16_growLook_175 rfl (lv_at hl 1 rfl) ?_
  refine r_arr B hH hS 74 (kd := 100) (n := 4000) (by decide) (by decide) wf_X16_531 rfl rfl dX16_growLook_176 ?_
  refine lv_iload B.1 B.2.1 dX16_growLook_179 (lv_at hl 8 rfl) ?_
  obtain ⟨q3, h⟩ := h
  refine x_iald B K.2.1 hH (hS.ar (k := 74) (kd := 100) (n := 4000) (by decide)) (by decide) q3 dX16_growLook_181 ?_
  refine c_V B hH hl hc K.2.2.1 (C := RX16) (T := TX16) (N := 123) (ci := 16) (As := [.int (i32 (gI σ (ra 74) v7.toNat)), .int (i32 (gI σ (ra 74) v8.toNat))]) (ok_X16_joined K.2.1 σ (gI σ (ra 74) v7.toNat) (gI σ (ra 74) v8.toNat) (hGσ _ _) (hGσ _ _) hGσ hS h) wc_X16_603 2 hd_X16_joined ⟨Nat.le_trans (Nat.le_of_ble_eq_true rfl) K.2.2.2.1, Nat.le_trans (Nat.le_of_ble_eq_true rfl) K.2.2.2.2.1⟩ hS.1.1 hS.1.2 (by decide) rfl rfl (rest := []) rfl (Nat.le_of_ble_eq_true rfl) dX16_growLook_182 (fun σ47 w hq => ?_) (fun σ9 E9 hx9 => hX σ9 E9 _ _ _ (tb_out K.2.2.2.2.2 rfl) hx9.1 hx9.2.1 hx9.2.2)
  obtain ⟨r48, rfl, gr48, h, hGσ47, hS⟩ := hq
  intro H locs ls hH hl hc
  refine W.eq (g2 := F0 m 185 ls [.int (i32 r48)]) (rfl) ?_
  try dsimp only at h
  refine lv_istore (lv' := [(11, .int (i32 r48)), (9, .long (gJ σ (ra 71) v7.toNat)), (0, .ref rm), (1, .int (i32 v1)), (2, .int (i32 v2)), (3, .long v3), (5, .int (i32 v5)), (6, .int (i32 v6)), (7, .int (i32 v7)), (8, .int (i32 v8))]) B.1 B.2.1 dX16_growLook_185 hl (by decide) rfl (fun ls hl => ?_)
  refine lv_aload_n B.1 B.2.1 dX16_growLook_187 rfl (lv_at hl 2 rfl) ?_
  refine lv_iload B.1 B.2.1 dX16_growLook_188 (lv_at hl 8 rfl) ?_
  refine c_V B hH hl hc K.2.2.1 (C := RX16) (T := TX16) (N := 123) (ci := 16) (As := [.int (i32 v7)]) (ok_X16_drop K.2.1 σ47 v7 g7 hGσ47 hS h) wc_X16_607 1 hd_X16_drop ⟨Nat.le_trans (Nat.le_of_ble_eq_true rfl) K.2.2.2.1, Nat.le_trans (Nat.le_of_ble_eq_true rfl) K.2.2.2.2.1⟩ hS.1.1 hS.1.2 (by decide) rfl rfl (rest := []) rfl (Nat.le_of_ble_eq_true rfl) dX16_growLook_190 (fun σ49 w hq => ?_) (fun σ9 E9 hx9 => hX σ9 E9 _ _ _ (tb_out K.2.2.2.2.2 rfl) hx9.1 hx9.2.1 hx9.2.2)
  obtain ⟨rfl, h, hGσ49, hS⟩ := hq
  intro H locs ls hH hl hc
  refine W.eq (g2 := F0 m 193 ls []) (rfl) ?_
  try dsimp only at h
  refine lv_aload_n B.1 B.2.1 dX16_growLook_193 rfl (lv_at hl 2 rfl) ?_
  refine lv_iload_n B.1 B.2.1 dX16_growLook_194 rfl (lv_at hl 3 rfl) ?_
  refine lv_lload B.1 B.2.1 dX16_growLook_195 (lv_at hl 1 rfl) ?_
  refine lv_aload_n B.1 B.2.1 dX16_growLook_197 rfl (lv_at hl 2 rfl) ?_
  refine r_arr B hH hS 82 (kd := 101) (n := 16) (by decide) (by decide) wf_X16_578 rfl rfl dX16_growLook_198 ?_
  refine lv_iconst (v := i32 0) B.1 B.2.1 dX16_growLook_201 (by decide) ?_
  refine lv_iload B.1 B.2.1 dX16_growLook_202 (lv_at hl 0 rfl) ?_
  refine c_V B hH hl hc K.2.2.1 (C := RX16) (T := TX16) (N := 123) (ci := 16) (As := [.int (i32 v1), .long (gJ σ (ra 71) v7.toNat), va_rf (some (ra 82)), .int (i32 0), .int (i32 r48)]) (ok_X16_emit K.2.1 σ49 v1 (gJ σ (ra 71) v7.toNat) (some (ra 82)) 0 r48 g1 (by unfold rng; omega) gr48 hGσ49 hS h) wc_X16_549 5 hd_X16_emit ⟨Nat.le_trans (Nat.le_of_ble_eq_true rfl) K.2.2.2.1, Nat.le_trans (Nat.le_of_ble_eq_true rfl) K.2.2.2.2.1⟩ hS.1.1 hS.1.2 (by decide) rfl rfl (rest := []) rfl (Nat.le_of_ble_eq_true rfl) dX16_growLook_204 (fun σ50 w hq => ?_) (fun σ9 E9 hx9 => hX σ9 E9 _ _ _ (tb_out K.2.2.2.2.2 rfl) hx9.1 hx9.2.1 hx9.2.2)
  obtain ⟨rfl, h, hGσ50, hS⟩ := hq
  intro H locs ls hH hl hc
  refine W.eq (g2 := F0 m 207 ls []) (rfl) ?_
  try dsimp only at h
  refine lv_goto (tgt := 216) B.1 B.2.1 dX16_growLook_207 (by decide) ?_
  exact a_X16_growLook_216 K hQ hX hK48 _ _ _ _ _ _ g1 g2 g5 g6 h hGσ50 hS _ _ _ hH (lv_sub (l' := [(0, .ref rm), (1, .int (i32 v1)), (2, .int (i32 v2)), (3, .long v3), (5, .int (i32 v5)), (6, .int (i32 v6))]) hl [2, 3, 4, 5, 6, 7] rfl) hc
set_option maxRecDepth 20000 in
theorem a_X16_growLook_151 {Q : Sg → Unit → Prop} {X : Sg → String → Prop} (K : MC R p s m args c cX16_growLook 12 RX16 D cA tys A n0 s0 3 81 []) (hQ : HQV p l e R s m args below meth c cX16_growLook D cA A n0 s0 QM dm ra jx rm Q) (hX : HX p l e R s m args below meth c 12 D cA A n0 s0 QM dm ra jx rm X) {K48 : Sg → Int → Int → Int64 → Int → Int → Int → Prop} (hK48 : ∀ (σ : Sg) (v1 : Int) (v2 : Int) (v3 : Int64) (v5 : Int) (v6 : Int) (v7 : Int) (g1 : rng v1) (g2 : rng v2) (g5 : rng v5) (g6 : rng v6) (g7 : rng v7), K48 σ v1 v2 v3 v5 v6 v7 → RG σ → Shp dm ra jx rm σ → JJ p l e R s m args below meth c 12 D cA A n0 s0 QM σ 48 [(0, .ref rm), (1, .int (i32 v1)), (2, .int (i32 v2)), (3, .long v3), (5, .int (i32 v5)), (6, .int (i32 v6)), (7, .int (i32 v7))] []) {K85 : Sg → Int → Int → Int64 → Int → Int → Int → Int → Int → Prop} (hK85 : ∀ (σ : Sg) (v1 : Int) (v2 : Int) (v3 : Int64) (v5 : Int) (v6 : Int) (v7 : Int) (v8 : Int) (v9 : Int) (g1 : rng v1) (g2 : rng v2) (g5 : rng v5) (g6 : rng v6) (g7 : rng v7) (g8 : rng v8) (g9 : rng v9), K85 σ v1 v2 v3 v5 v6 v7 v8 v9 → RG σ → Shp dm ra jx rm σ → JJ p l e R s m args below meth c 12 D cA A n0 s0 QM σ 85 [(0, .ref rm), (1, .int (i32 v1)), (2, .int (i32 v2)), (3, .long v3), (5, .int (i32 v5)), (6, .int (i32 v6)), (7, .int (i32 v7)), (8, .int (i32 v8)), (9, .int (i32 v9))] []) : ∀ (σ : Sg) (v1 : Int) (v2 : Int) (v3 : Int64) (v5 : Int) (v6 : Int) (v7 : Int) (v8 : Int) (v9 : Int) (u0 : Int64) (u1 : Int) (g1 : rng v1) (g2 : rng v2) (g5 : rng v5) (g6 : rng v6) (g7 : rng v7) (g8 : rng v8) (g9 : rng v9) (gu1 : rng u1), w_X16_growLook_151 ra jx rm K48 K85 Q X σ v1 v2 v3 v5 v6 v7 v8 v9 u0 u1 → RG σ → Shp dm ra jx rm σ → JJ p l e R s m args below meth c 12 D cA A n0 s0 QM σ 151 [(0, .ref rm), (1, .int (i32 v1)), (2, .int (i32 v2)), (3, .long v3), (5, .int (i32 v5)), (6, .int (i32 v6)), (7, .int (i32 v7)), (8, .int (i32 v8)), (9, .int (i32 v9))] [.long u0, .int (i32 u1), .ref (ra 82)] := by
  intro σ v1 v2 v3 v5 v6 v7 v8 v9 u0 u1 g1 g2 g5 g6 g7 g8 g9 gu1 h hGσ hS H locs ls hH hl hc
  have B := K.1
  unfold w_X16_growLook_151 at h
  obtain ⟨q1, h⟩ := h
  obtain ⟨σ51, eσ51⟩ : ∃ z, z = pJ σ (ra 82) u1.toNat u0 := ⟨_, rfl⟩
  have h := h σ51 eσ51
  refine x_last B K.2.1 hH (hS.ar (k := 82) (kd := 101) (n := 16) (by decide)) (by decide) q1 dX16_growLook_151 (fun H locs hH => ?_)
  have hH : Hd D cA A s (pJ σ (ra 82) u1.toNat u0) H locs := hH
  rw [← eσ51] at hH
  have hGσ51 : RG σ51 := by rw [eσ51]; exact hGσ.pJ
  have hS : Shp dm ra jx rm σ51 := by rw [eσ51]; exact hS
  have hc : CB n0 s0 σ51 := by rw [eσ51]; exact hc
  rw [show gc σ = gc σ51 by rw [eσ51], show gs σ = gs σ51 by rw [eσ51]]
  obtain ⟨q3, h⟩ := h
  refine lv_iinc (k := 8) (v := i32 (v9 + 1)) (lv' := [(9, .int (i32 (v9 + 1))), (0, .ref rm), (1, .int (i32 v1)), (2, .int (i32 v2)), (3, .long v3), (5, .int (i32 v5)), (6, .int (i32 v6)), (7, .int (i32 v7)), (8, .int (i32 v8))]) B.1 B.2.1 dX16_growLook_152 hl rfl (i32_add _ _) (by decide) rfl (fun ls hl => ?_)
  refine lv_goto (tgt := 85) B.1 B.2.1 dX16_growLook_155 (by decide) ?_
  exact hK85 _ _ _ _ _ _ _ _ _ g1 g2 g5 g6 g7 g8 q3 h hGσ51 hS _ _ _ hH (lv_sub (l' := [(0, .ref rm), (1, .int (i32 v1)), (2, .int (i32 v2)), (3, .long v3), (5, .int (i32 v5)), (6, .int (i32 v6)), (7, .int (i32 v7)), (8, .int (i32 v8)), (9, .int (i32 (v9 + 1)))]) hl [1, 2, 3, 4, 5, 6, 7, 8, 0] rfl) hc
set_option maxRecDepth 20000 in
theorem a_X16_growLook_150 {Q : Sg → Unit → Prop} {X : Sg → String → Prop} (K : MC R p s m args c cX16_growLook 12 RX16 D cA tys A n0 s0 3 81 []) (hQ : HQV p l e R s m args below meth c cX16_growLook D cA A n0 s0 QM dm ra jx rm Q) (hX : HX p l e R s m args below meth c 12 D cA A n0 s0 QM dm ra jx rm X) {K48 : Sg → Int → Int → Int64 → Int → Int → Int → Prop} (hK48 : ∀ (σ : Sg) (v1 : Int) (v2 : Int) (v3 : Int64) (v5 : Int) (v6 : Int) (v7 : Int) (g1 : rng v1) (g2 : rng v2) (g5 : rng v5) (g6 : rng v6) (g7 : rng v7), K48 σ v1 v2 v3 v5 v6 v7 → RG σ → Shp dm ra jx rm σ → JJ p l e R s m args below meth c 12 D cA A n0 s0 QM σ 48 [(0, .ref rm), (1, .int (i32 v1)), (2, .int (i32 v2)), (3, .long v3), (5, .int (i32 v5)), (6, .int (i32 v6)), (7, .int (i32 v7))] []) {K85 : Sg → Int → Int → Int64 → Int → Int → Int → Int → Int → Prop} (hK85 : ∀ (σ : Sg) (v1 : Int) (v2 : Int) (v3 : Int64) (v5 : Int) (v6 : Int) (v7 : Int) (v8 : Int) (v9 : Int) (g1 : rng v1) (g2 : rng v2) (g5 : rng v5) (g6 : rng v6) (g7 : rng v7) (g8 : rng v8) (g9 : rng v9), K85 σ v1 v2 v3 v5 v6 v7 v8 v9 → RG σ → Shp dm ra jx rm σ → JJ p l e R s m args below meth c 12 D cA A n0 s0 QM σ 85 [(0, .ref rm), (1, .int (i32 v1)), (2, .int (i32 v2)), (3, .long v3), (5, .int (i32 v5)), (6, .int (i32 v6)), (7, .int (i32 v7)), (8, .int (i32 v8)), (9, .int (i32 v9))] []) : ∀ (σ : Sg) (v1 : Int) (v2 : Int) (v3 : Int64) (v5 : Int) (v6 : Int) (v7 : Int) (v8 : Int) (v9 : Int) (u0 : Int) (g1 : rng v1) (g2 : rng v2) (g5 : rng v5) (g6 : rng v6) (g7 : rng v7) (g8 : rng v8) (g9 : rng v9) (gu0 : rng u0), w_X16_growLook_150 ra jx rm K48 K85 Q X σ v1 v2 v3 v5 v6 v7 v8 v9 u0 → RG σ → Shp dm ra jx rm σ → JJ p l e R s m args below meth c 12 D cA A n0 s0 QM σ 150 [(0, .ref rm), (1, .int (i32 v1)), (2, .int (i32 v2)), (3, .long v3), (5, .int (i32 v5)), (6, .int (i32 v6)), (7, .int (i32 v7)), (8, .int (i32 v8)), (9, .int (i32 v9))] [.int (i32 u0), .ref (ra 82)] := by
  intro σ v1 v2 v3 v5 v6 v7 v8 v9 u0 g1 g2 g5 g6 g7 g8 g9 gu0 h hGσ hS H locs ls hH hl hc
  have B := K.1
  unfold w_X16_growLook_150 at h
  refine lv_lconst (v := 0) B.1 B.2.1 dX16_growLook_150 (by decide) ?_
  exact a_X16_growLook_151 K hQ hX hK48 hK85 _ _ _ _ _ _ _ _ _ _ _ g1 g2 g5 g6 g7 g8 g9 gu0 h hGσ hS _ _ _ hH (lv_sub (l' := [(0, .ref rm), (1, .int (i32 v1)), (2, .int (i32 v2)), (3, .long v3), (5, .int (i32 v5)), (6, .int (i32 v6)), (7, .int (i32 v7)), (8, .int (i32 v8)), (9, .int (i32 v9))]) hl [0, 1, 2, 3, 4, 5, 6, 7, 8] rfl) hc
set_option maxRecDepth 20000 in
theorem a_X16_growLook_131 {Q : Sg → Unit → Prop} {X : Sg → String → Prop} (K : MC R p s m args c cX16_growLook 12 RX16 D cA tys A n0 s0 3 81 []) (hQ : HQV p l e R s m args below meth c cX16_growLook D cA A n0 s0 QM dm ra jx rm Q) (hX : HX p l e R s m args below meth c 12 D cA A n0 s0 QM dm ra jx rm X) {K48 : Sg → Int → Int → Int64 → Int → Int → Int → Prop} (hK48 : ∀ (σ : Sg) (v1 : Int) (v2 : Int) (v3 : Int64) (v5 : Int) (v6 : Int) (v7 : Int) (g1 : rng v1) (g2 : rng v2) (g5 : rng v5) (g6 : rng v6) (g7 : rng v7), K48 σ v1 v2 v3 v5 v6 v7 → RG σ → Shp dm ra jx rm σ → JJ p l e R s m args below meth c 12 D cA A n0 s0 QM σ 48 [(0, .ref rm), (1, .int (i32 v1)), (2, .int (i32 v2)), (3, .long v3), (5, .int (i32 v5)), (6, .int (i32 v6)), (7, .int (i32 v7))] []) {K85 : Sg → Int → Int → Int64 → Int → Int → Int → Int → Int → Prop} (hK85 : ∀ (σ : Sg) (v1 : Int) (v2 : Int) (v3 : Int64) (v5 : Int) (v6 : Int) (v7 : Int) (v8 : Int) (v9 : Int) (g1 : rng v1) (g2 : rng v2) (g5 : rng v5) (g6 : rng v6) (g7 : rng v7) (g8 : rng v8) (g9 : rng v9), K85 σ v1 v2 v3 v5 v6 v7 v8 v9 → RG σ → Shp dm ra jx rm σ → JJ p l e R s m args below meth c 12 D cA A n0 s0 QM σ 85 [(0, .ref rm), (1, .int (i32 v1)), (2, .int (i32 v2)), (3, .long v3), (5, .int (i32 v5)), (6, .int (i32 v6)), (7, .int (i32 v7)), (8, .int (i32 v8)), (9, .int (i32 v9))] []) : ∀ (σ : Sg) (v1 : Int) (v2 : Int) (v3 : Int64) (v5 : Int) (v6 : Int) (v7 : Int) (v8 : Int) (v9 : Int) (u0 : Int) (g1 : rng v1) (g2 : rng v2) (g5 : rng v5) (g6 : rng v6) (g7 : rng v7) (g8 : rng v8) (g9 : rng v9) (gu0 : rng u0), w_X16_growLook_131 ra jx rm K48 K85 Q X σ v1 v2 v3 v5 v6 v7 v8 v9 u0 → RG σ → Shp dm ra jx rm σ → JJ p l e R s m args below meth c 12 D cA A n0 s0 QM σ 131 [(0, .ref rm), (1, .int (i32 v1)), (2, .int (i32 v2)), (3, .long v3), (5, .int (i32 v5)), (6, .int (i32 v6)), (7, .int (i32 v7)), (8, .int (i32 v8)), (9, .int (i32 v9))] [.int (i32 u0), .ref (ra 82)] := by
  intro σ v1 v2 v3 v5 v6 v7 v8 v9 u0 g1 g2 g5 g6 g7 g8 g9 gu0 h hGσ hS H locs ls hH hl hc
  have B := K.1
  unfold w_X16_growLook_131 at h
  refine lv_aload_n B.1 B.2.1 dX16_growLook_131 rfl (lv_at hl 0 rfl) ?_
  refine r_arr B hH hS 73 (kd := 101) (n := 32000) (by decide) (by decide) wf_X16_528 rfl rfl dX16_growLook_132 ?_
  refine lv_bipush (v := i32 8) B.1 B.2.1 dX16_growLook_135 (by decide) ?_
  refine lv_iload B.1 B.2.1 dX16_growLook_137 (lv_at hl 7 rfl) ?_
  obtain ⟨q1, h⟩ := h
  refine lv_imul B.1 B.2.1 dX16_growLook_139 ?_
  rw [i32_mul]
  refine lv_iload B.1 B.2.1 dX16_growLook_140 (lv_at hl 8 rfl) ?_
  obtain ⟨q2, h⟩ := h
  refine lv_iadd B.1 B.2.1 dX16_growLook_142 ?_
  rw [i32_add]
  refine lv_iload B.1 B.2.1 dX16_growLook_143 (lv_at hl 4 rfl) ?_
  obtain ⟨q3, h⟩ := h
  refine lv_isub B.1 B.2.1 dX16_growLook_145 ?_
  rw [i32_sub]
  obtain ⟨q4, h⟩ := h
  refine x_lald B K.2.1 hH (hS.ar (k := 73) (kd := 101) (n := 32000) (by decide)) (by decide) q4 dX16_growLook_146 ?_
  refine lv_goto (tgt := 151) B.1 B.2.1 dX16_growLook_147 (by decide) ?_
  exact a_X16_growLook_151 K hQ hX hK48 hK85 _ _ _ _ _ _ _ _ _ _ _ g1 g2 g5 g6 g7 g8 g9 gu0 h hGσ hS _ _ _ hH (lv_sub (l' := [(0, .ref rm), (1, .int (i32 v1)), (2, .int (i32 v2)), (3, .long v3), (5, .int (i32 v5)), (6, .int (i32 v6)), (7, .int (i32 v7)), (8, .int (i32 v8)), (9, .int (i32 v9))]) hl [0, 1, 2, 3, 4, 5, 6, 7, 8] rfl) hc
set_option maxRecDepth 20000 in
theorem a_X16_growLook_121 {Q : Sg → Unit → Prop} {X : Sg → String → Prop} (K : MC R p s m args c cX16_growLook 12 RX16 D cA tys A n0 s0 3 81 []) (hQ : HQV p l e R s m args below meth c cX16_growLook D cA A n0 s0 QM dm ra jx rm Q) (hX : HX p l e R s m args below meth c 12 D cA A n0 s0 QM dm ra jx rm X) {K48 : Sg → Int → Int → Int64 → Int → Int → Int → Prop} (hK48 : ∀ (σ : Sg) (v1 : Int) (v2 : Int) (v3 : Int64) (v5 : Int) (v6 : Int) (v7 : Int) (g1 : rng v1) (g2 : rng v2) (g5 : rng v5) (g6 : rng v6) (g7 : rng v7), K48 σ v1 v2 v3 v5 v6 v7 → RG σ → Shp dm ra jx rm σ → JJ p l e R s m args below meth c 12 D cA A n0 s0 QM σ 48 [(0, .ref rm), (1, .int (i32 v1)), (2, .int (i32 v2)), (3, .long v3), (5, .int (i32 v5)), (6, .int (i32 v6)), (7, .int (i32 v7))] []) {K85 : Sg → Int → Int → Int64 → Int → Int → Int → Int → Int → Prop} (hK85 : ∀ (σ : Sg) (v1 : Int) (v2 : Int) (v3 : Int64) (v5 : Int) (v6 : Int) (v7 : Int) (v8 : Int) (v9 : Int) (g1 : rng v1) (g2 : rng v2) (g5 : rng v5) (g6 : rng v6) (g7 : rng v7) (g8 : rng v8) (g9 : rng v9), K85 σ v1 v2 v3 v5 v6 v7 v8 v9 → RG σ → Shp dm ra jx rm σ → JJ p l e R s m args below meth c 12 D cA A n0 s0 QM σ 85 [(0, .ref rm), (1, .int (i32 v1)), (2, .int (i32 v2)), (3, .long v3), (5, .int (i32 v5)), (6, .int (i32 v6)), (7, .int (i32 v7)), (8, .int (i32 v8)), (9, .int (i32 v9))] []) : ∀ (σ : Sg) (v1 : Int) (v2 : Int) (v3 : Int64) (v5 : Int) (v6 : Int) (v7 : Int) (v8 : Int) (v9 : Int) (u0 : Int) (g1 : rng v1) (g2 : rng v2) (g5 : rng v5) (g6 : rng v6) (g7 : rng v7) (g8 : rng v8) (g9 : rng v9) (gu0 : rng u0), w_X16_growLook_121 ra jx rm K48 K85 Q X σ v1 v2 v3 v5 v6 v7 v8 v9 u0 → RG σ → Shp dm ra jx rm σ → JJ p l e R s m args below meth c 12 D cA A n0 s0 QM σ 121 [(0, .ref rm), (1, .int (i32 v1)), (2, .int (i32 v2)), (3, .long v3), (5, .int (i32 v5)), (6, .int (i32 v6)), (7, .int (i32 v7)), (8, .int (i32 v8)), (9, .int (i32 v9))] [.int (i32 u0), .ref (ra 82)] := by
  intro σ v1 v2 v3 v5 v6 v7 v8 v9 u0 g1 g2 g5 g6 g7 g8 g9 gu0 h hGσ hS H locs ls hH hl hc
  have B := K.1
  unfold w_X16_growLook_121 at h
  refine lv_iload B.1 B.2.1 dX16_growLook_121 (lv_at hl 8 rfl) ?_
  refine lv_iload B.1 B.2.1 dX16_growLook_123 (lv_at hl 4 rfl) ?_
  refine lv_iload B.1 B.2.1 dX16_growLook_125 (lv_at hl 5 rfl) ?_
  obtain ⟨q1, h⟩ := h
  refine lv_iadd B.1 B.2.1 dX16_growLook_127 ?_
  rw [i32_add]
  refine lv_icmp_ge (tgt := 150) B.1 B.2.1 dX16_growLook_128 (by decide) (fun h9 => ?_) (fun h9 => ?_)
  · rw [if_pos ((i32_le q1 g9).mp h9)] at h
    exact a_X16_growLook_150 K hQ hX hK48 hK85 _ _ _ _ _ _ _ _ _ _ g1 g2 g5 g6 g7 g8 g9 gu0 h hGσ hS _ _ _ hH (lv_sub (l' := [(0, .ref rm), (1, .int (i32 v1)), (2, .int (i32 v2)), (3, .long v3), (5, .int (i32 v5)), (6, .int (i32 v6)), (7, .int (i32 v7)), (8, .int (i32 v8)), (9, .int (i32 v9))]) hl [0, 1, 2, 3, 4, 5, 6, 7, 8] rfl) hc
  · rw [if_neg (fun q => h9 ((i32_le q1 g9).mpr q))] at h
    exact a_X16_growLook_131 K hQ hX hK48 hK85 _ _ _ _ _ _ _ _ _ _ g1 g2 g5 g6 g7 g8 g9 gu0 h hGσ hS _ _ _ hH (lv_sub (l' := [(0, .ref rm), (1, .int (i32 v1)), (2, .int (i32 v2)), (3, .long v3), (5, .int (i32 v5)), (6, .int (i32 v6)), (7, .int (i32 v7)), (8, .int (i32 v8)), (9, .int (i32 v9))]) hl [0, 1, 2, 3, 4, 5, 6, 7, 8] rfl) hc
set_option maxRecDepth 20000 in
theorem a_X16_growLook_105 {Q : Sg → Unit → Prop} {X : Sg → String → Prop} (K : MC R p s m args c cX16_growLook 12 RX16 D cA tys A n0 s0 3 81 []) (hQ : HQV p l e R s m args below meth c cX16_growLook D cA A n0 s0 QM dm ra jx rm Q) (hX : HX p l e R s m args below meth c 12 D cA A n0 s0 QM dm ra jx rm X) {K48 : Sg → Int → Int → Int64 → Int → Int → Int → Prop} (hK48 : ∀ (σ : Sg) (v1 : Int) (v2 : Int) (v3 : Int64) (v5 : Int) (v6 : Int) (v7 : Int) (g1 : rng v1) (g2 : rng v2) (g5 : rng v5) (g6 : rng v6) (g7 : rng v7), K48 σ v1 v2 v3 v5 v6 v7 → RG σ → Shp dm ra jx rm σ → JJ p l e R s m args below meth c 12 D cA A n0 s0 QM σ 48 [(0, .ref rm), (1, .int (i32 v1)), (2, .int (i32 v2)), (3, .long v3), (5, .int (i32 v5)), (6, .int (i32 v6)), (7, .int (i32 v7))] []) {K85 : Sg → Int → Int → Int64 → Int → Int → Int → Int → Int → Prop} (hK85 : ∀ (σ : Sg) (v1 : Int) (v2 : Int) (v3 : Int64) (v5 : Int) (v6 : Int) (v7 : Int) (v8 : Int) (v9 : Int) (g1 : rng v1) (g2 : rng v2) (g5 : rng v5) (g6 : rng v6) (g7 : rng v7) (g8 : rng v8) (g9 : rng v9), K85 σ v1 v2 v3 v5 v6 v7 v8 v9 → RG σ → Shp dm ra jx rm σ → JJ p l e R s m args below meth c 12 D cA A n0 s0 QM σ 85 [(0, .ref rm), (1, .int (i32 v1)), (2, .int (i32 v2)), (3, .long v3), (5, .int (i32 v5)), (6, .int (i32 v6)), (7, .int (i32 v7)), (8, .int (i32 v8)), (9, .int (i32 v9))] []) : ∀ (σ : Sg) (v1 : Int) (v2 : Int) (v3 : Int64) (v5 : Int) (v6 : Int) (v7 : Int) (v8 : Int) (v9 : Int) (u0 : Int) (g1 : rng v1) (g2 : rng v2) (g5 : rng v5) (g6 : rng v6) (g7 : rng v7) (g8 : rng v8) (g9 : rng v9) (gu0 : rng u0), w_X16_growLook_105 ra jx rm K48 K85 Q X σ v1 v2 v3 v5 v6 v7 v8 v9 u0 → RG σ → Shp dm ra jx rm σ → JJ p l e R s m args below meth c 12 D cA A n0 s0 QM σ 105 [(0, .ref rm), (1, .int (i32 v1)), (2, .int (i32 v2)), (3, .long v3), (5, .int (i32 v5)), (6, .int (i32 v6)), (7, .int (i32 v7)), (8, .int (i32 v8)), (9, .int (i32 v9))] [.int (i32 u0), .ref (ra 82)] := by
  intro σ v1 v2 v3 v5 v6 v7 v8 v9 u0 g1 g2 g5 g6 g7 g8 g9 gu0 h hGσ hS H locs ls hH hl hc
  have B := K.1
  unfold w_X16_growLook_105 at h
  refine lv_aload_n B.1 B.2.1 dX16_growLook_105 rfl (lv_at hl 0 rfl) ?_
  refine r_arr B hH hS 73 (kd := 101) (n := 32000) (by decide) (by decide) wf_X16_528 rfl rfl dX16_growLook_106 ?_
  refine lv_bipush (v := i32 8) B.1 B.2.1 dX16_growLook_109 (by decide) ?_
  refine lv_iload B.1 B.2.1 dX16_growLook_111 (lv_at hl 6 rfl) ?_
  obtain ⟨q1, h⟩ := h
  refine lv_imul B.1 B.2.1 dX16_growLook_113 ?_
  rw [i32_mul]
  refine lv_iload B.1 B.2.1 dX16_growLook_114 (lv_at hl 8 rfl) ?_
  obtain ⟨q2, h⟩ := h
  refine lv_iadd B.1 B.2.1 dX16_growLook_116 ?_
  rw [i32_add]
  obtain ⟨q3, h⟩ := h
  refine x_lald B K.2.1 hH (hS.ar (k := 73) (kd := 101) (n := 32000) (by decide)) (by decide) q3 dX16_growLook_117 ?_
  refine lv_goto (tgt := 151) B.1 B.2.1 dX16_growLook_118 (by decide) ?_
  exact a_X16_growLook_151 K hQ hX hK48 hK85 _ _ _ _ _ _ _ _ _ _ _ g1 g2 g5 g6 g7 g8 g9 gu0 h hGσ hS _ _ _ hH (lv_sub (l' := [(0, .ref rm), (1, .int (i32 v1)), (2, .int (i32 v2)), (3, .long v3), (5, .int (i32 v5)), (6, .int (i32 v6)), (7, .int (i32 v7)), (8, .int (i32 v8)), (9, .int (i32 v9))]) hl [0, 1, 2, 3, 4, 5, 6, 7, 8] rfl) hc
set_option maxRecDepth 20000 in
theorem a_X16_growLook_92 {Q : Sg → Unit → Prop} {X : Sg → String → Prop} (K : MC R p s m args c cX16_growLook 12 RX16 D cA tys A n0 s0 3 81 []) (hQ : HQV p l e R s m args below meth c cX16_growLook D cA A n0 s0 QM dm ra jx rm Q) (hX : HX p l e R s m args below meth c 12 D cA A n0 s0 QM dm ra jx rm X) {K48 : Sg → Int → Int → Int64 → Int → Int → Int → Prop} (hK48 : ∀ (σ : Sg) (v1 : Int) (v2 : Int) (v3 : Int64) (v5 : Int) (v6 : Int) (v7 : Int) (g1 : rng v1) (g2 : rng v2) (g5 : rng v5) (g6 : rng v6) (g7 : rng v7), K48 σ v1 v2 v3 v5 v6 v7 → RG σ → Shp dm ra jx rm σ → JJ p l e R s m args below meth c 12 D cA A n0 s0 QM σ 48 [(0, .ref rm), (1, .int (i32 v1)), (2, .int (i32 v2)), (3, .long v3), (5, .int (i32 v5)), (6, .int (i32 v6)), (7, .int (i32 v7))] []) {K85 : Sg → Int → Int → Int64 → Int → Int → Int → Int → Int → Prop} (hK85 : ∀ (σ : Sg) (v1 : Int) (v2 : Int) (v3 : Int64) (v5 : Int) (v6 : Int) (v7 : Int) (v8 : Int) (v9 : Int) (g1 : rng v1) (g2 : rng v2) (g5 : rng v5) (g6 : rng v6) (g7 : rng v7) (g8 : rng v8) (g9 : rng v9), K85 σ v1 v2 v3 v5 v6 v7 v8 v9 → RG σ → Shp dm ra jx rm σ → JJ p l e R s m args below meth c 12 D cA A n0 s0 QM σ 85 [(0, .ref rm), (1, .int (i32 v1)), (2, .int (i32 v2)), (3, .long v3), (5, .int (i32 v5)), (6, .int (i32 v6)), (7, .int (i32 v7)), (8, .int (i32 v8)), (9, .int (i32 v9))] []) : ∀ (σ : Sg) (v1 : Int) (v2 : Int) (v3 : Int64) (v5 : Int) (v6 : Int) (v7 : Int) (v8 : Int) (v9 : Int) (g1 : rng v1) (g2 : rng v2) (g5 : rng v5) (g6 : rng v6) (g7 : rng v7) (g8 : rng v8) (g9 : rng v9), w_X16_growLook_92 ra jx rm K48 K85 Q X σ v1 v2 v3 v5 v6 v7 v8 v9 → RG σ → Shp dm ra jx rm σ → JJ p l e R s m args below meth c 12 D cA A n0 s0 QM σ 92 [(0, .ref rm), (1, .int (i32 v1)), (2, .int (i32 v2)), (3, .long v3), (5, .int (i32 v5)), (6, .int (i32 v6)), (7, .int (i32 v7)), (8, .int (i32 v8)), (9, .int (i32 v9))] [] := by
  intro σ v1 v2 v3 v5 v6 v7 v8 v9 g1 g2 g5 g6 g7 g8 g9 h hGσ hS H locs ls hH hl hc
  have B := K.1
  unfold w_X16_growLook_92 at h
  refine lv_aload_n B.1 B.2.1 dX16_growLook_92 rfl (lv_at hl 0 rfl) ?_
  refine r_arr B hH hS 82 (kd := 101) (n := 16) (by decide) (by decide) wf_X16_578 rfl rfl dX16_growLook_93 ?_
  refine lv_iload B.1 B.2.1 dX16_growLook_96 (lv_at hl 8 rfl) ?_
  refine lv_iload B.1 B.2.1 dX16_growLook_98 (lv_at hl 8 rfl) ?_
  refine lv_iload B.1 B.2.1 dX16_growLook_100 (lv_at hl 4 rfl) ?_
  refine lv_icmp_ge (tgt := 121) B.1 B.2.1 dX16_growLook_102 (by decide) (fun h9 => ?_) (fun h9 => ?_)
  · rw [if_pos ((i32_le g5 g9).mp h9)] at h
    exact a_X16_growLook_121 K hQ hX hK48 hK85 _ _ _ _ _ _ _ _ _ _ g1 g2 g5 g6 g7 g8 g9 g9 h hGσ hS _ _ _ hH (lv_sub (l' := [(0, .ref rm), (1, .int (i32 v1)), (2, .int (i32 v2)), (3, .long v3), (5, .int (i32 v5)), (6, .int (i32 v6)), (7, .int (i32 v7)), (8, .int (i32 v8)), (9, .int (i32 v9))]) hl [0, 1, 2, 3, 4, 5, 6, 7, 8] rfl) hc
  · rw [if_neg (fun q => h9 ((i32_le g5 g9).mpr q))] at h
    exact a_X16_growLook_105 K hQ hX hK48 hK85 _ _ _ _ _ _ _ _ _ _ g1 g2 g5 g6 g7 g8 g9 g9 h hGσ hS _ _ _ hH (lv_sub (l' := [(0, .ref rm), (1, .int (i32 v1)), (2, .int (i32 v2)), (3, .long v3), (5, .int (i32 v5)), (6, .int (i32 v6)), (7, .int (i32 v7)), (8, .int (i32 v8)), (9, .int (i32 v9))]) hl [0, 1, 2, 3, 4, 5, 6, 7, 8] rfl) hc
set_option maxRecDepth 20000 in
theorem a_X16_growLook_85 {Q : Sg → Unit → Prop} {X : Sg → String → Prop} (K : MC R p s m args c cX16_growLook 12 RX16 D cA tys A n0 s0 3 81 []) (hQ : HQV p l e R s m args below meth c cX16_growLook D cA A n0 s0 QM dm ra jx rm Q) (hX : HX p l e R s m args below meth c 12 D cA A n0 s0 QM dm ra jx rm X) {K48 : Sg → Int → Int → Int64 → Int → Int → Int → Prop} (hK48 : ∀ (σ : Sg) (v1 : Int) (v2 : Int) (v3 : Int64) (v5 : Int) (v6 : Int) (v7 : Int) (g1 : rng v1) (g2 : rng v2) (g5 : rng v5) (g6 : rng v6) (g7 : rng v7), K48 σ v1 v2 v3 v5 v6 v7 → RG σ → Shp dm ra jx rm σ → JJ p l e R s m args below meth c 12 D cA A n0 s0 QM σ 48 [(0, .ref rm), (1, .int (i32 v1)), (2, .int (i32 v2)), (3, .long v3), (5, .int (i32 v5)), (6, .int (i32 v6)), (7, .int (i32 v7))] []) {K85 : Sg → Int → Int → Int64 → Int → Int → Int → Int → Int → Prop} (hK85 : ∀ (σ : Sg) (v1 : Int) (v2 : Int) (v3 : Int64) (v5 : Int) (v6 : Int) (v7 : Int) (v8 : Int) (v9 : Int) (g1 : rng v1) (g2 : rng v2) (g5 : rng v5) (g6 : rng v6) (g7 : rng v7) (g8 : rng v8) (g9 : rng v9), K85 σ v1 v2 v3 v5 v6 v7 v8 v9 → RG σ → Shp dm ra jx rm σ → JJ p l e R s m args below meth c 12 D cA A n0 s0 QM σ 85 [(0, .ref rm), (1, .int (i32 v1)), (2, .int (i32 v2)), (3, .long v3), (5, .int (i32 v5)), (6, .int (i32 v6)), (7, .int (i32 v7)), (8, .int (i32 v8)), (9, .int (i32 v9))] []) : ∀ (σ : Sg) (v1 : Int) (v2 : Int) (v3 : Int64) (v5 : Int) (v6 : Int) (v7 : Int) (v8 : Int) (v9 : Int) (g1 : rng v1) (g2 : rng v2) (g5 : rng v5) (g6 : rng v6) (g7 : rng v7) (g8 : rng v8) (g9 : rng v9), w_X16_growLook_85 ra jx rm K48 K85 Q X σ v1 v2 v3 v5 v6 v7 v8 v9 → RG σ → Shp dm ra jx rm σ → JJ p l e R s m args below meth c 12 D cA A n0 s0 QM σ 85 [(0, .ref rm), (1, .int (i32 v1)), (2, .int (i32 v2)), (3, .long v3), (5, .int (i32 v5)), (6, .int (i32 v6)), (7, .int (i32 v7)), (8, .int (i32 v8)), (9, .int (i32 v9))] [] := by
  intro σ v1 v2 v3 v5 v6 v7 v8 v9 g1 g2 g5 g6 g7 g8 g9 h hGσ hS H locs ls hH hl hc
  have B := K.1
  unfold w_X16_growLook_85 at h
  refine lv_iload B.1 B.2.1 dX16_growLook_85 (lv_at hl 8 rfl) ?_
  refine lv_bipush (v := i32 8) B.1 B.2.1 dX16_growLook_87 (by decide) ?_
  refine lv_icmp_ge (tgt := 158) B.1 B.2.1 dX16_growLook_89 (by decide) (fun h9 => ?_) (fun h9 => ?_)
  · rw [if_pos ((i32_le (by unfold rng; omega) g9).mp h9)] at h
    exact a_X16_growLook_158 K hQ hX hK48 _ _ _ _ _ _ _ _ g1 g2 g5 g6 g7 g8 h hGσ hS _ _ _ hH (lv_sub (l' := [(0, .ref rm), (1, .int (i32 v1)), (2, .int (i32 v2)), (3, .long v3), (5, .int (i32 v5)), (6, .int (i32 v6)), (7, .int (i32 v7)), (8, .int (i32 v8))]) hl [0, 1, 2, 3, 4, 5, 6, 7] rfl) hc
  · rw [if_neg (fun q => h9 ((i32_le (by unfold rng; omega) g9).mpr q))] at h
    exact a_X16_growLook_92 K hQ hX hK48 hK85 _ _ _ _ _ _ _ _ _ g1 g2 g5 g6 g7 g8 g9 h hGσ hS _ _ _ hH (lv_sub (l' := [(0, .ref rm), (1, .int (i32 v1)), (2, .int (i32 v2)), (3, .long v3), (5, .int (i32 v5)), (6, .int (i32 v6)), (7, .int (i32 v7)), (8, .int (i32 v8)), (9, .int (i32 v9))]) hl [0, 1, 2, 3, 4, 5, 6, 7, 8] rfl) hc
theorem al_X16_growLook_85 {Q : Sg → Unit → Prop} {X : Sg → String → Prop} (K : MC R p s m args c cX16_growLook 12 RX16 D cA tys A n0 s0 3 81 []) (hQ : HQV p l e R s m args below meth c cX16_growLook D cA A n0 s0 QM dm ra jx rm Q) (hX : HX p l e R s m args below meth c 12 D cA A n0 s0 QM dm ra jx rm X) {K48 : Sg → Int → Int → Int64 → Int → Int → Int → Prop} (hK48 : ∀ (σ : Sg) (v1 : Int) (v2 : Int) (v3 : Int64) (v5 : Int) (v6 : Int) (v7 : Int) (g1 : rng v1) (g2 : rng v2) (g5 : rng v5) (g6 : rng v6) (g7 : rng v7), K48 σ v1 v2 v3 v5 v6 v7 → RG σ → Shp dm ra jx rm σ → JJ p l e R s m args below meth c 12 D cA A n0 s0 QM σ 48 [(0, .ref rm), (1, .int (i32 v1)), (2, .int (i32 v2)), (3, .long v3), (5, .int (i32 v5)), (6, .int (i32 v6)), (7, .int (i32 v7))] []) : ∀ (n : Nat), ∀ (σ : Sg) (v1 : Int) (v2 : Int) (v3 : Int64) (v5 : Int) (v6 : Int) (v7 : Int) (v8 : Int) (v9 : Int) (g1 : rng v1) (g2 : rng v2) (g5 : rng v5) (g6 : rng v6) (g7 : rng v7) (g8 : rng v8) (g9 : rng v9), wl_X16_growLook_85 ra jx rm K48 Q X n σ v1 v2 v3 v5 v6 v7 v8 v9 → RG σ → Shp dm ra jx rm σ → JJ p l e R s m args below meth c 12 D cA A n0 s0 QM σ 85 [(0, .ref rm), (1, .int (i32 v1)), (2, .int (i32 v2)), (3, .long v3), (5, .int (i32 v5)), (6, .int (i32 v6)), (7, .int (i32 v7)), (8, .int (i32 v8)), (9, .int (i32 v9))] [] := by
  intro n
  induction n with
  | zero => intro σ v1 v2 v3 v5 v6 v7 v8 v9 g1 g2 g5 g6 g7 g8 g9 h; exact h.elim
  | succ n ih => exact fun σ v1 v2 v3 v5 v6 v7 v8 v9 g1 g2 g5 g6 g7 g8 g9 h => a_X16_growLook_85 K hQ hX hK48 ih σ v1 v2 v3 v5 v6 v7 v8 v9 g1 g2 g5 g6 g7 g8 g9 h
set_option maxRecDepth 20000 in
theorem a_X16_growLook_82 {Q : Sg → Unit → Prop} {X : Sg → String → Prop} (K : MC R p s m args c cX16_growLook 12 RX16 D cA tys A n0 s0 3 81 []) (hQ : HQV p l e R s m args below meth c cX16_growLook D cA A n0 s0 QM dm ra jx rm Q) (hX : HX p l e R s m args below meth c 12 D cA A n0 s0 QM dm ra jx rm X) {K48 : Sg → Int → Int → Int64 → Int → Int → Int → Prop} (hK48 : ∀ (σ : Sg) (v1 : Int) (v2 : Int) (v3 : Int64) (v5 : Int) (v6 : Int) (v7 : Int) (g1 : rng v1) (g2 : rng v2) (g5 : rng v5) (g6 : rng v6) (g7 : rng v7), K48 σ v1 v2 v3 v5 v6 v7 → RG σ → Shp dm ra jx rm σ → JJ p l e R s m args below meth c 12 D cA A n0 s0 QM σ 48 [(0, .ref rm), (1, .int (i32 v1)), (2, .int (i32 v2)), (3, .long v3), (5, .int (i32 v5)), (6, .int (i32 v6)), (7, .int (i32 v7))] []) : ∀ (σ : Sg) (v1 : Int) (v2 : Int) (v3 : Int64) (v5 : Int) (v6 : Int) (v7 : Int) (v8 : Int) (g1 : rng v1) (g2 : rng v2) (g5 : rng v5) (g6 : rng v6) (g7 : rng v7) (g8 : rng v8), w_X16_growLook_82 ra jx rm K48 Q X σ v1 v2 v3 v5 v6 v7 v8 → RG σ → Shp dm ra jx rm σ → JJ p l e R s m args below meth c 12 D cA A n0 s0 QM σ 82 [(0, .ref rm), (1, .int (i32 v1)), (2, .int (i32 v2)), (3, .long v3), (5, .int (i32 v5)), (6, .int (i32 v6)), (7, .int (i32 v7)), (8, .int (i32 v8))] [] := by
  intro σ v1 v2 v3 v5 v6 v7 v8 g1 g2 g5 g6 g7 g8 h hGσ hS H locs ls hH hl hc
  have B := K.1
  unfold w_X16_growLook_82 at h
  refine lv_iconst (v := i32 0) B.1 B.2.1 dX16_growLook_82 (by decide) ?_
  refine lv_istore (lv' := [(9, .int (i32 0)), (0, .ref rm), (1, .int (i32 v1)), (2, .int (i32 v2)), (3, .long v3), (5, .int (i32 v5)), (6, .int (i32 v6)), (7, .int (i32 v7)), (8, .int (i32 v8))]) B.1 B.2.1 dX16_growLook_83 hl (by decide) rfl (fun ls hl => ?_)
  obtain ⟨n9, h⟩ := h
  exact al_X16_growLook_85 K hQ hX hK48 n9 _ _ _ _ _ _ _ _ _ g1 g2 g5 g6 g7 g8 (by unfold rng; omega) h hGσ hS _ _ _ hH (lv_sub (l' := [(0, .ref rm), (1, .int (i32 v1)), (2, .int (i32 v2)), (3, .long v3), (5, .int (i32 v5)), (6, .int (i32 v6)), (7, .int (i32 v7)), (8, .int (i32 v8)), (9, .int (i32 0))]) hl [1, 2, 3, 4, 5, 6, 7, 8, 0] rfl) hc
set_option maxRecDepth 20000 in
theorem a_X16_growLook_54 {Q : Sg → Unit → Prop} {X : Sg → String → Prop} (K : MC R p s m args c cX16_growLook 12 RX16 D cA tys A n0 s0 3 81 []) (hQ : HQV p l e R s m args below meth c cX16_growLook D cA A n0 s0 QM dm ra jx rm Q) (hX : HX p l e R s m args below meth c 12 D cA A n0 s0 QM dm ra jx rm X) {K48 : Sg → Int → Int → Int64 → Int → Int → Int → Prop} (hK48 : ∀ (σ : Sg) (v1 : Int) (v2 : Int) (v3 : Int64) (v5 : Int) (v6 : Int) (v7 : Int) (g1 : rng v1) (g2 : rng v2) (g5 : rng v5) (g6 : rng v6) (g7 : rng v7), K48 σ v1 v2 v3 v5 v6 v7 → RG σ → Shp dm ra jx rm σ → JJ p l e R s m args below meth c 12 D cA A n0 s0 QM σ 48 [(0, .ref rm), (1, .int (i32 v1)), (2, .int (i32 v2)), (3, .long v3), (5, .int (i32 v5)), (6, .int (i32 v6)), (7, .int (i32 v7))] []) : ∀ (σ : Sg) (v1 : Int) (v2 : Int) (v3 : Int64) (v5 : Int) (v6 : Int) (v7 : Int) (g1 : rng v1) (g2 : rng v2) (g5 : rng v5) (g6 : rng v6) (g7 : rng v7), w_X16_growLook_54 ra jx rm K48 Q X σ v1 v2 v3 v5 v6 v7 → RG σ → Shp dm ra jx rm σ → JJ p l e R s m args below meth c 12 D cA A n0 s0 QM σ 54 [(0, .ref rm), (1, .int (i32 v1)), (2, .int (i32 v2)), (3, .long v3), (5, .int (i32 v5)), (6, .int (i32 v6)), (7, .int (i32 v7))] [] := by
  intro σ v1 v2 v3 v5 v6 v7 g1 g2 g5 g6 g7 h hGσ hS H locs ls hH hl hc
  have B := K.1
  unfold w_X16_growLook_54 at h
  refine lv_aload_n B.1 B.2.1 dX16_growLook_54 rfl (lv_at hl 0 rfl) ?_
  refine lv_iload_n B.1 B.2.1 dX16_growLook_55 rfl (lv_at hl 1 rfl) ?_
  refine lv_iload_n B.1 B.2.1 dX16_growLook_56 rfl (lv_at hl 2 rfl) ?_
  refine lv_aload_n B.1 B.2.1 dX16_growLook_57 rfl (lv_at hl 0 rfl) ?_
  refine r_arr B hH hS 70 (kd := 101) (n := 4000) (by decide) (by decide) wf_X16_519 rfl rfl dX16_growLook_58 ?_
  refine lv_iload B.1 B.2.1 dX16_growLook_61 (lv_at hl 6 rfl) ?_
  obtain ⟨q1, h⟩ := h
  refine x_lald B K.2.1 hH (hS.ar (k := 70) (kd := 101) (n := 4000) (by decide)) (by decide) q1 dX16_growLook_63 ?_
  refine lv_aload_n B.1 B.2.1 dX16_growLook_64 rfl (lv_at hl 0 rfl) ?_
  refine r_arr B hH hS 71 (kd := 101) (n := 4000) (by decide) (by decide) wf_X16_522 rfl rfl dX16_growLook_65 ?_
  refine lv_iload B.1 B.2.1 dX16_growLook_68 (lv_at hl 6 rfl) ?_
  obtain ⟨q2, h⟩ := h
  refine x_lald B K.2.1 hH (hS.ar (k := 71) (kd := 101) (n := 4000) (by decide)) (by decide) q2 dX16_growLook_70 ?_
  refine c_V B hH hl hc K.2.2.1 (C := RX16) (T := TX16) (N := 123) (ci := 16) (As := [.int (i32 v1), .int (i32 v2), .long (gJ σ (ra 70) v7.toNat), .long (gJ σ (ra 71) v7.toNat)]) (ok_X16_greatestOf K.2.1 σ v1 v2 (gJ σ (ra 70) v7.toNat) (gJ σ (ra 71) v7.toNat) g1 g2 hGσ hS h) wc_X16_640 4 hd_X16_greatestOf ⟨Nat.le_trans (Nat.le_of_ble_eq_true rfl) K.2.2.2.1, Nat.le_trans (Nat.le_of_ble_eq_true rfl) K.2.2.2.2.1⟩ hS.1.1 hS.1.2 (by decide) rfl rfl (rest := []) rfl (Nat.le_of_ble_eq_true rfl) dX16_growLook_71 (fun σ52 w hq => ?_) (fun σ9 E9 hx9 => hX σ9 E9 _ _ _ (tb_out K.2.2.2.2.2 rfl) hx9.1 hx9.2.1 hx9.2.2)
  obtain ⟨r53, rfl, gr53, h, hGσ52, hS⟩ := hq
  intro H locs ls hH hl hc
  refine W.eq (g2 := F0 m 74 ls [.int (i32 r53)]) (rfl) ?_
  try dsimp only at h
  refine lv_istore (lv' := [(8, .int (i32 r53)), (0, .ref rm), (1, .int (i32 v1)), (2, .int (i32 v2)), (3, .long v3), (5, .int (i32 v5)), (6, .int (i32 v6)), (7, .int (i32 v7))]) B.1 B.2.1 dX16_growLook_74 hl (by decide) rfl (fun ls hl => ?_)
  refine lv_iload B.1 B.2.1 dX16_growLook_76 (lv_at hl 0 rfl) ?_
  refine lv_iconst (v := i32 (-1)) B.1 B.2.1 dX16_growLook_78 (by decide) ?_
  refine lv_icmp_eq (tgt := 210) B.1 B.2.1 dX16_growLook_79 (by decide) (fun h9 => ?_) (fun h9 => ?_)
  · rw [if_pos ((i32_eq gr53 (by unfold rng; omega)).mp h9)] at h
    exact a_X16_growLook_210 K hQ hX hK48 _ _ _ _ _ _ _ g1 g2 g5 g6 g7 h hGσ52 hS _ _ _ hH (lv_sub (l' := [(0, .ref rm), (1, .int (i32 v1)), (2, .int (i32 v2)), (3, .long v3), (5, .int (i32 v5)), (6, .int (i32 v6)), (7, .int (i32 v7))]) hl [1, 2, 3, 4, 5, 6, 7] rfl) hc
  · rw [if_neg (fun q => h9 ((i32_eq gr53 (by unfold rng; omega)).mpr q))] at h
    exact a_X16_growLook_82 K hQ hX hK48 _ _ _ _ _ _ _ _ g1 g2 g5 g6 g7 gr53 h hGσ52 hS _ _ _ hH (lv_sub (l' := [(0, .ref rm), (1, .int (i32 v1)), (2, .int (i32 v2)), (3, .long v3), (5, .int (i32 v5)), (6, .int (i32 v6)), (7, .int (i32 v7)), (8, .int (i32 r53))]) hl [1, 2, 3, 4, 5, 6, 7, 0] rfl) hc
set_option maxRecDepth 20000 in
theorem a_X16_growLook_48 {Q : Sg → Unit → Prop} {X : Sg → String → Prop} (K : MC R p s m args c cX16_growLook 12 RX16 D cA tys A n0 s0 3 81 []) (hQ : HQV p l e R s m args below meth c cX16_growLook D cA A n0 s0 QM dm ra jx rm Q) (hX : HX p l e R s m args below meth c 12 D cA A n0 s0 QM dm ra jx rm X) {K48 : Sg → Int → Int → Int64 → Int → Int → Int → Prop} (hK48 : ∀ (σ : Sg) (v1 : Int) (v2 : Int) (v3 : Int64) (v5 : Int) (v6 : Int) (v7 : Int) (g1 : rng v1) (g2 : rng v2) (g5 : rng v5) (g6 : rng v6) (g7 : rng v7), K48 σ v1 v2 v3 v5 v6 v7 → RG σ → Shp dm ra jx rm σ → JJ p l e R s m args below meth c 12 D cA A n0 s0 QM σ 48 [(0, .ref rm), (1, .int (i32 v1)), (2, .int (i32 v2)), (3, .long v3), (5, .int (i32 v5)), (6, .int (i32 v6)), (7, .int (i32 v7))] []) : ∀ (σ : Sg) (v1 : Int) (v2 : Int) (v3 : Int64) (v5 : Int) (v6 : Int) (v7 : Int) (g1 : rng v1) (g2 : rng v2) (g5 : rng v5) (g6 : rng v6) (g7 : rng v7), w_X16_growLook_48 ra jx rm K48 Q X σ v1 v2 v3 v5 v6 v7 → RG σ → Shp dm ra jx rm σ → JJ p l e R s m args below meth c 12 D cA A n0 s0 QM σ 48 [(0, .ref rm), (1, .int (i32 v1)), (2, .int (i32 v2)), (3, .long v3), (5, .int (i32 v5)), (6, .int (i32 v6)), (7, .int (i32 v7))] [] := by
  intro σ v1 v2 v3 v5 v6 v7 g1 g2 g5 g6 g7 h hGσ hS H locs ls hH hl hc
  have B := K.1
  unfold w_X16_growLook_48 at h
  refine lv_iload B.1 B.2.1 dX16_growLook_48 (lv_at hl 6 rfl) ?_
  refine lv_iconst (v := i32 (-1)) B.1 B.2.1 dX16_growLook_50 (by decide) ?_
  refine lv_icmp_eq (tgt := 229) B.1 B.2.1 dX16_growLook_51 (by decide) (fun h9 => ?_) (fun h9 => ?_)
  · rw [if_pos ((i32_eq g7 (by unfold rng; omega)).mp h9)] at h
    exact a_X16_growLook_229 K hQ hX _ _ _ _ g1 g2 h hGσ hS _ _ _ hH (lv_sub (l' := [(0, .ref rm), (1, .int (i32 v1)), (2, .int (i32 v2)), (3, .long v3)]) hl [0, 1, 2, 3] rfl) hc
  · rw [if_neg (fun q => h9 ((i32_eq g7 (by unfold rng; omega)).mpr q))] at h
    exact a_X16_growLook_54 K hQ hX hK48 _ _ _ _ _ _ _ g1 g2 g5 g6 g7 h hGσ hS _ _ _ hH (lv_sub (l' := [(0, .ref rm), (1, .int (i32 v1)), (2, .int (i32 v2)), (3, .long v3), (5, .int (i32 v5)), (6, .int (i32 v6)), (7, .int (i32 v7))]) hl [0, 1, 2, 3, 4, 5, 6] rfl) hc
theorem al_X16_growLook_48 {Q : Sg → Unit → Prop} {X : Sg → String → Prop} (K : MC R p s m args c cX16_growLook 12 RX16 D cA tys A n0 s0 3 81 []) (hQ : HQV p l e R s m args below meth c cX16_growLook D cA A n0 s0 QM dm ra jx rm Q) (hX : HX p l e R s m args below meth c 12 D cA A n0 s0 QM dm ra jx rm X) : ∀ (n : Nat), ∀ (σ : Sg) (v1 : Int) (v2 : Int) (v3 : Int64) (v5 : Int) (v6 : Int) (v7 : Int) (g1 : rng v1) (g2 : rng v2) (g5 : rng v5) (g6 : rng v6) (g7 : rng v7), wl_X16_growLook_48 ra jx rm Q X n σ v1 v2 v3 v5 v6 v7 → RG σ → Shp dm ra jx rm σ → JJ p l e R s m args below meth c 12 D cA A n0 s0 QM σ 48 [(0, .ref rm), (1, .int (i32 v1)), (2, .int (i32 v2)), (3, .long v3), (5, .int (i32 v5)), (6, .int (i32 v6)), (7, .int (i32 v7))] [] := by
  intro n
  induction n with
  | zero => intro σ v1 v2 v3 v5 v6 v7 g1 g2 g5 g6 g7 h; exact h.elim
  | succ n ih => exact fun σ v1 v2 v3 v5 v6 v7 g1 g2 g5 g6 g7 h => a_X16_growLook_48 K hQ hX ih σ v1 v2 v3 v5 v6 v7 g1 g2 g5 g6 g7 h
set_option maxRecDepth 20000 in
theorem a_X16_growLook_0 {Q : Sg → Unit → Prop} {X : Sg → String → Prop} (K : MC R p s m args c cX16_growLook 12 RX16 D cA tys A n0 s0 3 81 []) (hQ : HQV p l e R s m args below meth c cX16_growLook D cA A n0 s0 QM dm ra jx rm Q) (hX : HX p l e R s m args below meth c 12 D cA A n0 s0 QM dm ra jx rm X) : ∀ (σ : Sg) (v1 : Int) (v2 : Int) (v3 : Int64) (g1 : rng v1) (g2 : rng v2), w_X16_growLook_0 ra jx rm Q X σ v1 v2 v3 → RG σ → Shp dm ra jx rm σ → JJ p l e R s m args below meth c 12 D cA A n0 s0 QM σ 0 [(0, .ref rm), (1, .int (i32 v1)), (2, .int (i32 v2)), (3, .long v3)] [] := by
  intro σ v1 v2 v3 g1 g2 h hGσ hS H locs ls hH hl hc
  have B := K.1
  unfold w_X16_growLook_0 at h
  refine lv_aload_n B.1 B.2.1 dX16_growLook_0 rfl (lv_at hl 0 rfl) ?_
  refine r_getp B hH hS 17 (by decide) wf_X16_356 rfl rfl dX16_growLook_1 ?_
  obtain ⟨a54, ea54, ja54, h⟩ := h
  refine W.eq (g2 := F0 m 4 ls [.ref a54]) (by rw [ea54]; rfl) ?_
  refine n_arr B hH hS ja54 6 (kd := 100) (n := 16) (by decide) (by decide) (List.mem_of_getElem? (i := 6) rfl) rfl dX16_growLook_4 ?_
  refine lv_aload_n B.1 B.2.1 dX16_growLook_7 rfl (lv_at hl 0 rfl) ?_
  refine r_getp B hH hS 17 (by decide) wf_X16_356 rfl rfl dX16_growLook_8 ?_
  obtain ⟨a55, ea55, ja55, h⟩ := h
  refine W.eq (g2 := F0 m 11 ls [.ref a55, .ref (jx a54 6)]) (by rw [ea55]; rfl) ?_
  refine n_arr B hH hS ja55 4 (kd := 100) (n := 16) (by decide) (by decide) (List.mem_of_getElem? (i := 4) rfl) rfl dX16_growLook_11 ?_
  refine lv_iload_n B.1 B.2.1 dX16_growLook_14 rfl (lv_at hl 2 rfl) ?_
  obtain ⟨q3, h⟩ := h
  refine x_iald B K.2.1 hH (hS.ja ja55 (k := 4) (kd := 100) (n := 16) (by decide)) (by decide) q3 dX16_growLook_15 ?_
  obtain ⟨q4, h⟩ := h
  refine x_iald B K.2.1 hH (hS.ja ja54 (k := 6) (kd := 100) (n := 16) (by decide)) (by decide) q4 dX16_growLook_16 ?_
  refine lv_istore (lv' := [(5, .int (i32 (gI σ (jx a54 6) (gI σ (jx a55 4) v2.toNat).toNat))), (0, .ref rm), (1, .int (i32 v1)), (2, .int (i32 v2)), (3, .long v3)]) B.1 B.2.1 dX16_growLook_17 hl (by decide) rfl (fun ls hl => ?_)
  refine lv_aload_n B.1 B.2.1 dX16_growLook_19 rfl (lv_at hl 1 rfl) ?_
  refine r_getp B hH hS 17 (by decide) wf_X16_356 rfl rfl dX16_growLook_20 ?_
  obtain ⟨a56, ea56, ja56, h⟩ := h
  refine W.eq (g2 := F0 m 23 ls [.ref a56]) (by rw [ea56]; rfl) ?_
  refine n_arr B hH hS ja56 6 (kd := 100) (n := 16) (by decide) (by decide) (List.mem_of_getElem? (i := 6) rfl) rfl dX16_growLook_23 ?_
  refine lv_aload_n B.1 B.2.1 dX16_growLook_26 rfl (lv_at hl 1 rfl) ?_
  refine r_getp B hH hS 17 (by decide) wf_X16_356 rfl rfl dX16_growLook_27 ?_
  obtain ⟨a57, ea57, ja57, h⟩ := h
  refine W.eq (g2 := F0 m 30 ls [.ref a57, .ref (jx a56 6)]) (by rw [ea57]; rfl) ?_
  refine n_arr B hH hS ja57 5 (kd := 100) (n := 16) (by decide) (by decide) (List.mem_of_getElem? (i := 5) rfl) rfl dX16_growLook_30 ?_
  refine lv_iload_n B.1 B.2.1 dX16_growLook_33 rfl (lv_at hl 3 rfl) ?_
  obtain ⟨q7, h⟩ := h
  refine x_iald B K.2.1 hH (hS.ja ja57 (k := 5) (kd := 100) (n := 16) (by decide)) (by decide) q7 dX16_growLook_34 ?_
  obtain ⟨q8, h⟩ := h
  refine x_iald B K.2.1 hH (hS.ja ja56 (k := 6) (kd := 100) (n := 16) (by decide)) (by decide) q8 dX16_growLook_35 ?_
  refine lv_istore (lv' := [(6, .int (i32 (gI σ (jx a56 6) (gI σ (jx a57 5) v2.toNat).toNat))), (5, .int (i32 (gI σ (jx a54 6) (gI σ (jx a55 4) v2.toNat).toNat))), (0, .ref rm), (1, .int (i32 v1)), (2, .int (i32 v2)), (3, .long v3)]) B.1 B.2.1 dX16_growLook_36 hl (by decide) rfl (fun ls hl => ?_)
  refine lv_aload_n B.1 B.2.1 dX16_growLook_38 rfl (lv_at hl 2 rfl) ?_
  refine lv_iload_n B.1 B.2.1 dX16_growLook_39 rfl (lv_at hl 3 rfl) ?_
  refine lv_iload B.1 B.2.1 dX16_growLook_40 (lv_at hl 1 rfl) ?_
  refine lv_lload_n B.1 B.2.1 dX16_growLook_42 rfl (lv_at hl 5 rfl) ?_
  refine c_V B hH hl hc K.2.2.1 (C := RX16) (T := TX16) (N := 123) (ci := 16) (As := [.int (i32 v1), .int (i32 (gI σ (jx a54 6) (gI σ (jx a55 4) v2.toNat).toNat)), .long v3]) (ok_X16_leastWaiting K.2.1 σ v1 (gI σ (jx a54 6) (gI σ (jx a55 4) v2.toNat).toNat) v3 g1 (hGσ _ _) hGσ hS h) wc_X16_636 3 hd_X16_leastWaiting ⟨Nat.le_trans (Nat.le_of_ble_eq_true rfl) K.2.2.2.1, Nat.le_trans (Nat.le_of_ble_eq_true rfl) K.2.2.2.2.1⟩ hS.1.1 hS.1.2 (by decide) rfl rfl (rest := []) rfl (Nat.le_of_ble_eq_true rfl) dX16_growLook_43 (fun σ58 w hq => ?_) (fun σ9 E9 hx9 => hX σ9 E9 _ _ _ (tb_out K.2.2.2.2.2 rfl) hx9.1 hx9.2.1 hx9.2.2)
  obtain ⟨r59, rfl, gr59, h, hGσ58, hS⟩ := hq
  intro H locs ls hH hl hc
  refine W.eq (g2 := F0 m 46 ls [.int (i32 r59)]) (rfl) ?_
  try dsimp only at h
  refine lv_istore (lv' := [(7, .int (i32 r59)), (6, .int (i32 (gI σ (jx a56 6) (gI σ (jx a57 5) v2.toNat).toNat))), (5, .int (i32 (gI σ (jx a54 6) (gI σ (jx a55 4) v2.toNat).toNat))), (0, .ref rm), (1, .int (i32 v1)), (2, .int (i32 v2)), (3, .long v3)]) B.1 B.2.1 dX16_growLook_46 hl (by decide) rfl (fun ls hl => ?_)
  obtain ⟨n9, h⟩ := h
  exact al_X16_growLook_48 K hQ hX n9 _ _ _ _ _ _ _ g1 g2 (hGσ _ _) (hGσ _ _) gr59 h hGσ58 hS _ _ _ hH (lv_sub (l' := [(0, .ref rm), (1, .int (i32 v1)), (2, .int (i32 v2)), (3, .long v3), (5, .int (i32 (gI σ (jx a54 6) (gI σ (jx a55 4) v2.toNat).toNat))), (6, .int (i32 (gI σ (jx a56 6) (gI σ (jx a57 5) v2.toNat).toNat))), (7, .int (i32 r59))]) hl [3, 4, 5, 6, 2, 1, 0] rfl) hc
theorem ok_X16_growLook (hT : Tys cA tys) {Q : Sg → Unit → Prop} {X : Sg → String → Prop} (σ : Sg) (v1 : Int) (v2 : Int) (v3 : Int64) (g1 : rng v1) (g2 : rng v2) (hG : RG σ) (hS : Shp dm ra jx rm σ) (h : wp_X16_growLook ra jx rm v1 v2 v3 σ Q X) : Ok l D cA tys A yX16_growLook (.code yX16_growLook cX16_growLook 12 none) 3 81 [.ref rm, .int (i32 v1), .int (i32 v2), .long v3] σ (QnV dm ra jx rm Q) (QxR dm ra jx rm X) := by
  unfold wp_X16_growLook at h
  exact ok_V (plainFor_of_name (by decide)) (by exact Nat.le_of_ble_eq_true rfl) hT (fun p e R s m args below meth c K hQ hX H locs ls hH hl hc => a_X16_growLook_0 K hQ hX σ v1 v2 v3 g1 g2 h hG hS H locs ls hH (lv_sub (l' := [(0, .ref rm), (1, .int (i32 v1)), (2, .int (i32 v2)), (3, .long v3)]) hl [0, 1, 2, 3] rfl) hc)
theorem dX16_two_0 : decode cX16_two 0 = .ok (.iload_n 1, 1) := by decide +kernel
theorem dX16_two_1 : decode cX16_two 1 = .ok (.bipush 6, 2) := by decide +kernel
theorem dX16_two_3 : decode cX16_two 3 = .ok (.if_icmp .eq 9, 3) := by decide +kernel
theorem dX16_two_6 : decode cX16_two 6 = .ok (.iload_n 1, 1) := by decide +kernel
theorem dX16_two_7 : decode cX16_two 7 = .ok (.bipush 7, 2) := by decide +kernel
theorem dX16_two_9 : decode cX16_two 9 = .ok (.if_icmp .ne 17, 3) := by decide +kernel
theorem dX16_two_12 : decode cX16_two 12 = .ok (.lload 4, 2) := by decide +kernel
theorem dX16_two_14 : decode cX16_two 14 = .ok (.lconst 0, 1) := by decide +kernel
theorem dX16_two_15 : decode cX16_two 15 = .ok (.lcmp, 1) := by decide +kernel
theorem dX16_two_16 : decode cX16_two 16 = .ok (.ifCond .ne 10, 3) := by decide +kernel
theorem dX16_two_19 : decode cX16_two 19 = .ok (.aload_n 0, 1) := by decide +kernel
theorem dX16_two_20 : decode cX16_two 20 = .ok (.iconst 1, 1) := by decide +kernel
theorem dX16_two_21 : decode cX16_two 21 = .ok (.putfield 330, 3) := by decide +kernel
theorem dX16_two_24 : decode cX16_two 24 = .ok (.lconst 0, 1) := by decide +kernel
theorem dX16_two_25 : decode cX16_two 25 = .ok (.lreturn, 1) := by decide +kernel
theorem dX16_two_26 : decode cX16_two 26 = .ok (.iload_n 1, 1) := by decide +kernel
theorem dX16_two_27 : decode cX16_two 27 = .ok (.tableswitch 106 3 9 #[41, 48, 55, 62, 69, 76, 91], 41) := by decide +kernel
theorem dX16_two_68 : decode cX16_two 68 = .ok (.lload_n 2, 1) := by decide +kernel
theorem dX16_two_69 : decode cX16_two 69 = .ok (.lload 4, 2) := by decide +kernel
theorem dX16_two_71 : decode cX16_two 71 = .ok (.ladd, 1) := by decide +kernel
theorem dX16_two_72 : decode cX16_two 72 = .ok (.goto 73, 3) := by decide +kernel
theorem dX16_two_75 : decode cX16_two 75 = .ok (.lload_n 2, 1) := by decide +kernel
theorem dX16_two_76 : decode cX16_two 76 = .ok (.lload 4, 2) := by decide +kernel
theorem dX16_two_78 : decode cX16_two 78 = .ok (.lsub, 1) := by decide +kernel
theorem dX16_two_79 : decode cX16_two 79 = .ok (.goto 66, 3) := by decide +kernel
theorem dX16_two_82 : decode cX16_two 82 = .ok (.lload_n 2, 1) := by decide +kernel
theorem dX16_two_83 : decode cX16_two 83 = .ok (.lload 4, 2) := by decide +kernel
theorem dX16_two_85 : decode cX16_two 85 = .ok (.lmul, 1) := by decide +kernel
theorem dX16_two_86 : decode cX16_two 86 = .ok (.goto 59, 3) := by decide +kernel
theorem dX16_two_89 : decode cX16_two 89 = .ok (.lload_n 2, 1) := by decide +kernel
theorem dX16_two_90 : decode cX16_two 90 = .ok (.lload 4, 2) := by decide +kernel
theorem dX16_two_92 : decode cX16_two 92 = .ok (.ldiv, 1) := by decide +kernel
theorem dX16_two_93 : decode cX16_two 93 = .ok (.goto 52, 3) := by decide +kernel
theorem dX16_two_96 : decode cX16_two 96 = .ok (.lload_n 2, 1) := by decide +kernel
theorem dX16_two_97 : decode cX16_two 97 = .ok (.lload 4, 2) := by decide +kernel
theorem dX16_two_99 : decode cX16_two 99 = .ok (.lrem, 1) := by decide +kernel
theorem dX16_two_100 : decode cX16_two 100 = .ok (.goto 45, 3) := by decide +kernel
theorem dX16_two_103 : decode cX16_two 103 = .ok (.lload_n 2, 1) := by decide +kernel
theorem dX16_two_104 : decode cX16_two 104 = .ok (.lload 4, 2) := by decide +kernel
theorem dX16_two_106 : decode cX16_two 106 = .ok (.lcmp, 1) := by decide +kernel
theorem dX16_two_107 : decode cX16_two 107 = .ok (.ifCond .ge 7, 3) := by decide +kernel
theorem dX16_two_110 : decode cX16_two 110 = .ok (.lconst 1, 1) := by decide +kernel
theorem dX16_two_111 : decode cX16_two 111 = .ok (.goto 34, 3) := by decide +kernel
theorem dX16_two_114 : decode cX16_two 114 = .ok (.lconst 0, 1) := by decide +kernel
theorem dX16_two_115 : decode cX16_two 115 = .ok (.goto 30, 3) := by decide +kernel
theorem dX16_two_118 : decode cX16_two 118 = .ok (.lload_n 2, 1) := by decide +kernel
theorem dX16_two_119 : decode cX16_two 119 = .ok (.lload 4, 2) := by decide +kernel
theorem dX16_two_121 : decode cX16_two 121 = .ok (.lcmp, 1) := by decide +kernel
theorem dX16_two_122 : decode cX16_two 122 = .ok (.ifCond .le 7, 3) := by decide +kernel
theorem dX16_two_125 : decode cX16_two 125 = .ok (.lconst 1, 1) := by decide +kernel
theorem dX16_two_126 : decode cX16_two 126 = .ok (.goto 19, 3) := by decide +kernel
theorem dX16_two_129 : decode cX16_two 129 = .ok (.lconst 0, 1) := by decide +kernel
theorem dX16_two_130 : decode cX16_two 130 = .ok (.goto 15, 3) := by decide +kernel
theorem dX16_two_133 : decode cX16_two 133 = .ok (.lload_n 2, 1) := by decide +kernel
theorem dX16_two_134 : decode cX16_two 134 = .ok (.lload 4, 2) := by decide +kernel
theorem dX16_two_136 : decode cX16_two 136 = .ok (.lcmp, 1) := by decide +kernel
theorem dX16_two_137 : decode cX16_two 137 = .ok (.ifCond .ne 7, 3) := by decide +kernel
theorem dX16_two_140 : decode cX16_two 140 = .ok (.lconst 1, 1) := by decide +kernel
theorem dX16_two_141 : decode cX16_two 141 = .ok (.goto 4, 3) := by decide +kernel
theorem dX16_two_144 : decode cX16_two 144 = .ok (.lconst 0, 1) := by decide +kernel
theorem dX16_two_145 : decode cX16_two 145 = .ok (.lreturn, 1) := by decide +kernel
set_option maxRecDepth 20000 in
theorem a_X16_two_145 {Q : Sg → Int64 → Prop} {X : Sg → String → Prop} (K : MC R p s m args c cX16_two 6 RX16 D cA tys A n0 s0 0 0 []) (hQ : HQJ p l e R s m args below meth c cX16_two D cA A n0 s0 QM dm ra jx rm Q) (hX : HX p l e R s m args below meth c 6 D cA A n0 s0 QM dm ra jx rm X) : ∀ (σ : Sg) (u0 : Int64), w_X16_two_145 ra jx rm Q X σ u0 → RG σ → Shp dm ra jx rm σ → JJ p l e R s m args below meth c 6 D cA A n0 s0 QM σ 145 [(0, .ref rm)] [.long u0] := by
  intro σ u0 h hGσ hS H locs ls hH hl hc
  have B := K.1
  unfold w_X16_two_145 at h
  exact hQ _ _ _ _ _ _ dX16_two_145 hH hc h hGσ hS
set_option maxRecDepth 20000 in
theorem a_X16_two_68 {Q : Sg → Int64 → Prop} {X : Sg → String → Prop} (K : MC R p s m args c cX16_two 6 RX16 D cA tys A n0 s0 0 0 []) (hQ : HQJ p l e R s m args below meth c cX16_two D cA A n0 s0 QM dm ra jx rm Q) (hX : HX p l e R s m args below meth c 6 D cA A n0 s0 QM dm ra jx rm X) : ∀ (σ : Sg) (v2 : Int64) (v4 : Int64), w_X16_two_68 ra jx rm Q X σ v2 v4 → RG σ → Shp dm ra jx rm σ → JJ p l e R s m args below meth c 6 D cA A n0 s0 QM σ 68 [(0, .ref rm), (2, .long v2), (4, .long v4)] [] := by
  intro σ v2 v4 h hGσ hS H locs ls hH hl hc
  have B := K.1
  unfold w_X16_two_68 at h
  refine lv_lload_n B.1 B.2.1 dX16_two_68 rfl (lv_at hl 1 rfl) ?_
  refine lv_lload B.1 B.2.1 dX16_two_69 (lv_at hl 2 rfl) ?_
  refine lv_ladd B.1 B.2.1 dX16_two_71 ?_
  refine lv_goto (tgt := 145) B.1 B.2.1 dX16_two_72 (by decide) ?_
  exact a_X16_two_145 K hQ hX _ _ h hGσ hS _ _ _ hH (lv_sub (l' := [(0, .ref rm)]) hl [0] rfl) hc
set_option maxRecDepth 20000 in
theorem a_X16_two_75 {Q : Sg → Int64 → Prop} {X : Sg → String → Prop} (K : MC R p s m args c cX16_two 6 RX16 D cA tys A n0 s0 0 0 []) (hQ : HQJ p l e R s m args below meth c cX16_two D cA A n0 s0 QM dm ra jx rm Q) (hX : HX p l e R s m args below meth c 6 D cA A n0 s0 QM dm ra jx rm X) : ∀ (σ : Sg) (v2 : Int64) (v4 : Int64), w_X16_two_75 ra jx rm Q X σ v2 v4 → RG σ → Shp dm ra jx rm σ → JJ p l e R s m args below meth c 6 D cA A n0 s0 QM σ 75 [(0, .ref rm), (2, .long v2), (4, .long v4)] [] := by
  intro σ v2 v4 h hGσ hS H locs ls hH hl hc
  have B := K.1
  unfold w_X16_two_75 at h
  refine lv_lload_n B.1 B.2.1 dX16_two_75 rfl (lv_at hl 1 rfl) ?_
  refine lv_lload B.1 B.2.1 dX16_two_76 (lv_at hl 2 rfl) ?_
  refine lv_lsub B.1 B.2.1 dX16_two_78 ?_
  refine lv_goto (tgt := 145) B.1 B.2.1 dX16_two_79 (by decide) ?_
  exact a_X16_two_145 K hQ hX _ _ h hGσ hS _ _ _ hH (lv_sub (l' := [(0, .ref rm)]) hl [0] rfl) hc
set_option maxRecDepth 20000 in
theorem a_X16_two_82 {Q : Sg → Int64 → Prop} {X : Sg → String → Prop} (K : MC R p s m args c cX16_two 6 RX16 D cA tys A n0 s0 0 0 []) (hQ : HQJ p l e R s m args below meth c cX16_two D cA A n0 s0 QM dm ra jx rm Q) (hX : HX p l e R s m args below meth c 6 D cA A n0 s0 QM dm ra jx rm X) : ∀ (σ : Sg) (v2 : Int64) (v4 : Int64), w_X16_two_82 ra jx rm Q X σ v2 v4 → RG σ → Shp dm ra jx rm σ → JJ p l e R s m args below meth c 6 D cA A n0 s0 QM σ 82 [(0, .ref rm), (2, .long v2), (4, .long v4)] [] := by
  intro σ v2 v4 h hGσ hS H locs ls hH hl hc
  have B := K.1
  unfold w_X16_two_82 at h
  refine lv_lload_n B.1 B.2.1 dX16_two_82 rfl (lv_at hl 1 rfl) ?_
  refine lv_lload B.1 B.2.1 dX16_two_83 (lv_at hl 2 rfl) ?_
  refine lv_lmul B.1 B.2.1 dX16_two_85 ?_
  refine lv_goto (tgt := 145) B.1 B.2.1 dX16_two_86 (by decide) ?_
  exact a_X16_two_145 K hQ hX _ _ h hGσ hS _ _ _ hH (lv_sub (l' := [(0, .ref rm)]) hl [0] rfl) hc
set_option maxRecDepth 20000 in
theorem a_X16_two_89 {Q : Sg → Int64 → Prop} {X : Sg → String → Prop} (K : MC R p s m args c cX16_two 6 RX16 D cA tys A n0 s0 0 0 []) (hQ : HQJ p l e R s m args below meth c cX16_two D cA A n0 s0 QM dm ra jx rm Q) (hX : HX p l e R s m args below meth c 6 D cA A n0 s0 QM dm ra jx rm X) : ∀ (σ : Sg) (v2 : Int64) (v4 : Int64), w_X16_two_89 ra jx rm Q X σ v2 v4 → RG σ → Shp dm ra jx rm σ → JJ p l e R s m args below meth c 6 D cA A n0 s0 QM σ 89 [(0, .ref rm), (2, .long v2), (4, .long v4)] [] := by
  intro σ v2 v4 h hGσ hS H locs ls hH hl hc
  have B := K.1
  unfold w_X16_two_89 at h
  refine lv_lload_n B.1 B.2.1 dX16_two_89 rfl (lv_at hl 1 rfl) ?_
  refine lv_lload B.1 B.2.1 dX16_two_90 (lv_at hl 2 rfl) ?_
  obtain ⟨q1, h⟩ := h
  refine lv_ldiv B.1 B.2.1 dX16_two_92 q1 ?_
  refine lv_goto (tgt := 145) B.1 B.2.1 dX16_two_93 (by decide) ?_
  exact a_X16_two_145 K hQ hX _ _ h hGσ hS _ _ _ hH (lv_sub (l' := [(0, .ref rm)]) hl [0] rfl) hc
set_option maxRecDepth 20000 in
theorem a_X16_two_96 {Q : Sg → Int64 → Prop} {X : Sg → String → Prop} (K : MC R p s m args c cX16_two 6 RX16 D cA tys A n0 s0 0 0 []) (hQ : HQJ p l e R s m args below meth c cX16_two D cA A n0 s0 QM dm ra jx rm Q) (hX : HX p l e R s m args below meth c 6 D cA A n0 s0 QM dm ra jx rm X) : ∀ (σ : Sg) (v2 : Int64) (v4 : Int64), w_X16_two_96 ra jx rm Q X σ v2 v4 → RG σ → Shp dm ra jx rm σ → JJ p l e R s m args below meth c 6 D cA A n0 s0 QM σ 96 [(0, .ref rm), (2, .long v2), (4, .long v4)] [] := by
  intro σ v2 v4 h hGσ hS H locs ls hH hl hc
  have B := K.1
  unfold w_X16_two_96 at h
  refine lv_lload_n B.1 B.2.1 dX16_two_96 rfl (lv_at hl 1 rfl) ?_
  refine lv_lload B.1 B.2.1 dX16_two_97 (lv_at hl 2 rfl) ?_
  obtain ⟨q1, h⟩ := h
  refine lv_lrem B.1 B.2.1 dX16_two_99 q1 ?_
  refine lv_goto (tgt := 145) B.1 B.2.1 dX16_two_100 (by decide) ?_
  exact a_X16_two_145 K hQ hX _ _ h hGσ hS _ _ _ hH (lv_sub (l' := [(0, .ref rm)]) hl [0] rfl) hc
set_option maxRecDepth 20000 in
theorem a_X16_two_114 {Q : Sg → Int64 → Prop} {X : Sg → String → Prop} (K : MC R p s m args c cX16_two 6 RX16 D cA tys A n0 s0 0 0 []) (hQ : HQJ p l e R s m args below meth c cX16_two D cA A n0 s0 QM dm ra jx rm Q) (hX : HX p l e R s m args below meth c 6 D cA A n0 s0 QM dm ra jx rm X) : ∀ (σ : Sg), w_X16_two_114 ra jx rm Q X σ → RG σ → Shp dm ra jx rm σ → JJ p l e R s m args below meth c 6 D cA A n0 s0 QM σ 114 [(0, .ref rm)] [] := by
  intro σ h hGσ hS H locs ls hH hl hc
  have B := K.1
  unfold w_X16_two_114 at h
  refine lv_lconst (v := 0) B.1 B.2.1 dX16_two_114 (by decide) ?_
  refine lv_goto (tgt := 145) B.1 B.2.1 dX16_two_115 (by decide) ?_
  exact a_X16_two_145 K hQ hX _ _ h hGσ hS _ _ _ hH (lv_sub (l' := [(0, .ref rm)]) hl [0] rfl) hc
set_option maxRecDepth 20000 in
theorem a_X16_two_110 {Q : Sg → Int64 → Prop} {X : Sg → String → Prop} (K : MC R p s m args c cX16_two 6 RX16 D cA tys A n0 s0 0 0 []) (hQ : HQJ p l e R s m args below meth c cX16_two D cA A n0 s0 QM dm ra jx rm Q) (hX : HX p l e R s m args below meth c 6 D cA A n0 s0 QM dm ra jx rm X) : ∀ (σ : Sg), w_X16_two_110 ra jx rm Q X σ → RG σ → Shp dm ra jx rm σ → JJ p l e R s m args below meth c 6 D cA A n0 s0 QM σ 110 [(0, .ref rm)] [] := by
  intro σ h hGσ hS H locs ls hH hl hc
  have B := K.1
  unfold w_X16_two_110 at h
  refine lv_lconst (v := 1) B.1 B.2.1 dX16_two_110 (by decide) ?_
  refine lv_goto (tgt := 145) B.1 B.2.1 dX16_two_111 (by decide) ?_
  exact a_X16_two_145 K hQ hX _ _ h hGσ hS _ _ _ hH (lv_sub (l' := [(0, .ref rm)]) hl [0] rfl) hc
set_option maxRecDepth 20000 in
theorem a_X16_two_103 {Q : Sg → Int64 → Prop} {X : Sg → String → Prop} (K : MC R p s m args c cX16_two 6 RX16 D cA tys A n0 s0 0 0 []) (hQ : HQJ p l e R s m args below meth c cX16_two D cA A n0 s0 QM dm ra jx rm Q) (hX : HX p l e R s m args below meth c 6 D cA A n0 s0 QM dm ra jx rm X) : ∀ (σ : Sg) (v2 : Int64) (v4 : Int64), w_X16_two_103 ra jx rm Q X σ v2 v4 → RG σ → Shp dm ra jx rm σ → JJ p l e R s m args below meth c 6 D cA A n0 s0 QM σ 103 [(0, .ref rm), (2, .long v2), (4, .long v4)] [] := by
  intro σ v2 v4 h hGσ hS H locs ls hH hl hc
  have B := K.1
  unfold w_X16_two_103 at h
  refine lv_lload_n B.1 B.2.1 dX16_two_103 rfl (lv_at hl 1 rfl) ?_
  refine lv_lload B.1 B.2.1 dX16_two_104 (lv_at hl 2 rfl) ?_
  refine W.lcmp B.1 B.2.1 dX16_two_106 ?_
  refine lv_if_ge (tgt := 114) B.1 B.2.1 dX16_two_107 (by decide) (fun h9 => ?_) (fun h9 => ?_)
  · rw [if_pos ((lg_cmp_ge _ _).mp h9)] at h
    exact a_X16_two_114 K hQ hX _ h hGσ hS _ _ _ hH (lv_sub (l' := [(0, .ref rm)]) hl [0] rfl) hc
  · rw [if_neg (fun q => h9 ((lg_cmp_ge _ _).mpr q))] at h
    exact a_X16_two_110 K hQ hX _ h hGσ hS _ _ _ hH (lv_sub (l' := [(0, .ref rm)]) hl [0] rfl) hc
set_option maxRecDepth 20000 in
theorem a_X16_two_129 {Q : Sg → Int64 → Prop} {X : Sg → String → Prop} (K : MC R p s m args c cX16_two 6 RX16 D cA tys A n0 s0 0 0 []) (hQ : HQJ p l e R s m args below meth c cX16_two D cA A n0 s0 QM dm ra jx rm Q) (hX : HX p l e R s m args below meth c 6 D cA A n0 s0 QM dm ra jx rm X) : ∀ (σ : Sg), w_X16_two_129 ra jx rm Q X σ → RG σ → Shp dm ra jx rm σ → JJ p l e R s m args below meth c 6 D cA A n0 s0 QM σ 129 [(0, .ref rm)] [] := by
  intro σ h hGσ hS H locs ls hH hl hc
  have B := K.1
  unfold w_X16_two_129 at h
  refine lv_lconst (v := 0) B.1 B.2.1 dX16_two_129 (by decide) ?_
  refine lv_goto (tgt := 145) B.1 B.2.1 dX16_two_130 (by decide) ?_
  exact a_X16_two_145 K hQ hX _ _ h hGσ hS _ _ _ hH (lv_sub (l' := [(0, .ref rm)]) hl [0] rfl) hc
set_option maxRecDepth 20000 in
theorem a_X16_two_125 {Q : Sg → Int64 → Prop} {X : Sg → String → Prop} (K : MC R p s m args c cX16_two 6 RX16 D cA tys A n0 s0 0 0 []) (hQ : HQJ p l e R s m args below meth c cX16_two D cA A n0 s0 QM dm ra jx rm Q) (hX : HX p l e R s m args below meth c 6 D cA A n0 s0 QM dm ra jx rm X) : ∀ (σ : Sg), w_X16_two_125 ra jx rm Q X σ → RG σ → Shp dm ra jx rm σ → JJ p l e R s m args below meth c 6 D cA A n0 s0 QM σ 125 [(0, .ref rm)] [] := by
  intro σ h hGσ hS H locs ls hH hl hc
  have B := K.1
  unfold w_X16_two_125 at h
  refine lv_lconst (v := 1) B.1 B.2.1 dX16_two_125 (by decide) ?_
  refine lv_goto (tgt := 145) B.1 B.2.1 dX16_two_126 (by decide) ?_
  exact a_X16_two_145 K hQ hX _ _ h hGσ hS _ _ _ hH (lv_sub (l' := [(0, .ref rm)]) hl [0] rfl) hc
set_option maxRecDepth 20000 in
theorem a_X16_two_118 {Q : Sg → Int64 → Prop} {X : Sg → String → Prop} (K : MC R p s m args c cX16_two 6 RX16 D cA tys A n0 s0 0 0 []) (hQ : HQJ p l e R s m args below meth c cX16_two D cA A n0 s0 QM dm ra jx rm Q) (hX : HX p l e R s m args below meth c 6 D cA A n0 s0 QM dm ra jx rm X) : ∀ (σ : Sg) (v2 : Int64) (v4 : Int64), w_X16_two_118 ra jx rm Q X σ v2 v4 → RG σ → Shp dm ra jx rm σ → JJ p l e R s m args below meth c 6 D cA A n0 s0 QM σ 118 [(0, .ref rm), (2, .long v2), (4, .long v4)] [] := by
  intro σ v2 v4 h hGσ hS H locs ls hH hl hc
  have B := K.1
  unfold w_X16_two_118 at h
  refine lv_lload_n B.1 B.2.1 dX16_two_118 rfl (lv_at hl 1 rfl) ?_
  refine lv_lload B.1 B.2.1 dX16_two_119 (lv_at hl 2 rfl) ?_
  refine W.lcmp B.1 B.2.1 dX16_two_121 ?_
  refine lv_if_le (tgt := 129) B.1 B.2.1 dX16_two_122 (by decide) (fun h9 => ?_) (fun h9 => ?_)
  · rw [if_pos ((lg_cmp_le _ _).mp h9)] at h
    exact a_X16_two_129 K hQ hX _ h hGσ hS _ _ _ hH (lv_sub (l' := [(0, .ref rm)]) hl [0] rfl) hc
  · rw [if_neg (fun q => h9 ((lg_cmp_le _ _).mpr q))] at h
    exact a_X16_two_125 K hQ hX _ h hGσ hS _ _ _ hH (lv_sub (l' := [(0, .ref rm)]) hl [0] rfl) hc
set_option maxRecDepth 20000 in
theorem a_X16_two_144 {Q : Sg → Int64 → Prop} {X : Sg → String → Prop} (K : MC R p s m args c cX16_two 6 RX16 D cA tys A n0 s0 0 0 []) (hQ : HQJ p l e R s m args below meth c cX16_two D cA A n0 s0 QM dm ra jx rm Q) (hX : HX p l e R s m args below meth c 6 D cA A n0 s0 QM dm ra jx rm X) : ∀ (σ : Sg), w_X16_two_144 ra jx rm Q X σ → RG σ → Shp dm ra jx rm σ → JJ p l e R s m args below meth c 6 D cA A n0 s0 QM σ 144 [(0, .ref rm)] [] := by
  intro σ h hGσ hS H locs ls hH hl hc
  have B := K.1
  unfold w_X16_two_144 at h
  refine lv_lconst (v := 0) B.1 B.2.1 dX16_two_144 (by decide) ?_
  exact a_X16_two_145 K hQ hX _ _ h hGσ hS _ _ _ hH (lv_sub (l' := [(0, .ref rm)]) hl [0] rfl) hc
set_option maxRecDepth 20000 in
theorem a_X16_two_140 {Q : Sg → Int64 → Prop} {X : Sg → String → Prop} (K : MC R p s m args c cX16_two 6 RX16 D cA tys A n0 s0 0 0 []) (hQ : HQJ p l e R s m args below meth c cX16_two D cA A n0 s0 QM dm ra jx rm Q) (hX : HX p l e R s m args below meth c 6 D cA A n0 s0 QM dm ra jx rm X) : ∀ (σ : Sg), w_X16_two_140 ra jx rm Q X σ → RG σ → Shp dm ra jx rm σ → JJ p l e R s m args below meth c 6 D cA A n0 s0 QM σ 140 [(0, .ref rm)] [] := by
  intro σ h hGσ hS H locs ls hH hl hc
  have B := K.1
  unfold w_X16_two_140 at h
  refine lv_lconst (v := 1) B.1 B.2.1 dX16_two_140 (by decide) ?_
  refine lv_goto (tgt := 145) B.1 B.2.1 dX16_two_141 (by decide) ?_
  exact a_X16_two_145 K hQ hX _ _ h hGσ hS _ _ _ hH (lv_sub (l' := [(0, .ref rm)]) hl [0] rfl) hc
set_option maxRecDepth 20000 in
theorem a_X16_two_133 {Q : Sg → Int64 → Prop} {X : Sg → String → Prop} (K : MC R p s m args c cX16_two 6 RX16 D cA tys A n0 s0 0 0 []) (hQ : HQJ p l e R s m args below meth c cX16_two D cA A n0 s0 QM dm ra jx rm Q) (hX : HX p l e R s m args below meth c 6 D cA A n0 s0 QM dm ra jx rm X) : ∀ (σ : Sg) (v2 : Int64) (v4 : Int64), w_X16_two_133 ra jx rm Q X σ v2 v4 → RG σ → Shp dm ra jx rm σ → JJ p l e R s m args below meth c 6 D cA A n0 s0 QM σ 133 [(0, .ref rm), (2, .long v2), (4, .long v4)] [] := by
  intro σ v2 v4 h hGσ hS H locs ls hH hl hc
  have B := K.1
  unfold w_X16_two_133 at h
  refine lv_lload_n B.1 B.2.1 dX16_two_133 rfl (lv_at hl 1 rfl) ?_
  refine lv_lload B.1 B.2.1 dX16_two_134 (lv_at hl 2 rfl) ?_
  refine W.lcmp B.1 B.2.1 dX16_two_136 ?_
  refine lv_if_ne (tgt := 144) B.1 B.2.1 dX16_two_137 (by decide) (fun h9 => ?_) (fun h9 => ?_)
  · rw [if_pos (fun q => h9 ((lg_cmp_eq _ _).mpr q))] at h
    exact a_X16_two_144 K hQ hX _ h hGσ hS _ _ _ hH (lv_sub (l' := [(0, .ref rm)]) hl [0] rfl) hc
  · rw [if_neg (fun q => q ((lg_cmp_eq _ _).mp h9))] at h
    exact a_X16_two_140 K hQ hX _ h hGσ hS _ _ _ hH (lv_sub (l' := [(0, .ref rm)]) hl [0] rfl) hc
set_option maxRecDepth 20000 in
theorem a_X16_two_26 {Q : Sg → Int64 → Prop} {X : Sg → String → Prop} (K : MC R p s m args c cX16_two 6 RX16 D cA tys A n0 s0 0 0 []) (hQ : HQJ p l e R s m args below meth c cX16_two D cA A n0 s0 QM dm ra jx rm Q) (hX : HX p l e R s m args below meth c 6 D cA A n0 s0 QM dm ra jx rm X) : ∀ (σ : Sg) (v1 : Int) (v2 : Int64) (v4 : Int64) (g1 : rng v1), w_X16_two_26 ra jx rm Q X σ v1 v2 v4 → RG σ → Shp dm ra jx rm σ → JJ p l e R s m args below meth c 6 D cA A n0 s0 QM σ 26 [(0, .ref rm), (1, .int (i32 v1)), (2, .long v2), (4, .long v4)] [] := by
  intro σ v1 v2 v4 g1 h hGσ hS H locs ls hH hl hc
  have B := K.1
  unfold w_X16_two_26 at h
  refine lv_iload_n B.1 B.2.1 dX16_two_26 rfl (lv_at hl 1 rfl) ?_
  rcases Classical.em (v1 = 3) with e9 | e9
  · rw [if_pos e9] at h
    refine lv_tableIn (off := 41) (tgt := 68) B.1 B.2.1 dX16_two_27 (by rw [i32_toInt g1, e9]; decide) (by rw [i32_toInt g1, e9]; decide) (by rw [i32_toInt g1, e9]; rfl) (by decide) ?_
    exact a_X16_two_68 K hQ hX _ _ _ h hGσ hS _ _ _ hH (lv_sub (l' := [(0, .ref rm), (2, .long v2), (4, .long v4)]) hl [0, 2, 3] rfl) hc
  rw [if_neg e9] at h
  have k1 := e9
  rcases Classical.em (v1 = 4) with e9 | e9
  · rw [if_pos e9] at h
    refine lv_tableIn (off := 48) (tgt := 75) B.1 B.2.1 dX16_two_27 (by rw [i32_toInt g1, e9]; decide) (by rw [i32_toInt g1, e9]; decide) (by rw [i32_toInt g1, e9]; rfl) (by decide) ?_
    exact a_X16_two_75 K hQ hX _ _ _ h hGσ hS _ _ _ hH (lv_sub (l' := [(0, .ref rm), (2, .long v2), (4, .long v4)]) hl [0, 2, 3] rfl) hc
  rw [if_neg e9] at h
  have k2 := e9
  rcases Classical.em (v1 = 5) with e9 | e9
  · rw [if_pos e9] at h
    refine lv_tableIn (off := 55) (tgt := 82) B.1 B.2.1 dX16_two_27 (by rw [i32_toInt g1, e9]; decide) (by rw [i32_toInt g1, e9]; decide) (by rw [i32_toInt g1, e9]; rfl) (by decide) ?_
    exact a_X16_two_82 K hQ hX _ _ _ h hGσ hS _ _ _ hH (lv_sub (l' := [(0, .ref rm), (2, .long v2), (4, .long v4)]) hl [0, 2, 3] rfl) hc
  rw [if_neg e9] at h
  have k3 := e9
  rcases Classical.em (v1 = 6) with e9 | e9
  · rw [if_pos e9] at h
    refine lv_tableIn (off := 62) (tgt := 89) B.1 B.2.1 dX16_two_27 (by rw [i32_toInt g1, e9]; decide) (by rw [i32_toInt g1, e9]; decide) (by rw [i32_toInt g1, e9]; rfl) (by decide) ?_
    exact a_X16_two_89 K hQ hX _ _ _ h hGσ hS _ _ _ hH (lv_sub (l' := [(0, .ref rm), (2, .long v2), (4, .long v4)]) hl [0, 2, 3] rfl) hc
  rw [if_neg e9] at h
  have k4 := e9
  rcases Classical.em (v1 = 7) with e9 | e9
  · rw [if_pos e9] at h
    refine lv_tableIn (off := 69) (tgt := 96) B.1 B.2.1 dX16_two_27 (by rw [i32_toInt g1, e9]; decide) (by rw [i32_toInt g1, e9]; decide) (by rw [i32_toInt g1, e9]; rfl) (by decide) ?_
    exact a_X16_two_96 K hQ hX _ _ _ h hGσ hS _ _ _ hH (lv_sub (l' := [(0, .ref rm), (2, .long v2), (4, .long v4)]) hl [0, 2, 3] rfl) hc
  rw [if_neg e9] at h
  have k5 := e9
  rcases Classical.em (v1 = 8) with e9 | e9
  · rw [if_pos e9] at h
    refine lv_tableIn (off := 76) (tgt := 103) B.1 B.2.1 dX16_two_27 (by rw [i32_toInt g1, e9]; decide) (by rw [i32_toInt g1, e9]; decide) (by rw [i32_toInt g1, e9]; rfl) (by decide) ?_
    exact a_X16_two_103 K hQ hX _ _ _ h hGσ hS _ _ _ hH (lv_sub (l' := [(0, .ref rm), (2, .long v2), (4, .long v4)]) hl [0, 2, 3] rfl) hc
  rw [if_neg e9] at h
  have k6 := e9
  rcases Classical.em (v1 = 9) with e9 | e9
  · rw [if_pos e9] at h
    refine lv_tableIn (off := 91) (tgt := 118) B.1 B.2.1 dX16_two_27 (by rw [i32_toInt g1, e9]; decide) (by rw [i32_toInt g1, e9]; decide) (by rw [i32_toInt g1, e9]; rfl) (by decide) ?_
    exact a_X16_two_118 K hQ hX _ _ _ h hGσ hS _ _ _ hH (lv_sub (l' := [(0, .ref rm), (2, .long v2), (4, .long v4)]) hl [0, 2, 3] rfl) hc
  rw [if_neg e9] at h
  have k7 := e9
  rcases (show (v1 < 3 ∨ 9 < v1) ∨ False by omega) with e9 | e9
  · refine lv_tableOut (tgt := 133) B.1 B.2.1 dX16_two_27 (by rw [i32_toInt g1]; exact e9) (by decide) ?_
    exact a_X16_two_133 K hQ hX _ _ _ h hGσ hS _ _ _ hH (lv_sub (l' := [(0, .ref rm), (2, .long v2), (4, .long v4)]) hl [0, 2, 3] rfl) hc
  exact e9.elim
set_option maxRecDepth 20000 in
theorem a_X16_two_19 {Q : Sg → Int64 → Prop} {X : Sg → String → Prop} (K : MC R p s m args c cX16_two 6 RX16 D cA tys A n0 s0 0 0 []) (hQ : HQJ p l e R s m args below meth c cX16_two D cA A n0 s0 QM dm ra jx rm Q) (hX : HX p l e R s m args below meth c 6 D cA A n0 s0 QM dm ra jx rm X) : ∀ (σ : Sg), w_X16_two_19 ra jx rm Q X σ → RG σ → Shp dm ra jx rm σ → JJ p l e R s m args below meth c 6 D cA A n0 s0 QM σ 19 [(0, .ref rm)] [] := by
  intro σ h hGσ hS H locs ls hH hl hc
  have B := K.1
  unfold w_X16_two_19 at h
  refine lv_aload_n B.1 B.2.1 dX16_two_19 rfl (lv_at hl 0 rfl) ?_
  refine lv_iconst (v := i32 1) B.1 B.2.1 dX16_two_20 (by decide) ?_
  obtain ⟨σ3, eσ3⟩ : ∃ z, z = pI σ rm 21 1 := ⟨_, rfl⟩
  have h := h σ3 eσ3
  refine r_puti B hH hS 21 (ty := .boolean) (by decide) wf_X16_330 rfl rfl rfl rfl rfl rfl dX16_two_21 (fun H locs hH => ?_)
  have hH : Hd D cA A s (pI σ rm 21 1) H locs := hH
  rw [← eσ3] at hH
  have hGσ3 : RG σ3 := by rw [eσ3]; exact hGσ.pI (by unfold rng; omega)
  have hS : Shp dm ra jx rm σ3 := by rw [eσ3]; exact hS
  have hc : CB n0 s0 σ3 := by rw [eσ3]; exact hc
  rw [show gc σ = gc σ3 by rw [eσ3], show gs σ = gs σ3 by rw [eσ3]]
  refine lv_lconst (v := 0) B.1 B.2.1 dX16_two_24 (by decide) ?_
  exact hQ _ _ _ _ _ _ dX16_two_25 hH hc h hGσ3 hS
set_option maxRecDepth 20000 in
theorem a_X16_two_12 {Q : Sg → Int64 → Prop} {X : Sg → String → Prop} (K : MC R p s m args c cX16_two 6 RX16 D cA tys A n0 s0 0 0 []) (hQ : HQJ p l e R s m args below meth c cX16_two D cA A n0 s0 QM dm ra jx rm Q) (hX : HX p l e R s m args below meth c 6 D cA A n0 s0 QM dm ra jx rm X) : ∀ (σ : Sg) (v1 : Int) (v2 : Int64) (v4 : Int64) (g1 : rng v1), w_X16_two_12 ra jx rm Q X σ v1 v2 v4 → RG σ → Shp dm ra jx rm σ → JJ p l e R s m args below meth c 6 D cA A n0 s0 QM σ 12 [(0, .ref rm), (1, .int (i32 v1)), (2, .long v2), (4, .long v4)] [] := by
  intro σ v1 v2 v4 g1 h hGσ hS H locs ls hH hl hc
  have B := K.1
  unfold w_X16_two_12 at h
  refine lv_lload B.1 B.2.1 dX16_two_12 (lv_at hl 3 rfl) ?_
  refine lv_lconst (v := 0) B.1 B.2.1 dX16_two_14 (by decide) ?_
  refine W.lcmp B.1 B.2.1 dX16_two_15 ?_
  refine lv_if_ne (tgt := 26) B.1 B.2.1 dX16_two_16 (by decide) (fun h9 => ?_) (fun h9 => ?_)
  · rw [if_pos (fun q => h9 ((lg_cmp_eq _ _).mpr q))] at h
    exact a_X16_two_26 K hQ hX _ _ _ _ g1 h hGσ hS _ _ _ hH (lv_sub (l' := [(0, .ref rm), (1, .int (i32 v1)), (2, .long v2), (4, .long v4)]) hl [0, 1, 2, 3] rfl) hc
  · rw [if_neg (fun q => q ((lg_cmp_eq _ _).mp h9))] at h
    exact a_X16_two_19 K hQ hX _ h hGσ hS _ _ _ hH (lv_sub (l' := [(0, .ref rm)]) hl [0] rfl) hc
set_option maxRecDepth 20000 in
theorem a_X16_two_6 {Q : Sg → Int64 → Prop} {X : Sg → String → Prop} (K : MC R p s m args c cX16_two 6 RX16 D cA tys A n0 s0 0 0 []) (hQ : HQJ p l e R s m args below meth c cX16_two D cA A n0 s0 QM dm ra jx rm Q) (hX : HX p l e R s m args below meth c 6 D cA A n0 s0 QM dm ra jx rm X) : ∀ (σ : Sg) (v1 : Int) (v2 : Int64) (v4 : Int64) (g1 : rng v1), w_X16_two_6 ra jx rm Q X σ v1 v2 v4 → RG σ → Shp dm ra jx rm σ → JJ p l e R s m args below meth c 6 D cA A n0 s0 QM σ 6 [(0, .ref rm), (1, .int (i32 v1)), (2, .long v2), (4, .long v4)] [] := by
  intro σ v1 v2 v4 g1 h hGσ hS H locs ls hH hl hc
  have B := K.1
  unfold w_X16_two_6 at h
  refine lv_iload_n B.1 B.2.1 dX16_two_6 rfl (lv_at hl 1 rfl) ?_
  refine lv_bipush (v := i32 7) B.1 B.2.1 dX16_two_7 (by decide) ?_
  refine lv_icmp_ne (tgt := 26) B.1 B.2.1 dX16_two_9 (by decide) (fun h9 => ?_) (fun h9 => ?_)
  · rw [if_pos (fun q => h9 ((i32_eq g1 (by unfold rng; omega)).mpr q))] at h
    exact a_X16_two_26 K hQ hX _ _ _ _ g1 h hGσ hS _ _ _ hH (lv_sub (l' := [(0, .ref rm), (1, .int (i32 v1)), (2, .long v2), (4, .long v4)]) hl [0, 1, 2, 3] rfl) hc
  · rw [if_neg (fun q => q ((i32_eq g1 (by unfold rng; omega)).mp h9))] at h
    exact a_X16_two_12 K hQ hX _ _ _ _ g1 h hGσ hS _ _ _ hH (lv_sub (l' := [(0, .ref rm), (1, .int (i32 v1)), (2, .long v2), (4, .long v4)]) hl [0, 1, 2, 3] rfl) hc
set_option maxRecDepth 20000 in
theorem a_X16_two_0 {Q : Sg → Int64 → Prop} {X : Sg → String → Prop} (K : MC R p s m args c cX16_two 6 RX16 D cA tys A n0 s0 0 0 []) (hQ : HQJ p l e R s m args below meth c cX16_two D cA A n0 s0 QM dm ra jx rm Q) (hX : HX p l e R s m args below meth c 6 D cA A n0 s0 QM dm ra jx rm X) : ∀ (σ : Sg) (v1 : Int) (v2 : Int64) (v4 : Int64) (g1 : rng v1), w_X16_two_0 ra jx rm Q X σ v1 v2 v4 → RG σ → Shp dm ra jx rm σ → JJ p l e R s m args below meth c 6 D cA A n0 s0 QM σ 0 [(0, .ref rm), (1, .int (i32 v1)), (2, .long v2), (4, .long v4)] [] := by
  intro σ v1 v2 v4 g1 h hGσ hS H locs ls hH hl hc
  have B := K.1
  unfold w_X16_two_0 at h
  refine lv_iload_n B.1 B.2.1 dX16_two_0 rfl (lv_at hl 1 rfl) ?_
  refine lv_bipush (v := i32 6) B.1 B.2.1 dX16_two_1 (by decide) ?_
  refine lv_icmp_eq (tgt := 12) B.1 B.2.1 dX16_two_3 (by decide) (fun h9 => ?_) (fun h9 => ?_)
  · rw [if_pos ((i32_eq g1 (by unfold rng; omega)).mp h9)] at h
    exact a_X16_two_12 K hQ hX _ _ _ _ g1 h hGσ hS _ _ _ hH (lv_sub (l' := [(0, .ref rm), (1, .int (i32 v1)), (2, .long v2), (4, .long v4)]) hl [0, 1, 2, 3] rfl) hc
  · rw [if_neg (fun q => h9 ((i32_eq g1 (by unfold rng; omega)).mpr q))] at h
    exact a_X16_two_6 K hQ hX _ _ _ _ g1 h hGσ hS _ _ _ hH (lv_sub (l' := [(0, .ref rm), (1, .int (i32 v1)), (2, .long v2), (4, .long v4)]) hl [0, 1, 2, 3] rfl) hc
theorem ok_X16_two (hT : Tys cA tys) {Q : Sg → Int64 → Prop} {X : Sg → String → Prop} (σ : Sg) (v1 : Int) (v2 : Int64) (v4 : Int64) (g1 : rng v1) (hG : RG σ) (hS : Shp dm ra jx rm σ) (h : wp_X16_two ra jx rm v1 v2 v4 σ Q X) : Ok l D cA tys A yX16_two (.code yX16_two cX16_two 6 (some .long)) 0 0 [.ref rm, .int (i32 v1), .long v2, .long v4] σ (QnJ dm ra jx rm Q) (QxR dm ra jx rm X) := by
  unfold wp_X16_two at h
  exact ok_J (plainFor_of_name (by decide)) (by exact Nat.le_of_ble_eq_true rfl) hT (fun p e R s m args below meth c K hQ hX H locs ls hH hl hc => a_X16_two_0 K hQ hX σ v1 v2 v4 g1 h hG hS H locs ls hH (lv_sub (l' := [(0, .ref rm), (1, .int (i32 v1)), (2, .long v2), (4, .long v4)]) hl [0, 1, 2, 3] rfl) hc)
theorem dX16_worth_0 : decode cX16_worth 0 = .ok (.iconst 0, 1) := by decide +kernel
theorem dX16_worth_1 : decode cX16_worth 1 = .ok (.istore 7, 2) := by decide +kernel
theorem dX16_worth_3 : decode cX16_worth 3 = .ok (.iload_n 2, 1) := by decide +kernel
theorem dX16_worth_4 : decode cX16_worth 4 = .ok (.istore 8, 2) := by decide +kernel
theorem dX16_worth_6 : decode cX16_worth 6 = .ok (.aload_n 0, 1) := by decide +kernel
theorem dX16_worth_7 : decode cX16_worth 7 = .ok (.iconst 0, 1) := by decide +kernel
theorem dX16_worth_8 : decode cX16_worth 8 = .ok (.putfield 330, 3) := by decide +kernel
theorem dX16_worth_11 : decode cX16_worth 11 = .ok (.aload_n 1, 1) := by decide +kernel
theorem dX16_worth_12 : decode cX16_worth 12 = .ok (.getfield 333, 3) := by decide +kernel
theorem dX16_worth_15 : decode cX16_worth 15 = .ok (.iload 8, 2) := by decide +kernel
theorem dX16_worth_17 : decode cX16_worth 17 = .ok (.iaload, 1) := by decide +kernel
theorem dX16_worth_18 : decode cX16_worth 18 = .ok (.bipush 17, 2) := by decide +kernel
theorem dX16_worth_20 : decode cX16_worth 20 = .ok (.if_icmp .eq 352, 3) := by decide +kernel
theorem dX16_worth_23 : decode cX16_worth 23 = .ok (.aload_n 0, 1) := by decide +kernel
theorem dX16_worth_24 : decode cX16_worth 24 = .ok (.getfield 330, 3) := by decide +kernel
theorem dX16_worth_27 : decode cX16_worth 27 = .ok (.ifCond .ne 345, 3) := by decide +kernel
theorem dX16_worth_30 : decode cX16_worth 30 = .ok (.aload_n 1, 1) := by decide +kernel
theorem dX16_worth_31 : decode cX16_worth 31 = .ok (.getfield 333, 3) := by decide +kernel
theorem dX16_worth_34 : decode cX16_worth 34 = .ok (.iload 8, 2) := by decide +kernel
theorem dX16_worth_36 : decode cX16_worth 36 = .ok (.iaload, 1) := by decide +kernel
theorem dX16_worth_37 : decode cX16_worth 37 = .ok (.istore 9, 2) := by decide +kernel
theorem dX16_worth_39 : decode cX16_worth 39 = .ok (.aload_n 1, 1) := by decide +kernel
theorem dX16_worth_40 : decode cX16_worth 40 = .ok (.getfield 141, 3) := by decide +kernel
theorem dX16_worth_43 : decode cX16_worth 43 = .ok (.iload 8, 2) := by decide +kernel
theorem dX16_worth_45 : decode cX16_worth 45 = .ok (.laload, 1) := by decide +kernel
theorem dX16_worth_46 : decode cX16_worth 46 = .ok (.lstore 10, 2) := by decide +kernel
theorem dX16_worth_48 : decode cX16_worth 48 = .ok (.iinc 8 1, 3) := by decide +kernel
theorem dX16_worth_51 : decode cX16_worth 51 = .ok (.iload 9, 2) := by decide +kernel
theorem dX16_worth_53 : decode cX16_worth 53 = .ok (.tableswitch 282 0 16 #[83, 98, 120, 282, 282, 282, 282, 282, 282, 282, 282, 134, 156, 218, 246, 274, 187], 83) := by decide +kernel
theorem dX16_worth_136 : decode cX16_worth 136 = .ok (.aload_n 0, 1) := by decide +kernel
theorem dX16_worth_137 : decode cX16_worth 137 = .ok (.getfield 336, 3) := by decide +kernel
theorem dX16_worth_140 : decode cX16_worth 140 = .ok (.iload 7, 2) := by decide +kernel
theorem dX16_worth_142 : decode cX16_worth 142 = .ok (.iinc 7 1, 3) := by decide +kernel
theorem dX16_worth_145 : decode cX16_worth 145 = .ok (.lload 10, 2) := by decide +kernel
theorem dX16_worth_147 : decode cX16_worth 147 = .ok (.lastore, 1) := by decide +kernel
theorem dX16_worth_148 : decode cX16_worth 148 = .ok (.goto 221, 3) := by decide +kernel
theorem dX16_worth_151 : decode cX16_worth 151 = .ok (.aload_n 0, 1) := by decide +kernel
theorem dX16_worth_152 : decode cX16_worth 152 = .ok (.getfield 336, 3) := by decide +kernel
theorem dX16_worth_155 : decode cX16_worth 155 = .ok (.iload 7, 2) := by decide +kernel
theorem dX16_worth_157 : decode cX16_worth 157 = .ok (.iinc 7 1, 3) := by decide +kernel
theorem dX16_worth_160 : decode cX16_worth 160 = .ok (.aload 5, 2) := by decide +kernel
theorem dX16_worth_162 : decode cX16_worth 162 = .ok (.iload 6, 2) := by decide +kernel
theorem dX16_worth_164 : decode cX16_worth 164 = .ok (.lload 10, 2) := by decide +kernel
theorem dX16_worth_166 : decode cX16_worth 166 = .ok (.l2i, 1) := by decide +kernel
theorem dX16_worth_167 : decode cX16_worth 167 = .ok (.iadd, 1) := by decide +kernel
theorem dX16_worth_168 : decode cX16_worth 168 = .ok (.laload, 1) := by decide +kernel
theorem dX16_worth_169 : decode cX16_worth 169 = .ok (.lastore, 1) := by decide +kernel
theorem dX16_worth_170 : decode cX16_worth 170 = .ok (.goto 199, 3) := by decide +kernel
theorem dX16_worth_173 : decode cX16_worth 173 = .ok (.aload_n 0, 1) := by decide +kernel
theorem dX16_worth_174 : decode cX16_worth 174 = .ok (.getfield 336, 3) := by decide +kernel
theorem dX16_worth_177 : decode cX16_worth 177 = .ok (.iload 7, 2) := by decide +kernel
theorem dX16_worth_179 : decode cX16_worth 179 = .ok (.iinc 7 1, 3) := by decide +kernel
theorem dX16_worth_182 : decode cX16_worth 182 = .ok (.lload_n 3, 1) := by decide +kernel
theorem dX16_worth_183 : decode cX16_worth 183 = .ok (.lastore, 1) := by decide +kernel
theorem dX16_worth_184 : decode cX16_worth 184 = .ok (.goto 185, 3) := by decide +kernel
theorem dX16_worth_187 : decode cX16_worth 187 = .ok (.aload_n 0, 1) := by decide +kernel
theorem dX16_worth_188 : decode cX16_worth 188 = .ok (.getfield 336, 3) := by decide +kernel
theorem dX16_worth_191 : decode cX16_worth 191 = .ok (.iload 7, 2) := by decide +kernel
theorem dX16_worth_193 : decode cX16_worth 193 = .ok (.iconst 1, 1) := by decide +kernel
theorem dX16_worth_194 : decode cX16_worth 194 = .ok (.isub, 1) := by decide +kernel
theorem dX16_worth_195 : decode cX16_worth 195 = .ok (.aload_n 0, 1) := by decide +kernel
theorem dX16_worth_196 : decode cX16_worth 196 = .ok (.getfield 336, 3) := by decide +kernel
theorem dX16_worth_199 : decode cX16_worth 199 = .ok (.iload 7, 2) := by decide +kernel
theorem dX16_worth_201 : decode cX16_worth 201 = .ok (.iconst 1, 1) := by decide +kernel
theorem dX16_worth_202 : decode cX16_worth 202 = .ok (.isub, 1) := by decide +kernel
theorem dX16_worth_203 : decode cX16_worth 203 = .ok (.laload, 1) := by decide +kernel
theorem dX16_worth_204 : decode cX16_worth 204 = .ok (.lneg, 1) := by decide +kernel
theorem dX16_worth_205 : decode cX16_worth 205 = .ok (.lastore, 1) := by decide +kernel
theorem dX16_worth_206 : decode cX16_worth 206 = .ok (.goto 163, 3) := by decide +kernel
theorem dX16_worth_209 : decode cX16_worth 209 = .ok (.aload_n 0, 1) := by decide +kernel
theorem dX16_worth_210 : decode cX16_worth 210 = .ok (.getfield 336, 3) := by decide +kernel
theorem dX16_worth_213 : decode cX16_worth 213 = .ok (.iload 7, 2) := by decide +kernel
theorem dX16_worth_215 : decode cX16_worth 215 = .ok (.iconst 1, 1) := by decide +kernel
theorem dX16_worth_216 : decode cX16_worth 216 = .ok (.isub, 1) := by decide +kernel
theorem dX16_worth_217 : decode cX16_worth 217 = .ok (.aload_n 0, 1) := by decide +kernel
theorem dX16_worth_218 : decode cX16_worth 218 = .ok (.getfield 336, 3) := by decide +kernel
theorem dX16_worth_221 : decode cX16_worth 221 = .ok (.iload 7, 2) := by decide +kernel
theorem dX16_worth_223 : decode cX16_worth 223 = .ok (.iconst 1, 1) := by decide +kernel
theorem dX16_worth_224 : decode cX16_worth 224 = .ok (.isub, 1) := by decide +kernel
theorem dX16_worth_225 : decode cX16_worth 225 = .ok (.laload, 1) := by decide +kernel
theorem dX16_worth_226 : decode cX16_worth 226 = .ok (.lconst 0, 1) := by decide +kernel
theorem dX16_worth_227 : decode cX16_worth 227 = .ok (.lcmp, 1) := by decide +kernel
theorem dX16_worth_228 : decode cX16_worth 228 = .ok (.ifCond .ne 7, 3) := by decide +kernel
theorem dX16_worth_231 : decode cX16_worth 231 = .ok (.lconst 1, 1) := by decide +kernel
theorem dX16_worth_232 : decode cX16_worth 232 = .ok (.goto 4, 3) := by decide +kernel
theorem dX16_worth_235 : decode cX16_worth 235 = .ok (.lconst 0, 1) := by decide +kernel
theorem dX16_worth_236 : decode cX16_worth 236 = .ok (.lastore, 1) := by decide +kernel
theorem dX16_worth_237 : decode cX16_worth 237 = .ok (.goto 132, 3) := by decide +kernel
theorem dX16_worth_240 : decode cX16_worth 240 = .ok (.aload_n 0, 1) := by decide +kernel
theorem dX16_worth_241 : decode cX16_worth 241 = .ok (.getfield 336, 3) := by decide +kernel
theorem dX16_worth_244 : decode cX16_worth 244 = .ok (.iload 7, 2) := by decide +kernel
theorem dX16_worth_246 : decode cX16_worth 246 = .ok (.iconst 1, 1) := by decide +kernel
theorem dX16_worth_247 : decode cX16_worth 247 = .ok (.isub, 1) := by decide +kernel
theorem dX16_worth_248 : decode cX16_worth 248 = .ok (.aload_n 0, 1) := by decide +kernel
theorem dX16_worth_249 : decode cX16_worth 249 = .ok (.getfield 336, 3) := by decide +kernel
theorem dX16_worth_252 : decode cX16_worth 252 = .ok (.iload 7, 2) := by decide +kernel
theorem dX16_worth_254 : decode cX16_worth 254 = .ok (.iconst 1, 1) := by decide +kernel
theorem dX16_worth_255 : decode cX16_worth 255 = .ok (.isub, 1) := by decide +kernel
theorem dX16_worth_256 : decode cX16_worth 256 = .ok (.laload, 1) := by decide +kernel
theorem dX16_worth_257 : decode cX16_worth 257 = .ok (.lconst 0, 1) := by decide +kernel
theorem dX16_worth_258 : decode cX16_worth 258 = .ok (.lcmp, 1) := by decide +kernel
theorem dX16_worth_259 : decode cX16_worth 259 = .ok (.ifCond .ne 7, 3) := by decide +kernel
theorem dX16_worth_262 : decode cX16_worth 262 = .ok (.lconst 0, 1) := by decide +kernel
theorem dX16_worth_263 : decode cX16_worth 263 = .ok (.goto 4, 3) := by decide +kernel
theorem dX16_worth_266 : decode cX16_worth 266 = .ok (.lconst 1, 1) := by decide +kernel
theorem dX16_worth_267 : decode cX16_worth 267 = .ok (.lastore, 1) := by decide +kernel
theorem dX16_worth_268 : decode cX16_worth 268 = .ok (.goto 101, 3) := by decide +kernel
theorem dX16_worth_271 : decode cX16_worth 271 = .ok (.iinc 7 (-1), 3) := by decide +kernel
theorem dX16_worth_274 : decode cX16_worth 274 = .ok (.aload_n 0, 1) := by decide +kernel
theorem dX16_worth_275 : decode cX16_worth 275 = .ok (.getfield 336, 3) := by decide +kernel
theorem dX16_worth_278 : decode cX16_worth 278 = .ok (.iload 7, 2) := by decide +kernel
theorem dX16_worth_280 : decode cX16_worth 280 = .ok (.laload, 1) := by decide +kernel
theorem dX16_worth_281 : decode cX16_worth 281 = .ok (.lconst 0, 1) := by decide +kernel
theorem dX16_worth_282 : decode cX16_worth 282 = .ok (.lcmp, 1) := by decide +kernel
theorem dX16_worth_283 : decode cX16_worth 283 = .ok (.ifCond .ne 9, 3) := by decide +kernel
theorem dX16_worth_286 : decode cX16_worth 286 = .ok (.lload 10, 2) := by decide +kernel
theorem dX16_worth_288 : decode cX16_worth 288 = .ok (.l2i, 1) := by decide +kernel
theorem dX16_worth_289 : decode cX16_worth 289 = .ok (.goto 5, 3) := by decide +kernel
theorem dX16_worth_292 : decode cX16_worth 292 = .ok (.iload 8, 2) := by decide +kernel
theorem dX16_worth_294 : decode cX16_worth 294 = .ok (.istore 8, 2) := by decide +kernel
theorem dX16_worth_296 : decode cX16_worth 296 = .ok (.goto 73, 3) := by decide +kernel
theorem dX16_worth_299 : decode cX16_worth 299 = .ok (.iinc 7 (-1), 3) := by decide +kernel
theorem dX16_worth_302 : decode cX16_worth 302 = .ok (.aload_n 0, 1) := by decide +kernel
theorem dX16_worth_303 : decode cX16_worth 303 = .ok (.getfield 336, 3) := by decide +kernel
theorem dX16_worth_306 : decode cX16_worth 306 = .ok (.iload 7, 2) := by decide +kernel
theorem dX16_worth_308 : decode cX16_worth 308 = .ok (.laload, 1) := by decide +kernel
theorem dX16_worth_309 : decode cX16_worth 309 = .ok (.lconst 0, 1) := by decide +kernel
theorem dX16_worth_310 : decode cX16_worth 310 = .ok (.lcmp, 1) := by decide +kernel
theorem dX16_worth_311 : decode cX16_worth 311 = .ok (.ifCond .eq 9, 3) := by decide +kernel
theorem dX16_worth_314 : decode cX16_worth 314 = .ok (.lload 10, 2) := by decide +kernel
theorem dX16_worth_316 : decode cX16_worth 316 = .ok (.l2i, 1) := by decide +kernel
theorem dX16_worth_317 : decode cX16_worth 317 = .ok (.goto 5, 3) := by decide +kernel
theorem dX16_worth_320 : decode cX16_worth 320 = .ok (.iload 8, 2) := by decide +kernel
theorem dX16_worth_322 : decode cX16_worth 322 = .ok (.istore 8, 2) := by decide +kernel
theorem dX16_worth_324 : decode cX16_worth 324 = .ok (.goto 45, 3) := by decide +kernel
theorem dX16_worth_327 : decode cX16_worth 327 = .ok (.lload 10, 2) := by decide +kernel
theorem dX16_worth_329 : decode cX16_worth 329 = .ok (.l2i, 1) := by decide +kernel
theorem dX16_worth_330 : decode cX16_worth 330 = .ok (.istore 8, 2) := by decide +kernel
theorem dX16_worth_332 : decode cX16_worth 332 = .ok (.goto 37, 3) := by decide +kernel
theorem dX16_worth_335 : decode cX16_worth 335 = .ok (.iinc 7 (-1), 3) := by decide +kernel
theorem dX16_worth_338 : decode cX16_worth 338 = .ok (.aload_n 0, 1) := by decide +kernel
theorem dX16_worth_339 : decode cX16_worth 339 = .ok (.getfield 336, 3) := by decide +kernel
theorem dX16_worth_342 : decode cX16_worth 342 = .ok (.iload 7, 2) := by decide +kernel
theorem dX16_worth_344 : decode cX16_worth 344 = .ok (.iconst 1, 1) := by decide +kernel
theorem dX16_worth_345 : decode cX16_worth 345 = .ok (.isub, 1) := by decide +kernel
theorem dX16_worth_346 : decode cX16_worth 346 = .ok (.aload_n 0, 1) := by decide +kernel
theorem dX16_worth_347 : decode cX16_worth 347 = .ok (.iload 9, 2) := by decide +kernel
theorem dX16_worth_349 : decode cX16_worth 349 = .ok (.aload_n 0, 1) := by decide +kernel
theorem dX16_worth_350 : decode cX16_worth 350 = .ok (.getfield 336, 3) := by decide +kernel
theorem dX16_worth_353 : decode cX16_worth 353 = .ok (.iload 7, 2) := by decide +kernel
theorem dX16_worth_355 : decode cX16_worth 355 = .ok (.iconst 1, 1) := by decide +kernel
theorem dX16_worth_356 : decode cX16_worth 356 = .ok (.isub, 1) := by decide +kernel
theorem dX16_worth_357 : decode cX16_worth 357 = .ok (.laload, 1) := by decide +kernel
theorem dX16_worth_358 : decode cX16_worth 358 = .ok (.aload_n 0, 1) := by decide +kernel
theorem dX16_worth_359 : decode cX16_worth 359 = .ok (.getfield 336, 3) := by decide +kernel
theorem dX16_worth_362 : decode cX16_worth 362 = .ok (.iload 7, 2) := by decide +kernel
theorem dX16_worth_364 : decode cX16_worth 364 = .ok (.laload, 1) := by decide +kernel
theorem dX16_worth_365 : decode cX16_worth 365 = .ok (.invokevirtual 339, 3) := by decide +kernel
theorem dX16_worth_368 : decode cX16_worth 368 = .ok (.lastore, 1) := by decide +kernel
theorem dX16_worth_369 : decode cX16_worth 369 = .ok (.goto (-358), 3) := by decide +kernel
theorem dX16_worth_372 : decode cX16_worth 372 = .ok (.aload_n 0, 1) := by decide +kernel
theorem dX16_worth_373 : decode cX16_worth 373 = .ok (.getfield 330, 3) := by decide +kernel
theorem dX16_worth_376 : decode cX16_worth 376 = .ok (.ifCond .eq 7, 3) := by decide +kernel
theorem dX16_worth_379 : decode cX16_worth 379 = .ok (.lconst 0, 1) := by decide +kernel
theorem dX16_worth_380 : decode cX16_worth 380 = .ok (.goto 9, 3) := by decide +kernel
theorem dX16_worth_383 : decode cX16_worth 383 = .ok (.aload_n 0, 1) := by decide +kernel
theorem dX16_worth_384 : decode cX16_worth 384 = .ok (.getfield 336, 3) := by decide +kernel
theorem dX16_worth_387 : decode cX16_worth 387 = .ok (.iconst 0, 1) := by decide +kernel
theorem dX16_worth_388 : decode cX16_worth 388 = .ok (.laload, 1) := by decide +kernel
theorem dX16_worth_389 : decode cX16_worth 389 = .ok (.lreturn, 1) := by decide +kernel
set_option maxRecDepth 20000 in
theorem a_X16_worth_389 {Q : Sg → Int64 → Prop} {X : Sg → String → Prop} (K : MC R p s m args c cX16_worth 12 RX16 D cA tys A n0 s0 1 25 []) (hQ : HQJ p l e R s m args below meth c cX16_worth D cA A n0 s0 QM dm ra jx rm Q) (hX : HX p l e R s m args below meth c 12 D cA A n0 s0 QM dm ra jx rm X) : ∀ (σ : Sg) (u0 : Int64), w_X16_worth_389 ra jx rm Q X σ u0 → RG σ → Shp dm ra jx rm σ → JJ p l e R s m args below meth c 12 D cA A n0 s0 QM σ 389 [(0, .ref rm)] [.long u0] := by
  intro σ u0 h hGσ hS H locs ls hH hl hc
  have B := K.1
  unfold w_X16_worth_389 at h
  exact hQ _ _ _ _ _ _ dX16_worth_389 hH hc h hGσ hS
set_option maxRecDepth 20000 in
theorem a_X16_worth_383 {Q : Sg → Int64 → Prop} {X : Sg → String → Prop} (K : MC R p s m args c cX16_worth 12 RX16 D cA tys A n0 s0 1 25 []) (hQ : HQJ p l e R s m args below meth c cX16_worth D cA A n0 s0 QM dm ra jx rm Q) (hX : HX p l e R s m args below meth c 12 D cA A n0 s0 QM dm ra jx rm X) : ∀ (σ : Sg), w_X16_worth_383 ra jx rm Q X σ → RG σ → Shp dm ra jx rm σ → JJ p l e R s m args below meth c 12 D cA A n0 s0 QM σ 383 [(0, .ref rm)] [] := by
  intro σ h hGσ hS H locs ls hH hl hc
  have B := K.1
  unfold w_X16_worth_383 at h
  refine lv_aload_n B.1 B.2.1 dX16_worth_383 rfl (lv_at hl 0 rfl) ?_
  refine r_arr B hH hS 20 (kd := 101) (n := 1600) (by decide) (by decide) wf_X16_336 rfl rfl dX16_worth_384 ?_
  refine lv_iconst (v := i32 0) B.1 B.2.1 dX16_worth_387 (by decide) ?_
  refine x_lald B K.2.1 hH (hS.ar (k := 20) (kd := 101) (n := 1600) (by decide)) (by decide) (by decide) dX16_worth_388 ?_
  refine W.eq (g2 := F0 m 389 ls [.long (gJ σ (ra 20) 0)]) (rfl) ?_
  exact a_X16_worth_389 K hQ hX _ _ h hGσ hS _ _ _ hH (lv_sub (l' := [(0, .ref rm)]) hl [0] rfl) hc
set_option maxRecDepth 20000 in
theorem a_X16_worth_379 {Q : Sg → Int64 → Prop} {X : Sg → String → Prop} (K : MC R p s m args c cX16_worth 12 RX16 D cA tys A n0 s0 1 25 []) (hQ : HQJ p l e R s m args below meth c cX16_worth D cA A n0 s0 QM dm ra jx rm Q) (hX : HX p l e R s m args below meth c 12 D cA A n0 s0 QM dm ra jx rm X) : ∀ (σ : Sg), w_X16_worth_379 ra jx rm Q X σ → RG σ → Shp dm ra jx rm σ → JJ p l e R s m args below meth c 12 D cA A n0 s0 QM σ 379 [(0, .ref rm)] [] := by
  intro σ h hGσ hS H locs ls hH hl hc
  have B := K.1
  unfold w_X16_worth_379 at h
  refine lv_lconst (v := 0) B.1 B.2.1 dX16_worth_379 (by decide) ?_
  refine lv_goto (tgt := 389) B.1 B.2.1 dX16_worth_380 (by decide) ?_
  exact a_X16_worth_389 K hQ hX _ _ h hGσ hS _ _ _ hH (lv_sub (l' := [(0, .ref rm)]) hl [0] rfl) hc
set_option maxRecDepth 20000 in
theorem a_X16_worth_372 {Q : Sg → Int64 → Prop} {X : Sg → String → Prop} (K : MC R p s m args c cX16_worth 12 RX16 D cA tys A n0 s0 1 25 []) (hQ : HQJ p l e R s m args below meth c cX16_worth D cA A n0 s0 QM dm ra jx rm Q) (hX : HX p l e R s m args below meth c 12 D cA A n0 s0 QM dm ra jx rm X) : ∀ (σ : Sg), w_X16_worth_372 ra jx rm Q X σ → RG σ → Shp dm ra jx rm σ → JJ p l e R s m args below meth c 12 D cA A n0 s0 QM σ 372 [(0, .ref rm)] [] := by
  intro σ h hGσ hS H locs ls hH hl hc
  have B := K.1
  unfold w_X16_worth_372 at h
  refine lv_aload_n B.1 B.2.1 dX16_worth_372 rfl (lv_at hl 0 rfl) ?_
  refine r_geti B hH hS 21 (by decide) wf_X16_330 rfl rfl dX16_worth_373 ?_
  refine lv_if_eq (tgt := 383) B.1 B.2.1 dX16_worth_376 (by decide) (fun h9 => ?_) (fun h9 => ?_)
  · rw [if_pos ((z_eq (hGσ _ _)).mp h9)] at h
    exact a_X16_worth_383 K hQ hX _ h hGσ hS _ _ _ hH (lv_sub (l' := [(0, .ref rm)]) hl [0] rfl) hc
  · rw [if_neg (fun q => h9 ((z_eq (hGσ _ _)).mpr q))] at h
    exact a_X16_worth_379 K hQ hX _ h hGσ hS _ _ _ hH (lv_sub (l' := [(0, .ref rm)]) hl [0] rfl) hc
set_option maxRecDepth 20000 in
theorem a_X16_worth_369 {Q : Sg → Int64 → Prop} {X : Sg → String → Prop} (K : MC R p s m args c cX16_worth 12 RX16 D cA tys A n0 s0 1 25 []) (hQ : HQJ p l e R s m args below meth c cX16_worth D cA A n0 s0 QM dm ra jx rm Q) (hX : HX p l e R s m args below meth c 12 D cA A n0 s0 QM dm ra jx rm X) {K11 : Sg → Option Nat → Int64 → Option Nat → Int → Int → Int → Prop} (hK11 : ∀ (σ : Sg) (v1 : Option Nat) (v3 : Int64) (v5 : Option Nat) (v6 : Int) (v7 : Int) (v8 : Int) (g6 : rng v6) (g7 : rng v7) (g8 : rng v8), K11 σ v1 v3 v5 v6 v7 v8 → RG σ → Shp dm ra jx rm σ → JJ p l e R s m args below meth c 12 D cA A n0 s0 QM σ 11 [(0, .ref rm), (1, va_rf v1), (3, .long v3), (5, va_rf v5), (6, .int (i32 v6)), (7, .int (i32 v7)), (8, .int (i32 v8))] []) : ∀ (σ : Sg) (v1 : Option Nat) (v3 : Int64) (v5 : Option Nat) (v6 : Int) (v7 : Int) (v8 : Int) (g6 : rng v6) (g7 : rng v7) (g8 : rng v8), w_X16_worth_369 ra jx rm K11 Q X σ v1 v3 v5 v6 v7 v8 → RG σ → Shp dm ra jx rm σ → JJ p l e R s m args below meth c 12 D cA A n0 s0 QM σ 369 [(0, .ref rm), (1, va_rf v1), (3, .long v3), (5, va_rf v5), (6, .int (i32 v6)), (7, .int (i32 v7)), (8, .int (i32 v8))] [] := by
  intro σ v1 v3 v5 v6 v7 v8 g6 g7 g8 h hGσ hS H locs ls hH hl hc
  have B := K.1
  unfold w_X16_worth_369 at h
  refine lv_goto (tgt := 11) B.1 B.2.1 dX16_worth_369 (by decide) ?_
  exact hK11 _ _ _ _ _ _ _ g6 g7 g8 h hGσ hS _ _ _ hH (lv_sub (l' := [(0, .ref rm), (1, va_rf v1), (3, .long v3), (5, va_rf v5), (6, .int (i32 v6)), (7, .int (i32 v7)), (8, .int (i32 v8))]) hl [0, 1, 2, 3, 4, 5, 6] rfl) hc
set_option maxRecDepth 20000 in
theorem a_X16_worth_136 {Q : Sg → Int64 → Prop} {X : Sg → String → Prop} (K : MC R p s m args c cX16_worth 12 RX16 D cA tys A n0 s0 1 25 []) (hQ : HQJ p l e R s m args below meth c cX16_worth D cA A n0 s0 QM dm ra jx rm Q) (hX : HX p l e R s m args below meth c 12 D cA A n0 s0 QM dm ra jx rm X) {K11 : Sg → Option Nat → Int64 → Option Nat → Int → Int → Int → Prop} (hK11 : ∀ (σ : Sg) (v1 : Option Nat) (v3 : Int64) (v5 : Option Nat) (v6 : Int) (v7 : Int) (v8 : Int) (g6 : rng v6) (g7 : rng v7) (g8 : rng v8), K11 σ v1 v3 v5 v6 v7 v8 → RG σ → Shp dm ra jx rm σ → JJ p l e R s m args below meth c 12 D cA A n0 s0 QM σ 11 [(0, .ref rm), (1, va_rf v1), (3, .long v3), (5, va_rf v5), (6, .int (i32 v6)), (7, .int (i32 v7)), (8, .int (i32 v8))] []) : ∀ (σ : Sg) (v1 : Option Nat) (v3 : Int64) (v5 : Option Nat) (v6 : Int) (v7 : Int) (v8 : Int) (v10 : Int64) (g6 : rng v6) (g7 : rng v7) (g8 : rng v8), w_X16_worth_136 ra jx rm K11 Q X σ v1 v3 v5 v6 v7 v8 v10 → RG σ → Shp dm ra jx rm σ → JJ p l e R s m args below meth c 12 D cA A n0 s0 QM σ 136 [(0, .ref rm), (1, va_rf v1), (3, .long v3), (5, va_rf v5), (6, .int (i32 v6)), (7, .int (i32 v7)), (8, .int (i32 v8)), (10, .long v10)] [] := by
  intro σ v1 v3 v5 v6 v7 v8 v10 g6 g7 g8 h hGσ hS H locs ls hH hl hc
  have B := K.1
  unfold w_X16_worth_136 at h
  refine lv_aload_n B.1 B.2.1 dX16_worth_136 rfl (lv_at hl 0 rfl) ?_
  refine r_arr B hH hS 20 (kd := 101) (n := 1600) (by decide) (by decide) wf_X16_336 rfl rfl dX16_worth_137 ?_
  refine lv_iload B.1 B.2.1 dX16_worth_140 (lv_at hl 5 rfl) ?_
  obtain ⟨q1, h⟩ := h
  refine lv_iinc (k := 5) (v := i32 (v7 + 1)) (lv' := [(7, .int (i32 (v7 + 1))), (0, .ref rm), (1, va_rf v1), (3, .long v3), (5, va_rf v5), (6, .int (i32 v6)), (8, .int (i32 v8)), (10, .long v10)]) B.1 B.2.1 dX16_worth_142 hl rfl (i32_add _ _) (by decide) rfl (fun ls hl => ?_)
  refine lv_lload B.1 B.2.1 dX16_worth_145 (lv_at hl 7 rfl) ?_
  obtain ⟨q2, h⟩ := h
  obtain ⟨σ31, eσ31⟩ : ∃ z, z = pJ σ (ra 20) v7.toNat v10 := ⟨_, rfl⟩
  have h := h σ31 eσ31
  refine x_last B K.2.1 hH (hS.ar (k := 20) (kd := 101) (n := 1600) (by decide)) (by decide) q2 dX16_worth_147 (fun H locs hH => ?_)
  have hH : Hd D cA A s (pJ σ (ra 20) v7.toNat v10) H locs := hH
  rw [← eσ31] at hH
  have hGσ31 : RG σ31 := by rw [eσ31]; exact hGσ.pJ
  have hS : Shp dm ra jx rm σ31 := by rw [eσ31]; exact hS
  have hc : CB n0 s0 σ31 := by rw [eσ31]; exact hc
  rw [show gc σ = gc σ31 by rw [eσ31], show gs σ = gs σ31 by rw [eσ31]]
  refine lv_goto (tgt := 369) B.1 B.2.1 dX16_worth_148 (by decide) ?_
  exact a_X16_worth_369 K hQ hX hK11 _ _ _ _ _ _ _ g6 q1 g8 h hGσ31 hS _ _ _ hH (lv_sub (l' := [(0, .ref rm), (1, va_rf v1), (3, .long v3), (5, va_rf v5), (6, .int (i32 v6)), (7, .int (i32 (v7 + 1))), (8, .int (i32 v8))]) hl [1, 2, 3, 4, 5, 0, 6] rfl) hc
set_option maxRecDepth 20000 in
theorem a_X16_worth_151 {Q : Sg → Int64 → Prop} {X : Sg → String → Prop} (K : MC R p s m args c cX16_worth 12 RX16 D cA tys A n0 s0 1 25 []) (hQ : HQJ p l e R s m args below meth c cX16_worth D cA A n0 s0 QM dm ra jx rm Q) (hX : HX p l e R s m args below meth c 12 D cA A n0 s0 QM dm ra jx rm X) {K11 : Sg → Option Nat → Int64 → Option Nat → Int → Int → Int → Prop} (hK11 : ∀ (σ : Sg) (v1 : Option Nat) (v3 : Int64) (v5 : Option Nat) (v6 : Int) (v7 : Int) (v8 : Int) (g6 : rng v6) (g7 : rng v7) (g8 : rng v8), K11 σ v1 v3 v5 v6 v7 v8 → RG σ → Shp dm ra jx rm σ → JJ p l e R s m args below meth c 12 D cA A n0 s0 QM σ 11 [(0, .ref rm), (1, va_rf v1), (3, .long v3), (5, va_rf v5), (6, .int (i32 v6)), (7, .int (i32 v7)), (8, .int (i32 v8))] []) : ∀ (σ : Sg) (v1 : Option Nat) (v3 : Int64) (v5 : Option Nat) (v6 : Int) (v7 : Int) (v8 : Int) (v10 : Int64) (g6 : rng v6) (g7 : rng v7) (g8 : rng v8), w_X16_worth_151 ra jx rm K11 Q X σ v1 v3 v5 v6 v7 v8 v10 → RG σ → Shp dm ra jx rm σ → JJ p l e R s m args below meth c 12 D cA A n0 s0 QM σ 151 [(0, .ref rm), (1, va_rf v1), (3, .long v3), (5, va_rf v5), (6, .int (i32 v6)), (7, .int (i32 v7)), (8, .int (i32 v8)), (10, .long v10)] [] := by
  intro σ v1 v3 v5 v6 v7 v8 v10 g6 g7 g8 h hGσ hS H locs ls hH hl hc
  have B := K.1
  unfold w_X16_worth_151 at h
  refine lv_aload_n B.1 B.2.1 dX16_worth_151 rfl (lv_at hl 0 rfl) ?_
  refine r_arr B hH hS 20 (kd := 101) (n := 1600) (by decide) (by decide) wf_X16_336 rfl rfl dX16_worth_152 ?_
  refine lv_iload B.1 B.2.1 dX16_worth_155 (lv_at hl 5 rfl) ?_
  obtain ⟨q1, h⟩ := h
  refine lv_iinc (k := 5) (v := i32 (v7 + 1)) (lv' := [(7, .int (i32 (v7 + 1))), (0, .ref rm), (1, va_rf v1), (3, .long v3), (5, va_rf v5), (6, .int (i32 v6)), (8, .int (i32 v8)), (10, .long v10)]) B.1 B.2.1 dX16_worth_157 hl rfl (i32_add _ _) (by decide) rfl (fun ls hl => ?_)
  refine lv_aloadQ B.1 B.2.1 dX16_worth_160 (lv_at hl 4 rfl) ?_
  refine lv_iload B.1 B.2.1 dX16_worth_162 (lv_at hl 5 rfl) ?_
  refine lv_lload B.1 B.2.1 dX16_worth_164 (lv_at hl 7 rfl) ?_
  refine lv_l2i B.1 B.2.1 dX16_worth_166 rfl ?_
  refine W.eq (g2 := F0 m 167 ls [.int (i32 ((v10).toInt32.toInt)), .int (i32 v6), va_rf v5, .int (i32 v7), .ref (ra 20)]) (by simp only [i32_self]) ?_
  obtain ⟨q2, h⟩ := h
  refine lv_iadd B.1 B.2.1 dX16_worth_167 ?_
  rw [i32_add]
  obtain ⟨b32, n33, eb32, jb32, ib32, h⟩ := h
  refine W.eq (g2 := F0 m 168 ls [.int (i32 (v6 + (v10).toInt32.toInt)), .ref b32, .int (i32 v7), .ref (ra 20)]) (by rw [eb32]; rfl) ?_
  refine x_lald B K.2.1 hH (hS.any jb32) (rAr_lt jb32) ib32 dX16_worth_168 ?_
  obtain ⟨q4, h⟩ := h
  obtain ⟨σ34, eσ34⟩ : ∃ z, z = pJ σ (ra 20) v7.toNat (gJ σ b32 (v6 + (v10).toInt32.toInt).toNat) := ⟨_, rfl⟩
  have h := h σ34 eσ34
  refine x_last B K.2.1 hH (hS.ar (k := 20) (kd := 101) (n := 1600) (by decide)) (by decide) q4 dX16_worth_169 (fun H locs hH => ?_)
  have hH : Hd D cA A s (pJ σ (ra 20) v7.toNat (gJ σ b32 (v6 + (v10).toInt32.toInt).toNat)) H locs := hH
  rw [← eσ34] at hH
  have hGσ34 : RG σ34 := by rw [eσ34]; exact hGσ.pJ
  have hS : Shp dm ra jx rm σ34 := by rw [eσ34]; exact hS
  have hc : CB n0 s0 σ34 := by rw [eσ34]; exact hc
  rw [show gc σ = gc σ34 by rw [eσ34], show gs σ = gs σ34 by rw [eσ34]]
  refine lv_goto (tgt := 369) B.1 B.2.1 dX16_worth_170 (by decide) ?_
  exact a_X16_worth_369 K hQ hX hK11 _ _ _ _ _ _ _ g6 q1 g8 h hGσ34 hS _ _ _ hH (lv_sub (l' := [(0, .ref rm), (1, va_rf v1), (3, .long v3), (5, va_rf v5), (6, .int (i32 v6)), (7, .int (i32 (v7 + 1))), (8, .int (i32 v8))]) hl [1, 2, 3, 4, 5, 0, 6] rfl) hc
set_option maxRecDepth 20000 in
theorem a_X16_worth_173 {Q : Sg → Int64 → Prop} {X : Sg → String → Prop} (K : MC R p s m args c cX16_worth 12 RX16 D cA tys A n0 s0 1 25 []) (hQ : HQJ p l e R s m args below meth c cX16_worth D cA A n0 s0 QM dm ra jx rm Q) (hX : HX p l e R s m args below meth c 12 D cA A n0 s0 QM dm ra jx rm X) {K11 : Sg → Option Nat → Int64 → Option Nat → Int → Int → Int → Prop} (hK11 : ∀ (σ : Sg) (v1 : Option Nat) (v3 : Int64) (v5 : Option Nat) (v6 : Int) (v7 : Int) (v8 : Int) (g6 : rng v6) (g7 : rng v7) (g8 : rng v8), K11 σ v1 v3 v5 v6 v7 v8 → RG σ → Shp dm ra jx rm σ → JJ p l e R s m args below meth c 12 D cA A n0 s0 QM σ 11 [(0, .ref rm), (1, va_rf v1), (3, .long v3), (5, va_rf v5), (6, .int (i32 v6)), (7, .int (i32 v7)), (8, .int (i32 v8))] []) : ∀ (σ : Sg) (v1 : Option Nat) (v3 : Int64) (v5 : Option Nat) (v6 : Int) (v7 : Int) (v8 : Int) (g6 : rng v6) (g7 : rng v7) (g8 : rng v8), w_X16_worth_173 ra jx rm K11 Q X σ v1 v3 v5 v6 v7 v8 → RG σ → Shp dm ra jx rm σ → JJ p l e R s m args below meth c 12 D cA A n0 s0 QM σ 173 [(0, .ref rm), (1, va_rf v1), (3, .long v3), (5, va_rf v5), (6, .int (i32 v6)), (7, .int (i32 v7)), (8, .int (i32 v8))] [] := by
  intro σ v1 v3 v5 v6 v7 v8 g6 g7 g8 h hGσ hS H locs ls hH hl hc
  have B := K.1
  unfold w_X16_worth_173 at h
  refine lv_aload_n B.1 B.2.1 dX16_worth_173 rfl (lv_at hl 0 rfl) ?_
  refine r_arr B hH hS 20 (kd := 101) (n := 1600) (by decide) (by decide) wf_X16_336 rfl rfl dX16_worth_174 ?_
  refine lv_iload B.1 B.2.1 dX16_worth_177 (lv_at hl 5 rfl) ?_
  obtain ⟨q1, h⟩ := h
  refine lv_iinc (k := 5) (v := i32 (v7 + 1)) (lv' := [(7, .int (i32 (v7 + 1))), (0, .ref rm), (1, va_rf v1), (3, .long v3), (5, va_rf v5), (6, .int (i32 v6)), (8, .int (i32 v8))]) B.1 B.2.1 dX16_worth_179 hl rfl (i32_add _ _) (by decide) rfl (fun ls hl => ?_)
  refine lv_lload_n B.1 B.2.1 dX16_worth_182 rfl (lv_at hl 3 rfl) ?_
  obtain ⟨q2, h⟩ := h
  obtain ⟨σ35, eσ35⟩ : ∃ z, z = pJ σ (ra 20) v7.toNat v3 := ⟨_, rfl⟩
  have h := h σ35 eσ35
  refine x_last B K.2.1 hH (hS.ar (k := 20) (kd := 101) (n := 1600) (by decide)) (by decide) q2 dX16_worth_183 (fun H locs hH => ?_)
  have hH : Hd D cA A s (pJ σ (ra 20) v7.toNat v3) H locs := hH
  rw [← eσ35] at hH
  have hGσ35 : RG σ35 := by rw [eσ35]; exact hGσ.pJ
  have hS : Shp dm ra jx rm σ35 := by rw [eσ35]; exact hS
  have hc : CB n0 s0 σ35 := by rw [eσ35]; exact hc
  rw [show gc σ = gc σ35 by rw [eσ35], show gs σ = gs σ35 by rw [eσ35]]
  refine lv_goto (tgt := 369) B.1 B.2.1 dX16_worth_184 (by decide) ?_
  exact a_X16_worth_369 K hQ hX hK11 _ _ _ _ _ _ _ g6 q1 g8 h hGσ35 hS _ _ _ hH (lv_sub (l' := [(0, .ref rm), (1, va_rf v1), (3, .long v3), (5, va_rf v5), (6, .int (i32 v6)), (7, .int (i32 (v7 + 1))), (8, .int (i32 v8))]) hl [1, 2, 3, 4, 5, 0, 6] rfl) hc
set_option maxRecDepth 20000 in
theorem a_X16_worth_187 {Q : Sg → Int64 → Prop} {X : Sg → String → Prop} (K : MC R p s m args c cX16_worth 12 RX16 D cA tys A n0 s0 1 25 []) (hQ : HQJ p l e R s m args below meth c cX16_worth D cA A n0 s0 QM dm ra jx rm Q) (hX : HX p l e R s m args below meth c 12 D cA A n0 s0 QM dm ra jx rm X) {K11 : Sg → Option Nat → Int64 → Option Nat → Int → Int → Int → Prop} (hK11 : ∀ (σ : Sg) (v1 : Option Nat) (v3 : Int64) (v5 : Option Nat) (v6 : Int) (v7 : Int) (v8 : Int) (g6 : rng v6) (g7 : rng v7) (g8 : rng v8), K11 σ v1 v3 v5 v6 v7 v8 → RG σ → Shp dm ra jx rm σ → JJ p l e R s m args below meth c 12 D cA A n0 s0 QM σ 11 [(0, .ref rm), (1, va_rf v1), (3, .long v3), (5, va_rf v5), (6, .int (i32 v6)), (7, .int (i32 v7)), (8, .int (i32 v8))] []) : ∀ (σ : Sg) (v1 : Option Nat) (v3 : Int64) (v5 : Option Nat) (v6 : Int) (v7 : Int) (v8 : Int) (g6 : rng v6) (g7 : rng v7) (g8 : rng v8), w_X16_worth_187 ra jx rm K11 Q X σ v1 v3 v5 v6 v7 v8 → RG σ → Shp dm ra jx rm σ → JJ p l e R s m args below meth c 12 D cA A n0 s0 QM σ 187 [(0, .ref rm), (1, va_rf v1), (3, .long v3), (5, va_rf v5), (6, .int (i32 v6)), (7, .int (i32 v7)), (8, .int (i32 v8))] [] := by
  intro σ v1 v3 v5 v6 v7 v8 g6 g7 g8 h hGσ hS H locs ls hH hl hc
  have B := K.1
  unfold w_X16_worth_187 at h
  refine lv_aload_n B.1 B.2.1 dX16_worth_187 rfl (lv_at hl 0 rfl) ?_
  refine r_arr B hH hS 20 (kd := 101) (n := 1600) (by decide) (by decide) wf_X16_336 rfl rfl dX16_worth_188 ?_
  refine lv_iload B.1 B.2.1 dX16_worth_191 (lv_at hl 5 rfl) ?_
  refine lv_iconst (v := i32 1) B.1 B.2.1 dX16_worth_193 (by decide) ?_
  obtain ⟨q1, h⟩ := h
  refine lv_isub B.1 B.2.1 dX16_worth_194 ?_
  rw [i32_sub]
  refine lv_aload_n B.1 B.2.1 dX16_worth_195 rfl (lv_at hl 0 rfl) ?_
  refine r_arr B hH hS 20 (kd := 101) (n := 1600) (by decide) (by decide) wf_X16_336 rfl rfl dX16_worth_196 ?_
  refine lv_iload B.1 B.2.1 dX16_worth_199 (lv_at hl 5 rfl) ?_
  refine lv_iconst (v := i32 1) B.1 B.2.1 dX16_worth_201 (by decide) ?_
  obtain ⟨q2, h⟩ := h
  refine lv_isub B.1 B.2.1 dX16_worth_202 ?_
  rw [i32_sub]
  obtain ⟨q3, h⟩ := h
  refine x_lald B K.2.1 hH (hS.ar (k := 20) (kd := 101) (n := 1600) (by decide)) (by decide) q3 dX16_worth_203 ?_
  refine lv_lneg B.1 B.2.1 dX16_worth_204 ?_
  obtain ⟨q4, h⟩ := h
  obtain ⟨σ36, eσ36⟩ : ∃ z, z = pJ σ (ra 20) (v7 - 1).toNat (-(gJ σ (ra 20) (v7 - 1).toNat)) := ⟨_, rfl⟩
  have h := h σ36 eσ36
  refine x_last B K.2.1 hH (hS.ar (k := 20) (kd := 101) (n := 1600) (by decide)) (by decide) q4 dX16_worth_205 (fun H locs hH => ?_)
  have hH : Hd D cA A s (pJ σ (ra 20) (v7 - 1).toNat (-(gJ σ (ra 20) (v7 - 1).toNat))) H locs := hH
  rw [← eσ36] at hH
  have hGσ36 : RG σ36 := by rw [eσ36]; exact hGσ.pJ
  have hS : Shp dm ra jx rm σ36 := by rw [eσ36]; exact hS
  have hc : CB n0 s0 σ36 := by rw [eσ36]; exact hc
  rw [show gc σ = gc σ36 by rw [eσ36], show gs σ = gs σ36 by rw [eσ36]]
  refine lv_goto (tgt := 369) B.1 B.2.1 dX16_worth_206 (by decide) ?_
  exact a_X16_worth_369 K hQ hX hK11 _ _ _ _ _ _ _ g6 g7 g8 h hGσ36 hS _ _ _ hH (lv_sub (l' := [(0, .ref rm), (1, va_rf v1), (3, .long v3), (5, va_rf v5), (6, .int (i32 v6)), (7, .int (i32 v7)), (8, .int (i32 v8))]) hl [0, 1, 2, 3, 4, 5, 6] rfl) hc
set_option maxRecDepth 20000 in
theorem a_X16_worth_236 {Q : Sg → Int64 → Prop} {X : Sg → String → Prop} (K : MC R p s m args c cX16_worth 12 RX16 D cA tys A n0 s0 1 25 []) (hQ : HQJ p l e R s m args below meth c cX16_worth D cA A n0 s0 QM dm ra jx rm Q) (hX : HX p l e R s m args below meth c 12 D cA A n0 s0 QM dm ra jx rm X) {K11 : Sg → Option Nat → Int64 → Option Nat → Int → Int → Int → Prop} (hK11 : ∀ (σ : Sg) (v1 : Option Nat) (v3 : Int64) (v5 : Option Nat) (v6 : Int) (v7 : Int) (v8 : Int) (g6 : rng v6) (g7 : rng v7) (g8 : rng v8), K11 σ v1 v3 v5 v6 v7 v8 → RG σ → Shp dm ra jx rm σ → JJ p l e R s m args below meth c 12 D cA A n0 s0 QM σ 11 [(0, .ref rm), (1, va_rf v1), (3, .long v3), (5, va_rf v5), (6, .int (i32 v6)), (7, .int (i32 v7)), (8, .int (i32 v8))] []) : ∀ (σ : Sg) (v1 : Option Nat) (v3 : Int64) (v5 : Option Nat) (v6 : Int) (v7 : Int) (v8 : Int) (u0 : Int64) (u1 : Int) (g6 : rng v6) (g7 : rng v7) (g8 : rng v8) (gu1 : rng u1), w_X16_worth_236 ra jx rm K11 Q X σ v1 v3 v5 v6 v7 v8 u0 u1 → RG σ → Shp dm ra jx rm σ → JJ p l e R s m args below meth c 12 D cA A n0 s0 QM σ 236 [(0, .ref rm), (1, va_rf v1), (3, .long v3), (5, va_rf v5), (6, .int (i32 v6)), (7, .int (i32 v7)), (8, .int (i32 v8))] [.long u0, .int (i32 u1), .ref (ra 20)] := by
  intro σ v1 v3 v5 v6 v7 v8 u0 u1 g6 g7 g8 gu1 h hGσ hS H locs ls hH hl hc
  have B := K.1
  unfold w_X16_worth_236 at h
  obtain ⟨q1, h⟩ := h
  obtain ⟨σ37, eσ37⟩ : ∃ z, z = pJ σ (ra 20) u1.toNat u0 := ⟨_, rfl⟩
  have h := h σ37 eσ37
  refine x_last B K.2.1 hH (hS.ar (k := 20) (kd := 101) (n := 1600) (by decide)) (by decide) q1 dX16_worth_236 (fun H locs hH => ?_)
  have hH : Hd D cA A s (pJ σ (ra 20) u1.toNat u0) H locs := hH
  rw [← eσ37] at hH
  have hGσ37 : RG σ37 := by rw [eσ37]; exact hGσ.pJ
  have hS : Shp dm ra jx rm σ37 := by rw [eσ37]; exact hS
  have hc : CB n0 s0 σ37 := by rw [eσ37]; exact hc
  rw [show gc σ = gc σ37 by rw [eσ37], show gs σ = gs σ37 by rw [eσ37]]
  refine lv_goto (tgt := 369) B.1 B.2.1 dX16_worth_237 (by decide) ?_
  exact a_X16_worth_369 K hQ hX hK11 _ _ _ _ _ _ _ g6 g7 g8 h hGσ37 hS _ _ _ hH (lv_sub (l' := [(0, .ref rm), (1, va_rf v1), (3, .long v3), (5, va_rf v5), (6, .int (i32 v6)), (7, .int (i32 v7)), (8, .int (i32 v8))]) hl [0, 1, 2, 3, 4, 5, 6] rfl) hc
set_option maxRecDepth 20000 in
theorem a_X16_worth_235 {Q : Sg → Int64 → Prop} {X : Sg → String → Prop} (K : MC R p s m args c cX16_worth 12 RX16 D cA tys A n0 s0 1 25 []) (hQ : HQJ p l e R s m args below meth c cX16_worth D cA A n0 s0 QM dm ra jx rm Q) (hX : HX p l e R s m args below meth c 12 D cA A n0 s0 QM dm ra jx rm X) {K11 : Sg → Option Nat → Int64 → Option Nat → Int → Int → Int → Prop} (hK11 : ∀ (σ : Sg) (v1 : Option Nat) (v3 : Int64) (v5 : Option Nat) (v6 : Int) (v7 : Int) (v8 : Int) (g6 : rng v6) (g7 : rng v7) (g8 : rng v8), K11 σ v1 v3 v5 v6 v7 v8 → RG σ → Shp dm ra jx rm σ → JJ p l e R s m args below meth c 12 D cA A n0 s0 QM σ 11 [(0, .ref rm), (1, va_rf v1), (3, .long v3), (5, va_rf v5), (6, .int (i32 v6)), (7, .int (i32 v7)), (8, .int (i32 v8))] []) : ∀ (σ : Sg) (v1 : Option Nat) (v3 : Int64) (v5 : Option Nat) (v6 : Int) (v7 : Int) (v8 : Int) (u0 : Int) (g6 : rng v6) (g7 : rng v7) (g8 : rng v8) (gu0 : rng u0), w_X16_worth_235 ra jx rm K11 Q X σ v1 v3 v5 v6 v7 v8 u0 → RG σ → Shp dm ra jx rm σ → JJ p l e R s m args below meth c 12 D cA A n0 s0 QM σ 235 [(0, .ref rm), (1, va_rf v1), (3, .long v3), (5, va_rf v5), (6, .int (i32 v6)), (7, .int (i32 v7)), (8, .int (i32 v8))] [.int (i32 u0), .ref (ra 20)] := by
  intro σ v1 v3 v5 v6 v7 v8 u0 g6 g7 g8 gu0 h hGσ hS H locs ls hH hl hc
  have B := K.1
  unfold w_X16_worth_235 at h
  refine lv_lconst (v := 0) B.1 B.2.1 dX16_worth_235 (by decide) ?_
  exact a_X16_worth_236 K hQ hX hK11 _ _ _ _ _ _ _ _ _ g6 g7 g8 gu0 h hGσ hS _ _ _ hH (lv_sub (l' := [(0, .ref rm), (1, va_rf v1), (3, .long v3), (5, va_rf v5), (6, .int (i32 v6)), (7, .int (i32 v7)), (8, .int (i32 v8))]) hl [0, 1, 2, 3, 4, 5, 6] rfl) hc
set_option maxRecDepth 20000 in
theorem a_X16_worth_231 {Q : Sg → Int64 → Prop} {X : Sg → String → Prop} (K : MC R p s m args c cX16_worth 12 RX16 D cA tys A n0 s0 1 25 []) (hQ : HQJ p l e R s m args below meth c cX16_worth D cA A n0 s0 QM dm ra jx rm Q) (hX : HX p l e R s m args below meth c 12 D cA A n0 s0 QM dm ra jx rm X) {K11 : Sg → Option Nat → Int64 → Option Nat → Int → Int → Int → Prop} (hK11 : ∀ (σ : Sg) (v1 : Option Nat) (v3 : Int64) (v5 : Option Nat) (v6 : Int) (v7 : Int) (v8 : Int) (g6 : rng v6) (g7 : rng v7) (g8 : rng v8), K11 σ v1 v3 v5 v6 v7 v8 → RG σ → Shp dm ra jx rm σ → JJ p l e R s m args below meth c 12 D cA A n0 s0 QM σ 11 [(0, .ref rm), (1, va_rf v1), (3, .long v3), (5, va_rf v5), (6, .int (i32 v6)), (7, .int (i32 v7)), (8, .int (i32 v8))] []) : ∀ (σ : Sg) (v1 : Option Nat) (v3 : Int64) (v5 : Option Nat) (v6 : Int) (v7 : Int) (v8 : Int) (u0 : Int) (g6 : rng v6) (g7 : rng v7) (g8 : rng v8) (gu0 : rng u0), w_X16_worth_231 ra jx rm K11 Q X σ v1 v3 v5 v6 v7 v8 u0 → RG σ → Shp dm ra jx rm σ → JJ p l e R s m args below meth c 12 D cA A n0 s0 QM σ 231 [(0, .ref rm), (1, va_rf v1), (3, .long v3), (5, va_rf v5), (6, .int (i32 v6)), (7, .int (i32 v7)), (8, .int (i32 v8))] [.int (i32 u0), .ref (ra 20)] := by
  intro σ v1 v3 v5 v6 v7 v8 u0 g6 g7 g8 gu0 h hGσ hS H locs ls hH hl hc
  have B := K.1
  unfold w_X16_worth_231 at h
  refine lv_lconst (v := 1) B.1 B.2.1 dX16_worth_231 (by decide) ?_
  refine lv_goto (tgt := 236) B.1 B.2.1 dX16_worth_232 (by decide) ?_
  exact a_X16_worth_236 K hQ hX hK11 _ _ _ _ _ _ _ _ _ g6 g7 g8 gu0 h hGσ hS _ _ _ hH (lv_sub (l' := [(0, .ref rm), (1, va_rf v1), (3, .long v3), (5, va_rf v5), (6, .int (i32 v6)), (7, .int (i32 v7)), (8, .int (i32 v8))]) hl [0, 1, 2, 3, 4, 5, 6] rfl) hc
set_option maxRecDepth 20000 in
theorem a_X16_worth_209 {Q : Sg → Int64 → Prop} {X : Sg → String → Prop} (K : MC R p s m args c cX16_worth 12 RX16 D cA tys A n0 s0 1 25 []) (hQ : HQJ p l e R s m args below meth c cX16_worth D cA A n0 s0 QM dm ra jx rm Q) (hX : HX p l e R s m args below meth c 12 D cA A n0 s0 QM dm ra jx rm X) {K11 : Sg → Option Nat → Int64 → Option Nat → Int → Int → Int → Prop} (hK11 : ∀ (σ : Sg) (v1 : Option Nat) (v3 : Int64) (v5 : Option Nat) (v6 : Int) (v7 : Int) (v8 : Int) (g6 : rng v6) (g7 : rng v7) (g8 : rng v8), K11 σ v1 v3 v5 v6 v7 v8 → RG σ → Shp dm ra jx rm σ → JJ p l e R s m args below meth c 12 D cA A n0 s0 QM σ 11 [(0, .ref rm), (1, va_rf v1), (3, .long v3), (5, va_rf v5), (6, .int (i32 v6)), (7, .int (i32 v7)), (8, .int (i32 v8))] []) : ∀ (σ : Sg) (v1 : Option Nat) (v3 : Int64) (v5 : Option Nat) (v6 : Int) (v7 : Int) (v8 : Int) (g6 : rng v6) (g7 : rng v7) (g8 : rng v8), w_X16_worth_209 ra jx rm K11 Q X σ v1 v3 v5 v6 v7 v8 → RG σ → Shp dm ra jx rm σ → JJ p l e R s m args below meth c 12 D cA A n0 s0 QM σ 209 [(0, .ref rm), (1, va_rf v1), (3, .long v3), (5, va_rf v5), (6, .int (i32 v6)), (7, .int (i32 v7)), (8, .int (i32 v8))] [] := by
  intro σ v1 v3 v5 v6 v7 v8 g6 g7 g8 h hGσ hS H locs ls hH hl hc
  have B := K.1
  unfold w_X16_worth_209 at h
  refine lv_aload_n B.1 B.2.1 dX16_worth_209 rfl (lv_at hl 0 rfl) ?_
  refine r_arr B hH hS 20 (kd := 101) (n := 1600) (by decide) (by decide) wf_X16_336 rfl rfl dX16_worth_210 ?_
  refine lv_iload B.1 B.2.1 dX16_worth_213 (lv_at hl 5 rfl) ?_
  refine lv_iconst (v := i32 1) B.1 B.2.1 dX16_worth_215 (by decide) ?_
  obtain ⟨q1, h⟩ := h
  refine lv_isub B.1 B.2.1 dX16_worth_216 ?_
  rw [i32_sub]
  refine lv_aload_n B.1 B.2.1 dX16_worth_217 rfl (lv_at hl 0 rfl) ?_
  refine r_arr B hH hS 20 (kd := 101) (n := 1600) (by decide) (by decide) wf_X16_336 rfl rfl dX16_worth_218 ?_
  refine lv_iload B.1 B.2.1 dX16_worth_221 (lv_at hl 5 rfl) ?_
  refine lv_iconst (v := i32 1) B.1 B.2.1 dX16_worth_223 (by decide) ?_
  obtain ⟨q2, h⟩ := h
  refine lv_isub B.1 B.2.1 dX16_worth_224 ?_
  rw [i32_sub]
  obtain ⟨q3, h⟩ := h
  refine x_lald B K.2.1 hH (hS.ar (k := 20) (kd := 101) (n := 1600) (by decide)) (by decide) q3 dX16_worth_225 ?_
  refine lv_lconst (v := 0) B.1 B.2.1 dX16_worth_226 (by decide) ?_
  refine W.lcmp B.1 B.2.1 dX16_worth_227 ?_
  refine lv_if_ne (tgt := 235) B.1 B.2.1 dX16_worth_228 (by decide) (fun h9 => ?_) (fun h9 => ?_)
  · rw [if_pos (fun q => h9 ((lg_cmp_eq _ _).mpr q))] at h
    exact a_X16_worth_235 K hQ hX hK11 _ _ _ _ _ _ _ _ g6 g7 g8 q2 h hGσ hS _ _ _ hH (lv_sub (l' := [(0, .ref rm), (1, va_rf v1), (3, .long v3), (5, va_rf v5), (6, .int (i32 v6)), (7, .int (i32 v7)), (8, .int (i32 v8))]) hl [0, 1, 2, 3, 4, 5, 6] rfl) hc
  · rw [if_neg (fun q => q ((lg_cmp_eq _ _).mp h9))] at h
    exact a_X16_worth_231 K hQ hX hK11 _ _ _ _ _ _ _ _ g6 g7 g8 q2 h hGσ hS _ _ _ hH (lv_sub (l' := [(0, .ref rm), (1, va_rf v1), (3, .long v3), (5, va_rf v5), (6, .int (i32 v6)), (7, .int (i32 v7)), (8, .int (i32 v8))]) hl [0, 1, 2, 3, 4, 5, 6] rfl) hc
set_option maxRecDepth 20000 in
theorem a_X16_worth_267 {Q : Sg → Int64 → Prop} {X : Sg → String → Prop} (K : MC R p s m args c cX16_worth 12 RX16 D cA tys A n0 s0 1 25 []) (hQ : HQJ p l e R s m args below meth c cX16_worth D cA A n0 s0 QM dm ra jx rm Q) (hX : HX p l e R s m args below meth c 12 D cA A n0 s0 QM dm ra jx rm X) {K11 : Sg → Option Nat → Int64 → Option Nat → Int → Int → Int → Prop} (hK11 : ∀ (σ : Sg) (v1 : Option Nat) (v3 : Int64) (v5 : Option Nat) (v6 : Int) (v7 : Int) (v8 : Int) (g6 : rng v6) (g7 : rng v7) (g8 : rng v8), K11 σ v1 v3 v5 v6 v7 v8 → RG σ → Shp dm ra jx rm σ → JJ p l e R s m args below meth c 12 D cA A n0 s0 QM σ 11 [(0, .ref rm), (1, va_rf v1), (3, .long v3), (5, va_rf v5), (6, .int (i32 v6)), (7, .int (i32 v7)), (8, .int (i32 v8))] []) : ∀ (σ : Sg) (v1 : Option Nat) (v3 : Int64) (v5 : Option Nat) (v6 : Int) (v7 : Int) (v8 : Int) (u0 : Int64) (u1 : Int) (g6 : rng v6) (g7 : rng v7) (g8 : rng v8) (gu1 : rng u1), w_X16_worth_267 ra jx rm K11 Q X σ v1 v3 v5 v6 v7 v8 u0 u1 → RG σ → Shp dm ra jx rm σ → JJ p l e R s m args below meth c 12 D cA A n0 s0 QM σ 267 [(0, .ref rm), (1, va_rf v1), (3, .long v3), (5, va_rf v5), (6, .int (i32 v6)), (7, .int (i32 v7)), (8, .int (i32 v8))] [.long u0, .int (i32 u1), .ref (ra 20)] := by
  intro σ v1 v3 v5 v6 v7 v8 u0 u1 g6 g7 g8 gu1 h hGσ hS H locs ls hH hl hc
  have B := K.1
  unfold w_X16_worth_267 at h
  obtain ⟨q1, h⟩ := h
  obtain ⟨σ38, eσ38⟩ : ∃ z, z = pJ σ (ra 20) u1.toNat u0 := ⟨_, rfl⟩
  have h := h σ38 eσ38
  refine x_last B K.2.1 hH (hS.ar (k := 20) (kd := 101) (n := 1600) (by decide)) (by decide) q1 dX16_worth_267 (fun H locs hH => ?_)
  have hH : Hd D cA A s (pJ σ (ra 20) u1.toNat u0) H locs := hH
  rw [← eσ38] at hH
  have hGσ38 : RG σ38 := by rw [eσ38]; exact hGσ.pJ
  have hS : Shp dm ra jx rm σ38 := by rw [eσ38]; exact hS
  have hc : CB n0 s0 σ38 := by rw [eσ38]; exact hc
  rw [show gc σ = gc σ38 by rw [eσ38], show gs σ = gs σ38 by rw [eσ38]]
  refine lv_goto (tgt := 369) B.1 B.2.1 dX16_worth_268 (by decide) ?_
  exact a_X16_worth_369 K hQ hX hK11 _ _ _ _ _ _ _ g6 g7 g8 h hGσ38 hS _ _ _ hH (lv_sub (l' := [(0, .ref rm), (1, va_rf v1), (3, .long v3), (5, va_rf v5), (6, .int (i32 v6)), (7, .int (i32 v7)), (8, .int (i32 v8))]) hl [0, 1, 2, 3, 4, 5, 6] rfl) hc
set_option maxRecDepth 20000 in
theorem a_X16_worth_266 {Q : Sg → Int64 → Prop} {X : Sg → String → Prop} (K : MC R p s m args c cX16_worth 12 RX16 D cA tys A n0 s0 1 25 []) (hQ : HQJ p l e R s m args below meth c cX16_worth D cA A n0 s0 QM dm ra jx rm Q) (hX : HX p l e R s m args below meth c 12 D cA A n0 s0 QM dm ra jx rm X) {K11 : Sg → Option Nat → Int64 → Option Nat → Int → Int → Int → Prop} (hK11 : ∀ (σ : Sg) (v1 : Option Nat) (v3 : Int64) (v5 : Option Nat) (v6 : Int) (v7 : Int) (v8 : Int) (g6 : rng v6) (g7 : rng v7) (g8 : rng v8), K11 σ v1 v3 v5 v6 v7 v8 → RG σ → Shp dm ra jx rm σ → JJ p l e R s m args below meth c 12 D cA A n0 s0 QM σ 11 [(0, .ref rm), (1, va_rf v1), (3, .long v3), (5, va_rf v5), (6, .int (i32 v6)), (7, .int (i32 v7)), (8, .int (i32 v8))] []) : ∀ (σ : Sg) (v1 : Option Nat) (v3 : Int64) (v5 : Option Nat) (v6 : Int) (v7 : Int) (v8 : Int) (u0 : Int) (g6 : rng v6) (g7 : rng v7) (g8 : rng v8) (gu0 : rng u0), w_X16_worth_266 ra jx rm K11 Q X σ v1 v3 v5 v6 v7 v8 u0 → RG σ → Shp dm ra jx rm σ → JJ p l e R s m args below meth c 12 D cA A n0 s0 QM σ 266 [(0, .ref rm), (1, va_rf v1), (3, .long v3), (5, va_rf v5), (6, .int (i32 v6)), (7, .int (i32 v7)), (8, .int (i32 v8))] [.int (i32 u0), .ref (ra 20)] := by
  intro σ v1 v3 v5 v6 v7 v8 u0 g6 g7 g8 gu0 h hGσ hS H locs ls hH hl hc
  have B := K.1
  unfold w_X16_worth_266 at h
  refine lv_lconst (v := 1) B.1 B.2.1 dX16_worth_266 (by decide) ?_
  exact a_X16_worth_267 K hQ hX hK11 _ _ _ _ _ _ _ _ _ g6 g7 g8 gu0 h hGσ hS _ _ _ hH (lv_sub (l' := [(0, .ref rm), (1, va_rf v1), (3, .long v3), (5, va_rf v5), (6, .int (i32 v6)), (7, .int (i32 v7)), (8, .int (i32 v8))]) hl [0, 1, 2, 3, 4, 5, 6] rfl) hc
set_option maxRecDepth 20000 in
theorem a_X16_worth_262 {Q : Sg → Int64 → Prop} {X : Sg → String → Prop} (K : MC R p s m args c cX16_worth 12 RX16 D cA tys A n0 s0 1 25 []) (hQ : HQJ p l e R s m args below meth c cX16_worth D cA A n0 s0 QM dm ra jx rm Q) (hX : HX p l e R s m args below meth c 12 D cA A n0 s0 QM dm ra jx rm X) {K11 : Sg → Option Nat → Int64 → Option Nat → Int → Int → Int → Prop} (hK11 : ∀ (σ : Sg) (v1 : Option Nat) (v3 : Int64) (v5 : Option Nat) (v6 : Int) (v7 : Int) (v8 : Int) (g6 : rng v6) (g7 : rng v7) (g8 : rng v8), K11 σ v1 v3 v5 v6 v7 v8 → RG σ → Shp dm ra jx rm σ → JJ p l e R s m args below meth c 12 D cA A n0 s0 QM σ 11 [(0, .ref rm), (1, va_rf v1), (3, .long v3), (5, va_rf v5), (6, .int (i32 v6)), (7, .int (i32 v7)), (8, .int (i32 v8))] []) : ∀ (σ : Sg) (v1 : Option Nat) (v3 : Int64) (v5 : Option Nat) (v6 : Int) (v7 : Int) (v8 : Int) (u0 : Int) (g6 : rng v6) (g7 : rng v7) (g8 : rng v8) (gu0 : rng u0), w_X16_worth_262 ra jx rm K11 Q X σ v1 v3 v5 v6 v7 v8 u0 → RG σ → Shp dm ra jx rm σ → JJ p l e R s m args below meth c 12 D cA A n0 s0 QM σ 262 [(0, .ref rm), (1, va_rf v1), (3, .long v3), (5, va_rf v5), (6, .int (i32 v6)), (7, .int (i32 v7)), (8, .int (i32 v8))] [.int (i32 u0), .ref (ra 20)] := by
  intro σ v1 v3 v5 v6 v7 v8 u0 g6 g7 g8 gu0 h hGσ hS H locs ls hH hl hc
  have B := K.1
  unfold w_X16_worth_262 at h
  refine lv_lconst (v := 0) B.1 B.2.1 dX16_worth_262 (by decide) ?_
  refine lv_goto (tgt := 267) B.1 B.2.1 dX16_worth_263 (by decide) ?_
  exact a_X16_worth_267 K hQ hX hK11 _ _ _ _ _ _ _ _ _ g6 g7 g8 gu0 h hGσ hS _ _ _ hH (lv_sub (l' := [(0, .ref rm), (1, va_rf v1), (3, .long v3), (5, va_rf v5), (6, .int (i32 v6)), (7, .int (i32 v7)), (8, .int (i32 v8))]) hl [0, 1, 2, 3, 4, 5, 6] rfl) hc
set_option maxRecDepth 20000 in
theorem a_X16_worth_240 {Q : Sg → Int64 → Prop} {X : Sg → String → Prop} (K : MC R p s m args c cX16_worth 12 RX16 D cA tys A n0 s0 1 25 []) (hQ : HQJ p l e R s m args below meth c cX16_worth D cA A n0 s0 QM dm ra jx rm Q) (hX : HX p l e R s m args below meth c 12 D cA A n0 s0 QM dm ra jx rm X) {K11 : Sg → Option Nat → Int64 → Option Nat → Int → Int → Int → Prop} (hK11 : ∀ (σ : Sg) (v1 : Option Nat) (v3 : Int64) (v5 : Option Nat) (v6 : Int) (v7 : Int) (v8 : Int) (g6 : rng v6) (g7 : rng v7) (g8 : rng v8), K11 σ v1 v3 v5 v6 v7 v8 → RG σ → Shp dm ra jx rm σ → JJ p l e R s m args below meth c 12 D cA A n0 s0 QM σ 11 [(0, .ref rm), (1, va_rf v1), (3, .long v3), (5, va_rf v5), (6, .int (i32 v6)), (7, .int (i32 v7)), (8, .int (i32 v8))] []) : ∀ (σ : Sg) (v1 : Option Nat) (v3 : Int64) (v5 : Option Nat) (v6 : Int) (v7 : Int) (v8 : Int) (g6 : rng v6) (g7 : rng v7) (g8 : rng v8), w_X16_worth_240 ra jx rm K11 Q X σ v1 v3 v5 v6 v7 v8 → RG σ → Shp dm ra jx rm σ → JJ p l e R s m args below meth c 12 D cA A n0 s0 QM σ 240 [(0, .ref rm), (1, va_rf v1), (3, .long v3), (5, va_rf v5), (6, .int (i32 v6)), (7, .int (i32 v7)), (8, .int (i32 v8))] [] := by
  intro σ v1 v3 v5 v6 v7 v8 g6 g7 g8 h hGσ hS H locs ls hH hl hc
  have B := K.1
  unfold w_X16_worth_240 at h
  refine lv_aload_n B.1 B.2.1 dX16_worth_240 rfl (lv_at hl 0 rfl) ?_
  refine r_arr B hH hS 20 (kd := 101) (n := 1600) (by decide) (by decide) wf_X16_336 rfl rfl dX16_worth_241 ?_
  refine lv_iload B.1 B.2.1 dX16_worth_244 (lv_at hl 5 rfl) ?_
  refine lv_iconst (v := i32 1) B.1 B.2.1 dX16_worth_246 (by decide) ?_
  obtain ⟨q1, h⟩ := h
  refine lv_isub B.1 B.2.1 dX16_worth_247 ?_
  rw [i32_sub]
  refine lv_aload_n B.1 B.2.1 dX16_worth_248 rfl (lv_at hl 0 rfl) ?_
  refine r_arr B hH hS 20 (kd := 101) (n := 1600) (by decide) (by decide) wf_X16_336 rfl rfl dX16_worth_249 ?_
  refine lv_iload B.1 B.2.1 dX16_worth_252 (lv_at hl 5 rfl) ?_
  refine lv_iconst (v := i32 1) B.1 B.2.1 dX16_worth_254 (by decide) ?_
  obtain ⟨q2, h⟩ := h
  refine lv_isub B.1 B.2.1 dX16_worth_255 ?_
  rw [i32_sub]
  obtain ⟨q3, h⟩ := h
  refine x_lald B K.2.1 hH (hS.ar (k := 20) (kd := 101) (n := 1600) (by decide)) (by decide) q3 dX16_worth_256 ?_
  refine lv_lconst (v := 0) B.1 B.2.1 dX16_worth_257 (by decide) ?_
  refine W.lcmp B.1 B.2.1 dX16_worth_258 ?_
  refine lv_if_ne (tgt := 266) B.1 B.2.1 dX16_worth_259 (by decide) (fun h9 => ?_) (fun h9 => ?_)
  · rw [if_pos (fun q => h9 ((lg_cmp_eq _ _).mpr q))] at h
    exact a_X16_worth_266 K hQ hX hK11 _ _ _ _ _ _ _ _ g6 g7 g8 q2 h hGσ hS _ _ _ hH (lv_sub (l' := [(0, .ref rm), (1, va_rf v1), (3, .long v3), (5, va_rf v5), (6, .int (i32 v6)), (7, .int (i32 v7)), (8, .int (i32 v8))]) hl [0, 1, 2, 3, 4, 5, 6] rfl) hc
  · rw [if_neg (fun q => q ((lg_cmp_eq _ _).mp h9))] at h
    exact a_X16_worth_262 K hQ hX hK11 _ _ _ _ _ _ _ _ g6 g7 g8 q2 h hGσ hS _ _ _ hH (lv_sub (l' := [(0, .ref rm), (1, va_rf v1), (3, .long v3), (5, va_rf v5), (6, .int (i32 v6)), (7, .int (i32 v7)), (8, .int (i32 v8))]) hl [0, 1, 2, 3, 4, 5, 6] rfl) hc
set_option maxRecDepth 20000 in
theorem a_X16_worth_294 {Q : Sg → Int64 → Prop} {X : Sg → String → Prop} (K : MC R p s m args c cX16_worth 12 RX16 D cA tys A n0 s0 1 25 []) (hQ : HQJ p l e R s m args below meth c cX16_worth D cA A n0 s0 QM dm ra jx rm Q) (hX : HX p l e R s m args below meth c 12 D cA A n0 s0 QM dm ra jx rm X) {K11 : Sg → Option Nat → Int64 → Option Nat → Int → Int → Int → Prop} (hK11 : ∀ (σ : Sg) (v1 : Option Nat) (v3 : Int64) (v5 : Option Nat) (v6 : Int) (v7 : Int) (v8 : Int) (g6 : rng v6) (g7 : rng v7) (g8 : rng v8), K11 σ v1 v3 v5 v6 v7 v8 → RG σ → Shp dm ra jx rm σ → JJ p l e R s m args below meth c 12 D cA A n0 s0 QM σ 11 [(0, .ref rm), (1, va_rf v1), (3, .long v3), (5, va_rf v5), (6, .int (i32 v6)), (7, .int (i32 v7)), (8, .int (i32 v8))] []) : ∀ (σ : Sg) (v1 : Option Nat) (v3 : Int64) (v5 : Option Nat) (v6 : Int) (v7 : Int) (u0 : Int) (g6 : rng v6) (g7 : rng v7) (gu0 : rng u0), w_X16_worth_294 ra jx rm K11 Q X σ v1 v3 v5 v6 v7 u0 → RG σ → Shp dm ra jx rm σ → JJ p l e R s m args below meth c 12 D cA A n0 s0 QM σ 294 [(0, .ref rm), (1, va_rf v1), (3, .long v3), (5, va_rf v5), (6, .int (i32 v6)), (7, .int (i32 v7))] [.int (i32 u0)] := by
  intro σ v1 v3 v5 v6 v7 u0 g6 g7 gu0 h hGσ hS H locs ls hH hl hc
  have B := K.1
  unfold w_X16_worth_294 at h
  refine lv_istore (lv' := [(8, .int (i32 u0)), (0, .ref rm), (1, va_rf v1), (3, .long v3), (5, va_rf v5), (6, .int (i32 v6)), (7, .int (i32 v7))]) B.1 B.2.1 dX16_worth_294 hl (by decide) rfl (fun ls hl => ?_)
  refine lv_goto (tgt := 369) B.1 B.2.1 dX16_worth_296 (by decide) ?_
  exact a_X16_worth_369 K hQ hX hK11 _ _ _ _ _ _ _ g6 g7 gu0 h hGσ hS _ _ _ hH (lv_sub (l' := [(0, .ref rm), (1, va_rf v1), (3, .long v3), (5, va_rf v5), (6, .int (i32 v6)), (7, .int (i32 v7)), (8, .int (i32 u0))]) hl [1, 2, 3, 4, 5, 6, 0] rfl) hc
set_option maxRecDepth 20000 in
theorem a_X16_worth_292 {Q : Sg → Int64 → Prop} {X : Sg → String → Prop} (K : MC R p s m args c cX16_worth 12 RX16 D cA tys A n0 s0 1 25 []) (hQ : HQJ p l e R s m args below meth c cX16_worth D cA A n0 s0 QM dm ra jx rm Q) (hX : HX p l e R s m args below meth c 12 D cA A n0 s0 QM dm ra jx rm X) {K11 : Sg → Option Nat → Int64 → Option Nat → Int → Int → Int → Prop} (hK11 : ∀ (σ : Sg) (v1 : Option Nat) (v3 : Int64) (v5 : Option Nat) (v6 : Int) (v7 : Int) (v8 : Int) (g6 : rng v6) (g7 : rng v7) (g8 : rng v8), K11 σ v1 v3 v5 v6 v7 v8 → RG σ → Shp dm ra jx rm σ → JJ p l e R s m args below meth c 12 D cA A n0 s0 QM σ 11 [(0, .ref rm), (1, va_rf v1), (3, .long v3), (5, va_rf v5), (6, .int (i32 v6)), (7, .int (i32 v7)), (8, .int (i32 v8))] []) : ∀ (σ : Sg) (v1 : Option Nat) (v3 : Int64) (v5 : Option Nat) (v6 : Int) (v7 : Int) (v8 : Int) (g6 : rng v6) (g7 : rng v7) (g8 : rng v8), w_X16_worth_292 ra jx rm K11 Q X σ v1 v3 v5 v6 v7 v8 → RG σ → Shp dm ra jx rm σ → JJ p l e R s m args below meth c 12 D cA A n0 s0 QM σ 292 [(0, .ref rm), (1, va_rf v1), (3, .long v3), (5, va_rf v5), (6, .int (i32 v6)), (7, .int (i32 v7)), (8, .int (i32 v8))] [] := by
  intro σ v1 v3 v5 v6 v7 v8 g6 g7 g8 h hGσ hS H locs ls hH hl hc
  have B := K.1
  unfold w_X16_worth_292 at h
  refine lv_iload B.1 B.2.1 dX16_worth_292 (lv_at hl 6 rfl) ?_
  exact a_X16_worth_294 K hQ hX hK11 _ _ _ _ _ _ _ g6 g7 g8 h hGσ hS _ _ _ hH (lv_sub (l' := [(0, .ref rm), (1, va_rf v1), (3, .long v3), (5, va_rf v5), (6, .int (i32 v6)), (7, .int (i32 v7))]) hl [0, 1, 2, 3, 4, 5] rfl) hc
set_option maxRecDepth 20000 in
theorem a_X16_worth_286 {Q : Sg → Int64 → Prop} {X : Sg → String → Prop} (K : MC R p s m args c cX16_worth 12 RX16 D cA tys A n0 s0 1 25 []) (hQ : HQJ p l e R s m args below meth c cX16_worth D cA A n0 s0 QM dm ra jx rm Q) (hX : HX p l e R s m args below meth c 12 D cA A n0 s0 QM dm ra jx rm X) {K11 : Sg → Option Nat → Int64 → Option Nat → Int → Int → Int → Prop} (hK11 : ∀ (σ : Sg) (v1 : Option Nat) (v3 : Int64) (v5 : Option Nat) (v6 : Int) (v7 : Int) (v8 : Int) (g6 : rng v6) (g7 : rng v7) (g8 : rng v8), K11 σ v1 v3 v5 v6 v7 v8 → RG σ → Shp dm ra jx rm σ → JJ p l e R s m args below meth c 12 D cA A n0 s0 QM σ 11 [(0, .ref rm), (1, va_rf v1), (3, .long v3), (5, va_rf v5), (6, .int (i32 v6)), (7, .int (i32 v7)), (8, .int (i32 v8))] []) : ∀ (σ : Sg) (v1 : Option Nat) (v3 : Int64) (v5 : Option Nat) (v6 : Int) (v7 : Int) (v10 : Int64) (g6 : rng v6) (g7 : rng v7), w_X16_worth_286 ra jx rm K11 Q X σ v1 v3 v5 v6 v7 v10 → RG σ → Shp dm ra jx rm σ → JJ p l e R s m args below meth c 12 D cA A n0 s0 QM σ 286 [(0, .ref rm), (1, va_rf v1), (3, .long v3), (5, va_rf v5), (6, .int (i32 v6)), (7, .int (i32 v7)), (10, .long v10)] [] := by
  intro σ v1 v3 v5 v6 v7 v10 g6 g7 h hGσ hS H locs ls hH hl hc
  have B := K.1
  unfold w_X16_worth_286 at h
  refine lv_lload B.1 B.2.1 dX16_worth_286 (lv_at hl 6 rfl) ?_
  refine lv_l2i B.1 B.2.1 dX16_worth_288 rfl ?_
  refine W.eq (g2 := F0 m 289 ls [.int (i32 ((v10).toInt32.toInt))]) (by simp only [i32_self]) ?_
  refine lv_goto (tgt := 294) B.1 B.2.1 dX16_worth_289 (by decide) ?_
  exact a_X16_worth_294 K hQ hX hK11 _ _ _ _ _ _ _ g6 g7 (rng_toInt _) h hGσ hS _ _ _ hH (lv_sub (l' := [(0, .ref rm), (1, va_rf v1), (3, .long v3), (5, va_rf v5), (6, .int (i32 v6)), (7, .int (i32 v7))]) hl [0, 1, 2, 3, 4, 5] rfl) hc
set_option maxRecDepth 20000 in
theorem a_X16_worth_271 {Q : Sg → Int64 → Prop} {X : Sg → String → Prop} (K : MC R p s m args c cX16_worth 12 RX16 D cA tys A n0 s0 1 25 []) (hQ : HQJ p l e R s m args below meth c cX16_worth D cA A n0 s0 QM dm ra jx rm Q) (hX : HX p l e R s m args below meth c 12 D cA A n0 s0 QM dm ra jx rm X) {K11 : Sg → Option Nat → Int64 → Option Nat → Int → Int → Int → Prop} (hK11 : ∀ (σ : Sg) (v1 : Option Nat) (v3 : Int64) (v5 : Option Nat) (v6 : Int) (v7 : Int) (v8 : Int) (g6 : rng v6) (g7 : rng v7) (g8 : rng v8), K11 σ v1 v3 v5 v6 v7 v8 → RG σ → Shp dm ra jx rm σ → JJ p l e R s m args below meth c 12 D cA A n0 s0 QM σ 11 [(0, .ref rm), (1, va_rf v1), (3, .long v3), (5, va_rf v5), (6, .int (i32 v6)), (7, .int (i32 v7)), (8, .int (i32 v8))] []) : ∀ (σ : Sg) (v1 : Option Nat) (v3 : Int64) (v5 : Option Nat) (v6 : Int) (v7 : Int) (v8 : Int) (v10 : Int64) (g6 : rng v6) (g7 : rng v7) (g8 : rng v8), w_X16_worth_271 ra jx rm K11 Q X σ v1 v3 v5 v6 v7 v8 v10 → RG σ → Shp dm ra jx rm σ → JJ p l e R s m args below meth c 12 D cA A n0 s0 QM σ 271 [(0, .ref rm), (1, va_rf v1), (3, .long v3), (5, va_rf v5), (6, .int (i32 v6)), (7, .int (i32 v7)), (8, .int (i32 v8)), (10, .long v10)] [] := by
  intro σ v1 v3 v5 v6 v7 v8 v10 g6 g7 g8 h hGσ hS H locs ls hH hl hc
  have B := K.1
  unfold w_X16_worth_271 at h
  obtain ⟨q1, h⟩ := h
  refine lv_iinc (k := 5) (v := i32 (v7 + (-1))) (lv' := [(7, .int (i32 (v7 + (-1)))), (0, .ref rm), (1, va_rf v1), (3, .long v3), (5, va_rf v5), (6, .int (i32 v6)), (8, .int (i32 v8)), (10, .long v10)]) B.1 B.2.1 dX16_worth_271 hl rfl (i32_add _ _) (by decide) rfl (fun ls hl => ?_)
  refine lv_aload_n B.1 B.2.1 dX16_worth_274 rfl (lv_at hl 1 rfl) ?_
  refine r_arr B hH hS 20 (kd := 101) (n := 1600) (by decide) (by decide) wf_X16_336 rfl rfl dX16_worth_275 ?_
  refine lv_iload B.1 B.2.1 dX16_worth_278 (lv_at hl 0 rfl) ?_
  obtain ⟨q2, h⟩ := h
  refine x_lald B K.2.1 hH (hS.ar (k := 20) (kd := 101) (n := 1600) (by decide)) (by decide) q2 dX16_worth_280 ?_
  refine lv_lconst (v := 0) B.1 B.2.1 dX16_worth_281 (by decide) ?_
  refine W.lcmp B.1 B.2.1 dX16_worth_282 ?_
  refine lv_if_ne (tgt := 292) B.1 B.2.1 dX16_worth_283 (by decide) (fun h9 => ?_) (fun h9 => ?_)
  · rw [if_pos (fun q => h9 ((lg_cmp_eq _ _).mpr q))] at h
    exact a_X16_worth_292 K hQ hX hK11 _ _ _ _ _ _ _ g6 q1 g8 h hGσ hS _ _ _ hH (lv_sub (l' := [(0, .ref rm), (1, va_rf v1), (3, .long v3), (5, va_rf v5), (6, .int (i32 v6)), (7, .int (i32 (v7 + (-1)))), (8, .int (i32 v8))]) hl [1, 2, 3, 4, 5, 0, 6] rfl) hc
  · rw [if_neg (fun q => q ((lg_cmp_eq _ _).mp h9))] at h
    exact a_X16_worth_286 K hQ hX hK11 _ _ _ _ _ _ _ g6 q1 h hGσ hS _ _ _ hH (lv_sub (l' := [(0, .ref rm), (1, va_rf v1), (3, .long v3), (5, va_rf v5), (6, .int (i32 v6)), (7, .int (i32 (v7 + (-1)))), (10, .long v10)]) hl [1, 2, 3, 4, 5, 0, 7] rfl) hc
set_option maxRecDepth 20000 in
theorem a_X16_worth_322 {Q : Sg → Int64 → Prop} {X : Sg → String → Prop} (K : MC R p s m args c cX16_worth 12 RX16 D cA tys A n0 s0 1 25 []) (hQ : HQJ p l e R s m args below meth c cX16_worth D cA A n0 s0 QM dm ra jx rm Q) (hX : HX p l e R s m args below meth c 12 D cA A n0 s0 QM dm ra jx rm X) {K11 : Sg → Option Nat → Int64 → Option Nat → Int → Int → Int → Prop} (hK11 : ∀ (σ : Sg) (v1 : Option Nat) (v3 : Int64) (v5 : Option Nat) (v6 : Int) (v7 : Int) (v8 : Int) (g6 : rng v6) (g7 : rng v7) (g8 : rng v8), K11 σ v1 v3 v5 v6 v7 v8 → RG σ → Shp dm ra jx rm σ → JJ p l e R s m args below meth c 12 D cA A n0 s0 QM σ 11 [(0, .ref rm), (1, va_rf v1), (3, .long v3), (5, va_rf v5), (6, .int (i32 v6)), (7, .int (i32 v7)), (8, .int (i32 v8))] []) : ∀ (σ : Sg) (v1 : Option Nat) (v3 : Int64) (v5 : Option Nat) (v6 : Int) (v7 : Int) (u0 : Int) (g6 : rng v6) (g7 : rng v7) (gu0 : rng u0), w_X16_worth_322 ra jx rm K11 Q X σ v1 v3 v5 v6 v7 u0 → RG σ → Shp dm ra jx rm σ → JJ p l e R s m args below meth c 12 D cA A n0 s0 QM σ 322 [(0, .ref rm), (1, va_rf v1), (3, .long v3), (5, va_rf v5), (6, .int (i32 v6)), (7, .int (i32 v7))] [.int (i32 u0)] := by
  intro σ v1 v3 v5 v6 v7 u0 g6 g7 gu0 h hGσ hS H locs ls hH hl hc
  have B := K.1
  unfold w_X16_worth_322 at h
  refine lv_istore (lv' := [(8, .int (i32 u0)), (0, .ref rm), (1, va_rf v1), (3, .long v3), (5, va_rf v5), (6, .int (i32 v6)), (7, .int (i32 v7))]) B.1 B.2.1 dX16_worth_322 hl (by decide) rfl (fun ls hl => ?_)
  refine lv_goto (tgt := 369) B.1 B.2.1 dX16_worth_324 (by decide) ?_
  exact a_X16_worth_369 K hQ hX hK11 _ _ _ _ _ _ _ g6 g7 gu0 h hGσ hS _ _ _ hH (lv_sub (l' := [(0, .ref rm), (1, va_rf v1), (3, .long v3), (5, va_rf v5), (6, .int (i32 v6)), (7, .int (i32 v7)), (8, .int (i32 u0))]) hl [1, 2, 3, 4, 5, 6, 0] rfl) hc
set_option maxRecDepth 20000 in
theorem a_X16_worth_320 {Q : Sg → Int64 → Prop} {X : Sg → String → Prop} (K : MC R p s m args c cX16_worth 12 RX16 D cA tys A n0 s0 1 25 []) (hQ : HQJ p l e R s m args below meth c cX16_worth D cA A n0 s0 QM dm ra jx rm Q) (hX : HX p l e R s m args below meth c 12 D cA A n0 s0 QM dm ra jx rm X) {K11 : Sg → Option Nat → Int64 → Option Nat → Int → Int → Int → Prop} (hK11 : ∀ (σ : Sg) (v1 : Option Nat) (v3 : Int64) (v5 : Option Nat) (v6 : Int) (v7 : Int) (v8 : Int) (g6 : rng v6) (g7 : rng v7) (g8 : rng v8), K11 σ v1 v3 v5 v6 v7 v8 → RG σ → Shp dm ra jx rm σ → JJ p l e R s m args below meth c 12 D cA A n0 s0 QM σ 11 [(0, .ref rm), (1, va_rf v1), (3, .long v3), (5, va_rf v5), (6, .int (i32 v6)), (7, .int (i32 v7)), (8, .int (i32 v8))] []) : ∀ (σ : Sg) (v1 : Option Nat) (v3 : Int64) (v5 : Option Nat) (v6 : Int) (v7 : Int) (v8 : Int) (g6 : rng v6) (g7 : rng v7) (g8 : rng v8), w_X16_worth_320 ra jx rm K11 Q X σ v1 v3 v5 v6 v7 v8 → RG σ → Shp dm ra jx rm σ → JJ p l e R s m args below meth c 12 D cA A n0 s0 QM σ 320 [(0, .ref rm), (1, va_rf v1), (3, .long v3), (5, va_rf v5), (6, .int (i32 v6)), (7, .int (i32 v7)), (8, .int (i32 v8))] [] := by
  intro σ v1 v3 v5 v6 v7 v8 g6 g7 g8 h hGσ hS H locs ls hH hl hc
  have B := K.1
  unfold w_X16_worth_320 at h
  refine lv_iload B.1 B.2.1 dX16_worth_320 (lv_at hl 6 rfl) ?_
  exact a_X16_worth_322 K hQ hX hK11 _ _ _ _ _ _ _ g6 g7 g8 h hGσ hS _ _ _ hH (lv_sub (l' := [(0, .ref rm), (1, va_rf v1), (3, .long v3), (5, va_rf v5), (6, .int (i32 v6)), (7, .int (i32 v7))]) hl [0, 1, 2, 3, 4, 5] rfl) hc
set_option maxRecDepth 20000 in
theorem a_X16_worth_314 {Q : Sg → Int64 → Prop} {X : Sg → String → Prop} (K : MC R p s m args c cX16_worth 12 RX16 D cA tys A n0 s0 1 25 []) (hQ : HQJ p l e R s m args below meth c cX16_worth D cA A n0 s0 QM dm ra jx rm Q) (hX : HX p l e R s m args below meth c 12 D cA A n0 s0 QM dm ra jx rm X) {K11 : Sg → Option Nat → Int64 → Option Nat → Int → Int → Int → Prop} (hK11 : ∀ (σ : Sg) (v1 : Option Nat) (v3 : Int64) (v5 : Option Nat) (v6 : Int) (v7 : Int) (v8 : Int) (g6 : rng v6) (g7 : rng v7) (g8 : rng v8), K11 σ v1 v3 v5 v6 v7 v8 → RG σ → Shp dm ra jx rm σ → JJ p l e R s m args below meth c 12 D cA A n0 s0 QM σ 11 [(0, .ref rm), (1, va_rf v1), (3, .long v3), (5, va_rf v5), (6, .int (i32 v6)), (7, .int (i32 v7)), (8, .int (i32 v8))] []) : ∀ (σ : Sg) (v1 : Option Nat) (v3 : Int64) (v5 : Option Nat) (v6 : Int) (v7 : Int) (v10 : Int64) (g6 : rng v6) (g7 : rng v7), w_X16_worth_314 ra jx rm K11 Q X σ v1 v3 v5 v6 v7 v10 → RG σ → Shp dm ra jx rm σ → JJ p l e R s m args below meth c 12 D cA A n0 s0 QM σ 314 [(0, .ref rm), (1, va_rf v1), (3, .long v3), (5, va_rf v5), (6, .int (i32 v6)), (7, .int (i32 v7)), (10, .long v10)] [] := by
  intro σ v1 v3 v5 v6 v7 v10 g6 g7 h hGσ hS H locs ls hH hl hc
  have B := K.1
  unfold w_X16_worth_314 at h
  refine lv_lload B.1 B.2.1 dX16_worth_314 (lv_at hl 6 rfl) ?_
  refine lv_l2i B.1 B.2.1 dX16_worth_316 rfl ?_
  refine W.eq (g2 := F0 m 317 ls [.int (i32 ((v10).toInt32.toInt))]) (by simp only [i32_self]) ?_
  refine lv_goto (tgt := 322) B.1 B.2.1 dX16_worth_317 (by decide) ?_
  exact a_X16_worth_322 K hQ hX hK11 _ _ _ _ _ _ _ g6 g7 (rng_toInt _) h hGσ hS _ _ _ hH (lv_sub (l' := [(0, .ref rm), (1, va_rf v1), (3, .long v3), (5, va_rf v5), (6, .int (i32 v6)), (7, .int (i32 v7))]) hl [0, 1, 2, 3, 4, 5] rfl) hc
set_option maxRecDepth 20000 in
theorem a_X16_worth_299 {Q : Sg → Int64 → Prop} {X : Sg → String → Prop} (K : MC R p s m args c cX16_worth 12 RX16 D cA tys A n0 s0 1 25 []) (hQ : HQJ p l e R s m args below meth c cX16_worth D cA A n0 s0 QM dm ra jx rm Q) (hX : HX p l e R s m args below meth c 12 D cA A n0 s0 QM dm ra jx rm X) {K11 : Sg → Option Nat → Int64 → Option Nat → Int → Int → Int → Prop} (hK11 : ∀ (σ : Sg) (v1 : Option Nat) (v3 : Int64) (v5 : Option Nat) (v6 : Int) (v7 : Int) (v8 : Int) (g6 : rng v6) (g7 : rng v7) (g8 : rng v8), K11 σ v1 v3 v5 v6 v7 v8 → RG σ → Shp dm ra jx rm σ → JJ p l e R s m args below meth c 12 D cA A n0 s0 QM σ 11 [(0, .ref rm), (1, va_rf v1), (3, .long v3), (5, va_rf v5), (6, .int (i32 v6)), (7, .int (i32 v7)), (8, .int (i32 v8))] []) : ∀ (σ : Sg) (v1 : Option Nat) (v3 : Int64) (v5 : Option Nat) (v6 : Int) (v7 : Int) (v8 : Int) (v10 : Int64) (g6 : rng v6) (g7 : rng v7) (g8 : rng v8), w_X16_worth_299 ra jx rm K11 Q X σ v1 v3 v5 v6 v7 v8 v10 → RG σ → Shp dm ra jx rm σ → JJ p l e R s m args below meth c 12 D cA A n0 s0 QM σ 299 [(0, .ref rm), (1, va_rf v1), (3, .long v3), (5, va_rf v5), (6, .int (i32 v6)), (7, .int (i32 v7)), (8, .int (i32 v8)), (10, .long v10)] [] := by
  intro σ v1 v3 v5 v6 v7 v8 v10 g6 g7 g8 h hGσ hS H locs ls hH hl hc
  have B := K.1
  unfold w_X16_worth_299 at h
  obtain ⟨q1, h⟩ := h
  refine lv_iinc (k := 5) (v := i32 (v7 + (-1))) (lv' := [(7, .int (i32 (v7 + (-1)))), (0, .ref rm), (1, va_rf v1), (3, .long v3), (5, va_rf v5), (6, .int (i32 v6)), (8, .int (i32 v8)), (10, .long v10)]) B.1 B.2.1 dX16_worth_299 hl rfl (i32_add _ _) (by decide) rfl (fun ls hl => ?_)
  refine lv_aload_n B.1 B.2.1 dX16_worth_302 rfl (lv_at hl 1 rfl) ?_
  refine r_arr B hH hS 20 (kd := 101) (n := 1600) (by decide) (by decide) wf_X16_336 rfl rfl dX16_worth_303 ?_
  refine lv_iload B.1 B.2.1 dX16_worth_306 (lv_at hl 0 rfl) ?_
  obtain ⟨q2, h⟩ := h
  refine x_lald B K.2.1 hH (hS.ar (k := 20) (kd := 101) (n := 1600) (by decide)) (by decide) q2 dX16_worth_308 ?_
  refine lv_lconst (v := 0) B.1 B.2.1 dX16_worth_309 (by decide) ?_
  refine W.lcmp B.1 B.2.1 dX16_worth_310 ?_
  refine lv_if_eq (tgt := 320) B.1 B.2.1 dX16_worth_311 (by decide) (fun h9 => ?_) (fun h9 => ?_)
  · rw [if_pos ((lg_cmp_eq _ _).mp h9)] at h
    exact a_X16_worth_320 K hQ hX hK11 _ _ _ _ _ _ _ g6 q1 g8 h hGσ hS _ _ _ hH (lv_sub (l' := [(0, .ref rm), (1, va_rf v1), (3, .long v3), (5, va_rf v5), (6, .int (i32 v6)), (7, .int (i32 (v7 + (-1)))), (8, .int (i32 v8))]) hl [1, 2, 3, 4, 5, 0, 6] rfl) hc
  · rw [if_neg (fun q => h9 ((lg_cmp_eq _ _).mpr q))] at h
    exact a_X16_worth_314 K hQ hX hK11 _ _ _ _ _ _ _ g6 q1 h hGσ hS _ _ _ hH (lv_sub (l' := [(0, .ref rm), (1, va_rf v1), (3, .long v3), (5, va_rf v5), (6, .int (i32 v6)), (7, .int (i32 (v7 + (-1)))), (10, .long v10)]) hl [1, 2, 3, 4, 5, 0, 7] rfl) hc
set_option maxRecDepth 20000 in
theorem a_X16_worth_327 {Q : Sg → Int64 → Prop} {X : Sg → String → Prop} (K : MC R p s m args c cX16_worth 12 RX16 D cA tys A n0 s0 1 25 []) (hQ : HQJ p l e R s m args below meth c cX16_worth D cA A n0 s0 QM dm ra jx rm Q) (hX : HX p l e R s m args below meth c 12 D cA A n0 s0 QM dm ra jx rm X) {K11 : Sg → Option Nat → Int64 → Option Nat → Int → Int → Int → Prop} (hK11 : ∀ (σ : Sg) (v1 : Option Nat) (v3 : Int64) (v5 : Option Nat) (v6 : Int) (v7 : Int) (v8 : Int) (g6 : rng v6) (g7 : rng v7) (g8 : rng v8), K11 σ v1 v3 v5 v6 v7 v8 → RG σ → Shp dm ra jx rm σ → JJ p l e R s m args below meth c 12 D cA A n0 s0 QM σ 11 [(0, .ref rm), (1, va_rf v1), (3, .long v3), (5, va_rf v5), (6, .int (i32 v6)), (7, .int (i32 v7)), (8, .int (i32 v8))] []) : ∀ (σ : Sg) (v1 : Option Nat) (v3 : Int64) (v5 : Option Nat) (v6 : Int) (v7 : Int) (v10 : Int64) (g6 : rng v6) (g7 : rng v7), w_X16_worth_327 ra jx rm K11 Q X σ v1 v3 v5 v6 v7 v10 → RG σ → Shp dm ra jx rm σ → JJ p l e R s m args below meth c 12 D cA A n0 s0 QM σ 327 [(0, .ref rm), (1, va_rf v1), (3, .long v3), (5, va_rf v5), (6, .int (i32 v6)), (7, .int (i32 v7)), (10, .long v10)] [] := by
  intro σ v1 v3 v5 v6 v7 v10 g6 g7 h hGσ hS H locs ls hH hl hc
  have B := K.1
  unfold w_X16_worth_327 at h
  refine lv_lload B.1 B.2.1 dX16_worth_327 (lv_at hl 6 rfl) ?_
  refine lv_l2i B.1 B.2.1 dX16_worth_329 rfl ?_
  refine W.eq (g2 := F0 m 330 ls [.int (i32 ((v10).toInt32.toInt))]) (by simp only [i32_self]) ?_
  refine lv_istore (lv' := [(8, .int (i32 ((v10).toInt32.toInt))), (0, .ref rm), (1, va_rf v1), (3, .long v3), (5, va_rf v5), (6, .int (i32 v6)), (7, .int (i32 v7)), (10, .long v10)]) B.1 B.2.1 dX16_worth_330 hl (by decide) rfl (fun ls hl => ?_)
  refine lv_goto (tgt := 369) B.1 B.2.1 dX16_worth_332 (by decide) ?_
  exact a_X16_worth_369 K hQ hX hK11 _ _ _ _ _ _ _ g6 g7 (rng_toInt _) h hGσ hS _ _ _ hH (lv_sub (l' := [(0, .ref rm), (1, va_rf v1), (3, .long v3), (5, va_rf v5), (6, .int (i32 v6)), (7, .int (i32 v7)), (8, .int (i32 ((v10).toInt32.toInt)))]) hl [1, 2, 3, 4, 5, 6, 0] rfl) hc
set_option maxRecDepth 20000 in
theorem a_X16_worth_335 {Q : Sg → Int64 → Prop} {X : Sg → String → Prop} (K : MC R p s m args c cX16_worth 12 RX16 D cA tys A n0 s0 1 25 []) (hQ : HQJ p l e R s m args below meth c cX16_worth D cA A n0 s0 QM dm ra jx rm Q) (hX : HX p l e R s m args below meth c 12 D cA A n0 s0 QM dm ra jx rm X) {K11 : Sg → Option Nat → Int64 → Option Nat → Int → Int → Int → Prop} (hK11 : ∀ (σ : Sg) (v1 : Option Nat) (v3 : Int64) (v5 : Option Nat) (v6 : Int) (v7 : Int) (v8 : Int) (g6 : rng v6) (g7 : rng v7) (g8 : rng v8), K11 σ v1 v3 v5 v6 v7 v8 → RG σ → Shp dm ra jx rm σ → JJ p l e R s m args below meth c 12 D cA A n0 s0 QM σ 11 [(0, .ref rm), (1, va_rf v1), (3, .long v3), (5, va_rf v5), (6, .int (i32 v6)), (7, .int (i32 v7)), (8, .int (i32 v8))] []) : ∀ (σ : Sg) (v1 : Option Nat) (v3 : Int64) (v5 : Option Nat) (v6 : Int) (v7 : Int) (v8 : Int) (v9 : Int) (g6 : rng v6) (g7 : rng v7) (g8 : rng v8) (g9 : rng v9), w_X16_worth_335 ra jx rm K11 Q X σ v1 v3 v5 v6 v7 v8 v9 → RG σ → Shp dm ra jx rm σ → JJ p l e R s m args below meth c 12 D cA A n0 s0 QM σ 335 [(0, .ref rm), (1, va_rf v1), (3, .long v3), (5, va_rf v5), (6, .int (i32 v6)), (7, .int (i32 v7)), (8, .int (i32 v8)), (9, .int (i32 v9))] [] := by
  intro σ v1 v3 v5 v6 v7 v8 v9 g6 g7 g8 g9 h hGσ hS H locs ls hH hl hc
  have B := K.1
  unfold w_X16_worth_335 at h
  obtain ⟨q1, h⟩ := h
  refine lv_iinc (k := 5) (v := i32 (v7 + (-1))) (lv' := [(7, .int (i32 (v7 + (-1)))), (0, .ref rm), (1, va_rf v1), (3, .long v3), (5, va_rf v5), (6, .int (i32 v6)), (8, .int (i32 v8)), (9, .int (i32 v9))]) B.1 B.2.1 dX16_worth_335 hl rfl (i32_add _ _) (by decide) rfl (fun ls hl => ?_)
  refine lv_aload_n B.1 B.2.1 dX16_worth_338 rfl (lv_at hl 1 rfl) ?_
  refine r_arr B hH hS 20 (kd := 101) (n := 1600) (by decide) (by decide) wf_X16_336 rfl rfl dX16_worth_339 ?_
  refine lv_iload B.1 B.2.1 dX16_worth_342 (lv_at hl 0 rfl) ?_
  refine lv_iconst (v := i32 1) B.1 B.2.1 dX16_worth_344 (by decide) ?_
  obtain ⟨q2, h⟩ := h
  refine lv_isub B.1 B.2.1 dX16_worth_345 ?_
  rw [i32_sub]
  refine lv_aload_n B.1 B.2.1 dX16_worth_346 rfl (lv_at hl 1 rfl) ?_
  refine lv_iload B.1 B.2.1 dX16_worth_347 (lv_at hl 7 rfl) ?_
  refine lv_aload_n B.1 B.2.1 dX16_worth_349 rfl (lv_at hl 1 rfl) ?_
  refine r_arr B hH hS 20 (kd := 101) (n := 1600) (by decide) (by decide) wf_X16_336 rfl rfl dX16_worth_350 ?_
  refine lv_iload B.1 B.2.1 dX16_worth_353 (lv_at hl 0 rfl) ?_
  refine lv_iconst (v := i32 1) B.1 B.2.1 dX16_worth_355 (by decide) ?_
  obtain ⟨q3, h⟩ := h
  refine lv_isub B.1 B.2.1 dX16_worth_356 ?_
  rw [i32_sub]
  obtain ⟨q4, h⟩ := h
  refine x_lald B K.2.1 hH (hS.ar (k := 20) (kd := 101) (n := 1600) (by decide)) (by decide) q4 dX16_worth_357 ?_
  refine lv_aload_n B.1 B.2.1 dX16_worth_358 rfl (lv_at hl 1 rfl) ?_
  refine r_arr B hH hS 20 (kd := 101) (n := 1600) (by decide) (by decide) wf_X16_336 rfl rfl dX16_worth_359 ?_
  refine lv_iload B.1 B.2.1 dX16_worth_362 (lv_at hl 0 rfl) ?_
  obtain ⟨q5, h⟩ := h
  refine x_lald B K.2.1 hH (hS.ar (k := 20) (kd := 101) (n := 1600) (by decide)) (by decide) q5 dX16_worth_364 ?_
  refine c_V B hH hl hc K.2.2.1 (C := RX16) (T := TX16) (N := 123) (ci := 16) (As := [.int (i32 v9), .long (gJ σ (ra 20) ((v7 + (-1)) - 1).toNat), .long (gJ σ (ra 20) (v7 + (-1)).toNat)]) (ok_X16_two K.2.1 σ v9 (gJ σ (ra 20) ((v7 + (-1)) - 1).toNat) (gJ σ (ra 20) (v7 + (-1)).toNat) g9 hGσ hS h) wc_X16_339 3 hd_X16_two ⟨Nat.le_trans (Nat.le_of_ble_eq_true rfl) K.2.2.2.1, Nat.le_trans (Nat.le_of_ble_eq_true rfl) K.2.2.2.2.1⟩ hS.1.1 hS.1.2 (by decide) rfl rfl (rest := [.int (i32 ((v7 + (-1)) - 1)), .ref (ra 20)]) rfl (Nat.le_of_ble_eq_true rfl) dX16_worth_365 (fun σ39 w hq => ?_) (fun σ9 E9 hx9 => hX σ9 E9 _ _ _ (tb_out K.2.2.2.2.2 rfl) hx9.1 hx9.2.1 hx9.2.2)
  obtain ⟨r40, rfl, h, hGσ39, hS⟩ := hq
  intro H locs ls hH hl hc
  refine W.eq (g2 := F0 m 368 ls [.long r40, .int (i32 ((v7 + (-1)) - 1)), .ref (ra 20)]) (rfl) ?_
  try dsimp only at h
  obtain ⟨q6, h⟩ := h
  obtain ⟨σ41, eσ41⟩ : ∃ z, z = pJ σ39 (ra 20) ((v7 + (-1)) - 1).toNat r40 := ⟨_, rfl⟩
  have h := h σ41 eσ41
  refine x_last B K.2.1 hH (hS.ar (k := 20) (kd := 101) (n := 1600) (by decide)) (by decide) q6 dX16_worth_368 (fun H locs hH => ?_)
  have hH : Hd D cA A s (pJ σ39 (ra 20) ((v7 + (-1)) - 1).toNat r40) H locs := hH
  rw [← eσ41] at hH
  have hGσ41 : RG σ41 := by rw [eσ41]; exact hGσ39.pJ
  have hS : Shp dm ra jx rm σ41 := by rw [eσ41]; exact hS
  have hc : CB n0 s0 σ41 := by rw [eσ41]; exact hc
  rw [show gc σ39 = gc σ41 by rw [eσ41], show gs σ39 = gs σ41 by rw [eσ41]]
  exact a_X16_worth_369 K hQ hX hK11 _ _ _ _ _ _ _ g6 q1 g8 h hGσ41 hS _ _ _ hH (lv_sub (l' := [(0, .ref rm), (1, va_rf v1), (3, .long v3), (5, va_rf v5), (6, .int (i32 v6)), (7, .int (i32 (v7 + (-1)))), (8, .int (i32 v8))]) hl [1, 2, 3, 4, 5, 0, 6] rfl) hc
set_option maxRecDepth 20000 in
theorem a_X16_worth_30 {Q : Sg → Int64 → Prop} {X : Sg → String → Prop} (K : MC R p s m args c cX16_worth 12 RX16 D cA tys A n0 s0 1 25 []) (hQ : HQJ p l e R s m args below meth c cX16_worth D cA A n0 s0 QM dm ra jx rm Q) (hX : HX p l e R s m args below meth c 12 D cA A n0 s0 QM dm ra jx rm X) {K11 : Sg → Option Nat → Int64 → Option Nat → Int → Int → Int → Prop} (hK11 : ∀ (σ : Sg) (v1 : Option Nat) (v3 : Int64) (v5 : Option Nat) (v6 : Int) (v7 : Int) (v8 : Int) (g6 : rng v6) (g7 : rng v7) (g8 : rng v8), K11 σ v1 v3 v5 v6 v7 v8 → RG σ → Shp dm ra jx rm σ → JJ p l e R s m args below meth c 12 D cA A n0 s0 QM σ 11 [(0, .ref rm), (1, va_rf v1), (3, .long v3), (5, va_rf v5), (6, .int (i32 v6)), (7, .int (i32 v7)), (8, .int (i32 v8))] []) : ∀ (σ : Sg) (v1 : Option Nat) (v3 : Int64) (v5 : Option Nat) (v6 : Int) (v7 : Int) (v8 : Int) (g6 : rng v6) (g7 : rng v7) (g8 : rng v8), w_X16_worth_30 ra jx rm K11 Q X σ v1 v3 v5 v6 v7 v8 → RG σ → Shp dm ra jx rm σ → JJ p l e R s m args below meth c 12 D cA A n0 s0 QM σ 30 [(0, .ref rm), (1, va_rf v1), (3, .long v3), (5, va_rf v5), (6, .int (i32 v6)), (7, .int (i32 v7)), (8, .int (i32 v8))] [] := by
  intro σ v1 v3 v5 v6 v7 v8 g6 g7 g8 h hGσ hS H locs ls hH hl hc
  have B := K.1
  unfold w_X16_worth_30 at h
  refine lv_aload_nQ B.1 B.2.1 dX16_worth_30 rfl (lv_at hl 1 rfl) ?_
  obtain ⟨a42, ea42, ja42, h⟩ := h
  refine W.eq (g2 := F0 m 31 ls [.ref a42]) (by rw [ea42]; rfl) ?_
  refine n_arr B hH hS ja42 15 (kd := 100) (n := 6000) (by decide) (by decide) (List.mem_of_getElem? (i := 15) rfl) rfl dX16_worth_31 ?_
  refine lv_iload B.1 B.2.1 dX16_worth_34 (lv_at hl 6 rfl) ?_
  obtain ⟨q2, h⟩ := h
  refine x_iald B K.2.1 hH (hS.ja ja42 (k := 15) (kd := 100) (n := 6000) (by decide)) (by decide) q2 dX16_worth_36 ?_
  refine lv_istore (lv' := [(9, .int (i32 (gI σ (jx a42 15) v8.toNat))), (0, .ref rm), (1, va_rf v1), (3, .long v3), (5, va_rf v5), (6, .int (i32 v6)), (7, .int (i32 v7)), (8, .int (i32 v8))]) B.1 B.2.1 dX16_worth_37 hl (by decide) rfl (fun ls hl => ?_)
  refine lv_aload_nQ B.1 B.2.1 dX16_worth_39 rfl (lv_at hl 2 rfl) ?_
  obtain ⟨a43, ea43, ja43, h⟩ := h
  refine W.eq (g2 := F0 m 40 ls [.ref a43]) (by rw [ea43]; rfl) ?_
  refine n_arr B hH hS ja43 16 (kd := 101) (n := 6000) (by decide) (by decide) (List.mem_of_getElem? (i := 16) rfl) rfl dX16_worth_40 ?_
  refine lv_iload B.1 B.2.1 dX16_worth_43 (lv_at hl 7 rfl) ?_
  obtain ⟨q4, h⟩ := h
  refine x_lald B K.2.1 hH (hS.ja ja43 (k := 16) (kd := 101) (n := 6000) (by decide)) (by decide) q4 dX16_worth_45 ?_
  refine lv_lstore (lv' := [(10, .long (gJ σ (jx a43 16) v8.toNat)), (9, .int (i32 (gI σ (jx a42 15) v8.toNat))), (0, .ref rm), (1, va_rf v1), (3, .long v3), (5, va_rf v5), (6, .int (i32 v6)), (7, .int (i32 v7)), (8, .int (i32 v8))]) B.1 B.2.1 dX16_worth_46 hl (by decide) rfl (fun ls hl => ?_)
  obtain ⟨q5, h⟩ := h
  refine lv_iinc (k := 8) (v := i32 (v8 + 1)) (lv' := [(8, .int (i32 (v8 + 1))), (10, .long (gJ σ (jx a43 16) v8.toNat)), (9, .int (i32 (gI σ (jx a42 15) v8.toNat))), (0, .ref rm), (1, va_rf v1), (3, .long v3), (5, va_rf v5), (6, .int (i32 v6)), (7, .int (i32 v7))]) B.1 B.2.1 dX16_worth_48 hl rfl (i32_add _ _) (by decide) rfl (fun ls hl => ?_)
  refine lv_iload B.1 B.2.1 dX16_worth_51 (lv_at hl 2 rfl) ?_
  rcases Classical.em ((gI σ (jx a42 15) v8.toNat) = 0) with e9 | e9
  · rw [if_pos e9] at h
    refine lv_tableIn (off := 83) (tgt := 136) B.1 B.2.1 dX16_worth_53 (by rw [i32_toInt (hGσ _ _), e9]; decide) (by rw [i32_toInt (hGσ _ _), e9]; decide) (by rw [i32_toInt (hGσ _ _), e9]; rfl) (by decide) ?_
    exact a_X16_worth_136 K hQ hX hK11 _ _ _ _ _ _ _ _ g6 g7 q5 h hGσ hS _ _ _ hH (lv_sub (l' := [(0, .ref rm), (1, va_rf v1), (3, .long v3), (5, va_rf v5), (6, .int (i32 v6)), (7, .int (i32 v7)), (8, .int (i32 (v8 + 1))), (10, .long (gJ σ (jx a43 16) v8.toNat))]) hl [3, 4, 5, 6, 7, 8, 0, 1] rfl) hc
  rw [if_neg e9] at h
  have k6 := e9
  rcases Classical.em ((gI σ (jx a42 15) v8.toNat) = 1) with e9 | e9
  · rw [if_pos e9] at h
    refine lv_tableIn (off := 98) (tgt := 151) B.1 B.2.1 dX16_worth_53 (by rw [i32_toInt (hGσ _ _), e9]; decide) (by rw [i32_toInt (hGσ _ _), e9]; decide) (by rw [i32_toInt (hGσ _ _), e9]; rfl) (by decide) ?_
    exact a_X16_worth_151 K hQ hX hK11 _ _ _ _ _ _ _ _ g6 g7 q5 h hGσ hS _ _ _ hH (lv_sub (l' := [(0, .ref rm), (1, va_rf v1), (3, .long v3), (5, va_rf v5), (6, .int (i32 v6)), (7, .int (i32 v7)), (8, .int (i32 (v8 + 1))), (10, .long (gJ σ (jx a43 16) v8.toNat))]) hl [3, 4, 5, 6, 7, 8, 0, 1] rfl) hc
  rw [if_neg e9] at h
  have k7 := e9
  rcases Classical.em ((gI σ (jx a42 15) v8.toNat) = 2) with e9 | e9
  · rw [if_pos e9] at h
    refine lv_tableIn (off := 120) (tgt := 173) B.1 B.2.1 dX16_worth_53 (by rw [i32_toInt (hGσ _ _), e9]; decide) (by rw [i32_toInt (hGσ _ _), e9]; decide) (by rw [i32_toInt (hGσ _ _), e9]; rfl) (by decide) ?_
    exact a_X16_worth_173 K hQ hX hK11 _ _ _ _ _ _ _ g6 g7 q5 h hGσ hS _ _ _ hH (lv_sub (l' := [(0, .ref rm), (1, va_rf v1), (3, .long v3), (5, va_rf v5), (6, .int (i32 v6)), (7, .int (i32 v7)), (8, .int (i32 (v8 + 1)))]) hl [3, 4, 5, 6, 7, 8, 0] rfl) hc
  rw [if_neg e9] at h
  have k8 := e9
  rcases Classical.em ((gI σ (jx a42 15) v8.toNat) = 11) with e9 | e9
  · rw [if_pos e9] at h
    refine lv_tableIn (off := 134) (tgt := 187) B.1 B.2.1 dX16_worth_53 (by rw [i32_toInt (hGσ _ _), e9]; decide) (by rw [i32_toInt (hGσ _ _), e9]; decide) (by rw [i32_toInt (hGσ _ _), e9]; rfl) (by decide) ?_
    exact a_X16_worth_187 K hQ hX hK11 _ _ _ _ _ _ _ g6 g7 q5 h hGσ hS _ _ _ hH (lv_sub (l' := [(0, .ref rm), (1, va_rf v1), (3, .long v3), (5, va_rf v5), (6, .int (i32 v6)), (7, .int (i32 v7)), (8, .int (i32 (v8 + 1)))]) hl [3, 4, 5, 6, 7, 8, 0] rfl) hc
  rw [if_neg e9] at h
  have k9 := e9
  rcases Classical.em ((gI σ (jx a42 15) v8.toNat) = 12) with e9 | e9
  · rw [if_pos e9] at h
    refine lv_tableIn (off := 156) (tgt := 209) B.1 B.2.1 dX16_worth_53 (by rw [i32_toInt (hGσ _ _), e9]; decide) (by rw [i32_toInt (hGσ _ _), e9]; decide) (by rw [i32_toInt (hGσ _ _), e9]; rfl) (by decide) ?_
    exact a_X16_worth_209 K hQ hX hK11 _ _ _ _ _ _ _ g6 g7 q5 h hGσ hS _ _ _ hH (lv_sub (l' := [(0, .ref rm), (1, va_rf v1), (3, .long v3), (5, va_rf v5), (6, .int (i32 v6)), (7, .int (i32 v7)), (8, .int (i32 (v8 + 1)))]) hl [3, 4, 5, 6, 7, 8, 0] rfl) hc
  rw [if_neg e9] at h
  have k10 := e9
  rcases Classical.em ((gI σ (jx a42 15) v8.toNat) = 13) with e9 | e9
  · rw [if_pos e9] at h
    refine lv_tableIn (off := 218) (tgt := 271) B.1 B.2.1 dX16_worth_53 (by rw [i32_toInt (hGσ _ _), e9]; decide) (by rw [i32_toInt (hGσ _ _), e9]; decide) (by rw [i32_toInt (hGσ _ _), e9]; rfl) (by decide) ?_
    exact a_X16_worth_271 K hQ hX hK11 _ _ _ _ _ _ _ _ g6 g7 q5 h hGσ hS _ _ _ hH (lv_sub (l' := [(0, .ref rm), (1, va_rf v1), (3, .long v3), (5, va_rf v5), (6, .int (i32 v6)), (7, .int (i32 v7)), (8, .int (i32 (v8 + 1))), (10, .long (gJ σ (jx a43 16) v8.toNat))]) hl [3, 4, 5, 6, 7, 8, 0, 1] rfl) hc
  rw [if_neg e9] at h
  have k11 := e9
  rcases Classical.em ((gI σ (jx a42 15) v8.toNat) = 14) with e9 | e9
  · rw [if_pos e9] at h
    refine lv_tableIn (off := 246) (tgt := 299) B.1 B.2.1 dX16_worth_53 (by rw [i32_toInt (hGσ _ _), e9]; decide) (by rw [i32_toInt (hGσ _ _), e9]; decide) (by rw [i32_toInt (hGσ _ _), e9]; rfl) (by decide) ?_
    exact a_X16_worth_299 K hQ hX hK11 _ _ _ _ _ _ _ _ g6 g7 q5 h hGσ hS _ _ _ hH (lv_sub (l' := [(0, .ref rm), (1, va_rf v1), (3, .long v3), (5, va_rf v5), (6, .int (i32 v6)), (7, .int (i32 v7)), (8, .int (i32 (v8 + 1))), (10, .long (gJ σ (jx a43 16) v8.toNat))]) hl [3, 4, 5, 6, 7, 8, 0, 1] rfl) hc
  rw [if_neg e9] at h
  have k12 := e9
  rcases Classical.em ((gI σ (jx a42 15) v8.toNat) = 15) with e9 | e9
  · rw [if_pos e9] at h
    refine lv_tableIn (off := 274) (tgt := 327) B.1 B.2.1 dX16_worth_53 (by rw [i32_toInt (hGσ _ _), e9]; decide) (by rw [i32_toInt (hGσ _ _), e9]; decide) (by rw [i32_toInt (hGσ _ _), e9]; rfl) (by decide) ?_
    exact a_X16_worth_327 K hQ hX hK11 _ _ _ _ _ _ _ g6 g7 h hGσ hS _ _ _ hH (lv_sub (l' := [(0, .ref rm), (1, va_rf v1), (3, .long v3), (5, va_rf v5), (6, .int (i32 v6)), (7, .int (i32 v7)), (10, .long (gJ σ (jx a43 16) v8.toNat))]) hl [3, 4, 5, 6, 7, 8, 1] rfl) hc
  rw [if_neg e9] at h
  have k13 := e9
  rcases Classical.em ((gI σ (jx a42 15) v8.toNat) = 16) with e9 | e9
  · rw [if_pos e9] at h
    refine lv_tableIn (off := 187) (tgt := 240) B.1 B.2.1 dX16_worth_53 (by rw [i32_toInt (hGσ _ _), e9]; decide) (by rw [i32_toInt (hGσ _ _), e9]; decide) (by rw [i32_toInt (hGσ _ _), e9]; rfl) (by decide) ?_
    exact a_X16_worth_240 K hQ hX hK11 _ _ _ _ _ _ _ g6 g7 q5 h hGσ hS _ _ _ hH (lv_sub (l' := [(0, .ref rm), (1, va_rf v1), (3, .long v3), (5, va_rf v5), (6, .int (i32 v6)), (7, .int (i32 v7)), (8, .int (i32 (v8 + 1)))]) hl [3, 4, 5, 6, 7, 8, 0] rfl) hc
  rw [if_neg e9] at h
  have k14 := e9
  rcases (show ((gI σ (jx a42 15) v8.toNat) < 0 ∨ 16 < (gI σ (jx a42 15) v8.toNat)) ∨ (gI σ (jx a42 15) v8.toNat) = 3 ∨ (gI σ (jx a42 15) v8.toNat) = 4 ∨ (gI σ (jx a42 15) v8.toNat) = 5 ∨ (gI σ (jx a42 15) v8.toNat) = 6 ∨ (gI σ (jx a42 15) v8.toNat) = 7 ∨ (gI σ (jx a42 15) v8.toNat) = 8 ∨ (gI σ (jx a42 15) v8.toNat) = 9 ∨ (gI σ (jx a42 15) v8.toNat) = 10 by omega) with e9 | e9 | e9 | e9 | e9 | e9 | e9 | e9 | e9
  · refine lv_tableOut (tgt := 335) B.1 B.2.1 dX16_worth_53 (by rw [i32_toInt (hGσ _ _)]; exact e9) (by decide) ?_
    exact a_X16_worth_335 K hQ hX hK11 _ _ _ _ _ _ _ _ g6 g7 q5 (hGσ _ _) h hGσ hS _ _ _ hH (lv_sub (l' := [(0, .ref rm), (1, va_rf v1), (3, .long v3), (5, va_rf v5), (6, .int (i32 v6)), (7, .int (i32 v7)), (8, .int (i32 (v8 + 1))), (9, .int (i32 (gI σ (jx a42 15) v8.toNat)))]) hl [3, 4, 5, 6, 7, 8, 0, 2] rfl) hc
  · refine lv_tableIn (off := 282) (tgt := 335) B.1 B.2.1 dX16_worth_53 (by rw [i32_toInt (hGσ _ _), e9]; decide) (by rw [i32_toInt (hGσ _ _), e9]; decide) (by rw [i32_toInt (hGσ _ _), e9]; rfl) (by decide) ?_
    exact a_X16_worth_335 K hQ hX hK11 _ _ _ _ _ _ _ _ g6 g7 q5 (hGσ _ _) h hGσ hS _ _ _ hH (lv_sub (l' := [(0, .ref rm), (1, va_rf v1), (3, .long v3), (5, va_rf v5), (6, .int (i32 v6)), (7, .int (i32 v7)), (8, .int (i32 (v8 + 1))), (9, .int (i32 (gI σ (jx a42 15) v8.toNat)))]) hl [3, 4, 5, 6, 7, 8, 0, 2] rfl) hc
  · refine lv_tableIn (off := 282) (tgt := 335) B.1 B.2.1 dX16_worth_53 (by rw [i32_toInt (hGσ _ _), e9]; decide) (by rw [i32_toInt (hGσ _ _), e9]; decide) (by rw [i32_toInt (hGσ _ _), e9]; rfl) (by decide) ?_
    exact a_X16_worth_335 K hQ hX hK11 _ _ _ _ _ _ _ _ g6 g7 q5 (hGσ _ _) h hGσ hS _ _ _ hH (lv_sub (l' := [(0, .ref rm), (1, va_rf v1), (3, .long v3), (5, va_rf v5), (6, .int (i32 v6)), (7, .int (i32 v7)), (8, .int (i32 (v8 + 1))), (9, .int (i32 (gI σ (jx a42 15) v8.toNat)))]) hl [3, 4, 5, 6, 7, 8, 0, 2] rfl) hc
  · refine lv_tableIn (off := 282) (tgt := 335) B.1 B.2.1 dX16_worth_53 (by rw [i32_toInt (hGσ _ _), e9]; decide) (by rw [i32_toInt (hGσ _ _), e9]; decide) (by rw [i32_toInt (hGσ _ _), e9]; rfl) (by decide) ?_
    exact a_X16_worth_335 K hQ hX hK11 _ _ _ _ _ _ _ _ g6 g7 q5 (hGσ _ _) h hGσ hS _ _ _ hH (lv_sub (l' := [(0, .ref rm), (1, va_rf v1), (3, .long v3), (5, va_rf v5), (6, .int (i32 v6)), (7, .int (i32 v7)), (8, .int (i32 (v8 + 1))), (9, .int (i32 (gI σ (jx a42 15) v8.toNat)))]) hl [3, 4, 5, 6, 7, 8, 0, 2] rfl) hc
  · refine lv_tableIn (off := 282) (tgt := 335) B.1 B.2.1 dX16_worth_53 (by rw [i32_toInt (hGσ _ _), e9]; decide) (by rw [i32_toInt (hGσ _ _), e9]; decide) (by rw [i32_toInt (hGσ _ _), e9]; rfl) (by decide) ?_
    exact a_X16_worth_335 K hQ hX hK11 _ _ _ _ _ _ _ _ g6 g7 q5 (hGσ _ _) h hGσ hS _ _ _ hH (lv_sub (l' := [(0, .ref rm), (1, va_rf v1), (3, .long v3), (5, va_rf v5), (6, .int (i32 v6)), (7, .int (i32 v7)), (8, .int (i32 (v8 + 1))), (9, .int (i32 (gI σ (jx a42 15) v8.toNat)))]) hl [3, 4, 5, 6, 7, 8, 0, 2] rfl) hc
  · refine lv_tableIn (off := 282) (tgt := 335) B.1 B.2.1 dX16_worth_53 (by rw [i32_toInt (hGσ _ _), e9]; decide) (by rw [i32_toInt (hGσ _ _), e9]; decide) (by rw [i32_toInt (hGσ _ _), e9]; rfl) (by decide) ?_
    exact a_X16_worth_335 K hQ hX hK11 _ _ _ _ _ _ _ _ g6 g7 q5 (hGσ _ _) h hGσ hS _ _ _ hH (lv_sub (l' := [(0, .ref rm), (1, va_rf v1), (3, .long v3), (5, va_rf v5), (6, .int (i32 v6)), (7, .int (i32 v7)), (8, .int (i32 (v8 + 1))), (9, .int (i32 (gI σ (jx a42 15) v8.toNat)))]) hl [3, 4, 5, 6, 7, 8, 0, 2] rfl) hc
  · refine lv_tableIn (off := 282) (tgt := 335) B.1 B.2.1 dX16_worth_53 (by rw [i32_toInt (hGσ _ _), e9]; decide) (by rw [i32_toInt (hGσ _ _), e9]; decide) (by rw [i32_toInt (hGσ _ _), e9]; rfl) (by decide) ?_
    exact a_X16_worth_335 K hQ hX hK11 _ _ _ _ _ _ _ _ g6 g7 q5 (hGσ _ _) h hGσ hS _ _ _ hH (lv_sub (l' := [(0, .ref rm), (1, va_rf v1), (3, .long v3), (5, va_rf v5), (6, .int (i32 v6)), (7, .int (i32 v7)), (8, .int (i32 (v8 + 1))), (9, .int (i32 (gI σ (jx a42 15) v8.toNat)))]) hl [3, 4, 5, 6, 7, 8, 0, 2] rfl) hc
  · refine lv_tableIn (off := 282) (tgt := 335) B.1 B.2.1 dX16_worth_53 (by rw [i32_toInt (hGσ _ _), e9]; decide) (by rw [i32_toInt (hGσ _ _), e9]; decide) (by rw [i32_toInt (hGσ _ _), e9]; rfl) (by decide) ?_
    exact a_X16_worth_335 K hQ hX hK11 _ _ _ _ _ _ _ _ g6 g7 q5 (hGσ _ _) h hGσ hS _ _ _ hH (lv_sub (l' := [(0, .ref rm), (1, va_rf v1), (3, .long v3), (5, va_rf v5), (6, .int (i32 v6)), (7, .int (i32 v7)), (8, .int (i32 (v8 + 1))), (9, .int (i32 (gI σ (jx a42 15) v8.toNat)))]) hl [3, 4, 5, 6, 7, 8, 0, 2] rfl) hc
  · refine lv_tableIn (off := 282) (tgt := 335) B.1 B.2.1 dX16_worth_53 (by rw [i32_toInt (hGσ _ _), e9]; decide) (by rw [i32_toInt (hGσ _ _), e9]; decide) (by rw [i32_toInt (hGσ _ _), e9]; rfl) (by decide) ?_
    exact a_X16_worth_335 K hQ hX hK11 _ _ _ _ _ _ _ _ g6 g7 q5 (hGσ _ _) h hGσ hS _ _ _ hH (lv_sub (l' := [(0, .ref rm), (1, va_rf v1), (3, .long v3), (5, va_rf v5), (6, .int (i32 v6)), (7, .int (i32 v7)), (8, .int (i32 (v8 + 1))), (9, .int (i32 (gI σ (jx a42 15) v8.toNat)))]) hl [3, 4, 5, 6, 7, 8, 0, 2] rfl) hc
set_option maxRecDepth 20000 in
theorem a_X16_worth_23 {Q : Sg → Int64 → Prop} {X : Sg → String → Prop} (K : MC R p s m args c cX16_worth 12 RX16 D cA tys A n0 s0 1 25 []) (hQ : HQJ p l e R s m args below meth c cX16_worth D cA A n0 s0 QM dm ra jx rm Q) (hX : HX p l e R s m args below meth c 12 D cA A n0 s0 QM dm ra jx rm X) {K11 : Sg → Option Nat → Int64 → Option Nat → Int → Int → Int → Prop} (hK11 : ∀ (σ : Sg) (v1 : Option Nat) (v3 : Int64) (v5 : Option Nat) (v6 : Int) (v7 : Int) (v8 : Int) (g6 : rng v6) (g7 : rng v7) (g8 : rng v8), K11 σ v1 v3 v5 v6 v7 v8 → RG σ → Shp dm ra jx rm σ → JJ p l e R s m args below meth c 12 D cA A n0 s0 QM σ 11 [(0, .ref rm), (1, va_rf v1), (3, .long v3), (5, va_rf v5), (6, .int (i32 v6)), (7, .int (i32 v7)), (8, .int (i32 v8))] []) : ∀ (σ : Sg) (v1 : Option Nat) (v3 : Int64) (v5 : Option Nat) (v6 : Int) (v7 : Int) (v8 : Int) (g6 : rng v6) (g7 : rng v7) (g8 : rng v8), w_X16_worth_23 ra jx rm K11 Q X σ v1 v3 v5 v6 v7 v8 → RG σ → Shp dm ra jx rm σ → JJ p l e R s m args below meth c 12 D cA A n0 s0 QM σ 23 [(0, .ref rm), (1, va_rf v1), (3, .long v3), (5, va_rf v5), (6, .int (i32 v6)), (7, .int (i32 v7)), (8, .int (i32 v8))] [] := by
  intro σ v1 v3 v5 v6 v7 v8 g6 g7 g8 h hGσ hS H locs ls hH hl hc
  have B := K.1
  unfold w_X16_worth_23 at h
  refine lv_aload_n B.1 B.2.1 dX16_worth_23 rfl (lv_at hl 0 rfl) ?_
  refine r_geti B hH hS 21 (by decide) wf_X16_330 rfl rfl dX16_worth_24 ?_
  refine lv_if_ne (tgt := 372) B.1 B.2.1 dX16_worth_27 (by decide) (fun h9 => ?_) (fun h9 => ?_)
  · rw [if_pos (fun q => h9 ((z_eq (hGσ _ _)).mpr q))] at h
    exact a_X16_worth_372 K hQ hX _ h hGσ hS _ _ _ hH (lv_sub (l' := [(0, .ref rm)]) hl [0] rfl) hc
  · rw [if_neg (fun q => q ((z_eq (hGσ _ _)).mp h9))] at h
    exact a_X16_worth_30 K hQ hX hK11 _ _ _ _ _ _ _ g6 g7 g8 h hGσ hS _ _ _ hH (lv_sub (l' := [(0, .ref rm), (1, va_rf v1), (3, .long v3), (5, va_rf v5), (6, .int (i32 v6)), (7, .int (i32 v7)), (8, .int (i32 v8))]) hl [0, 1, 2, 3, 4, 5, 6] rfl) hc
set_option maxRecDepth 20000 in
theorem a_X16_worth_11 {Q : Sg → Int64 → Prop} {X : Sg → String → Prop} (K : MC R p s m args c cX16_worth 12 RX16 D cA tys A n0 s0 1 25 []) (hQ : HQJ p l e R s m args below meth c cX16_worth D cA A n0 s0 QM dm ra jx rm Q) (hX : HX p l e R s m args below meth c 12 D cA A n0 s0 QM dm ra jx rm X) {K11 : Sg → Option Nat → Int64 → Option Nat → Int → Int → Int → Prop} (hK11 : ∀ (σ : Sg) (v1 : Option Nat) (v3 : Int64) (v5 : Option Nat) (v6 : Int) (v7 : Int) (v8 : Int) (g6 : rng v6) (g7 : rng v7) (g8 : rng v8), K11 σ v1 v3 v5 v6 v7 v8 → RG σ → Shp dm ra jx rm σ → JJ p l e R s m args below meth c 12 D cA A n0 s0 QM σ 11 [(0, .ref rm), (1, va_rf v1), (3, .long v3), (5, va_rf v5), (6, .int (i32 v6)), (7, .int (i32 v7)), (8, .int (i32 v8))] []) : ∀ (σ : Sg) (v1 : Option Nat) (v3 : Int64) (v5 : Option Nat) (v6 : Int) (v7 : Int) (v8 : Int) (g6 : rng v6) (g7 : rng v7) (g8 : rng v8), w_X16_worth_11 ra jx rm K11 Q X σ v1 v3 v5 v6 v7 v8 → RG σ → Shp dm ra jx rm σ → JJ p l e R s m args below meth c 12 D cA A n0 s0 QM σ 11 [(0, .ref rm), (1, va_rf v1), (3, .long v3), (5, va_rf v5), (6, .int (i32 v6)), (7, .int (i32 v7)), (8, .int (i32 v8))] [] := by
  intro σ v1 v3 v5 v6 v7 v8 g6 g7 g8 h hGσ hS H locs ls hH hl hc
  have B := K.1
  unfold w_X16_worth_11 at h
  refine lv_aload_nQ B.1 B.2.1 dX16_worth_11 rfl (lv_at hl 1 rfl) ?_
  obtain ⟨a44, ea44, ja44, h⟩ := h
  refine W.eq (g2 := F0 m 12 ls [.ref a44]) (by rw [ea44]; rfl) ?_
  refine n_arr B hH hS ja44 15 (kd := 100) (n := 6000) (by decide) (by decide) (List.mem_of_getElem? (i := 15) rfl) rfl dX16_worth_12 ?_
  refine lv_iload B.1 B.2.1 dX16_worth_15 (lv_at hl 6 rfl) ?_
  obtain ⟨q2, h⟩ := h
  refine x_iald B K.2.1 hH (hS.ja ja44 (k := 15) (kd := 100) (n := 6000) (by decide)) (by decide) q2 dX16_worth_17 ?_
  refine lv_bipush (v := i32 17) B.1 B.2.1 dX16_worth_18 (by decide) ?_
  refine lv_icmp_eq (tgt := 372) B.1 B.2.1 dX16_worth_20 (by decide) (fun h9 => ?_) (fun h9 => ?_)
  · rw [if_pos ((i32_eq (hGσ _ _) (by unfold rng; omega)).mp h9)] at h
    exact a_X16_worth_372 K hQ hX _ h hGσ hS _ _ _ hH (lv_sub (l' := [(0, .ref rm)]) hl [0] rfl) hc
  · rw [if_neg (fun q => h9 ((i32_eq (hGσ _ _) (by unfold rng; omega)).mpr q))] at h
    exact a_X16_worth_23 K hQ hX hK11 _ _ _ _ _ _ _ g6 g7 g8 h hGσ hS _ _ _ hH (lv_sub (l' := [(0, .ref rm), (1, va_rf v1), (3, .long v3), (5, va_rf v5), (6, .int (i32 v6)), (7, .int (i32 v7)), (8, .int (i32 v8))]) hl [0, 1, 2, 3, 4, 5, 6] rfl) hc
theorem al_X16_worth_11 {Q : Sg → Int64 → Prop} {X : Sg → String → Prop} (K : MC R p s m args c cX16_worth 12 RX16 D cA tys A n0 s0 1 25 []) (hQ : HQJ p l e R s m args below meth c cX16_worth D cA A n0 s0 QM dm ra jx rm Q) (hX : HX p l e R s m args below meth c 12 D cA A n0 s0 QM dm ra jx rm X) : ∀ (n : Nat), ∀ (σ : Sg) (v1 : Option Nat) (v3 : Int64) (v5 : Option Nat) (v6 : Int) (v7 : Int) (v8 : Int) (g6 : rng v6) (g7 : rng v7) (g8 : rng v8), wl_X16_worth_11 ra jx rm Q X n σ v1 v3 v5 v6 v7 v8 → RG σ → Shp dm ra jx rm σ → JJ p l e R s m args below meth c 12 D cA A n0 s0 QM σ 11 [(0, .ref rm), (1, va_rf v1), (3, .long v3), (5, va_rf v5), (6, .int (i32 v6)), (7, .int (i32 v7)), (8, .int (i32 v8))] [] := by
  intro n
  induction n with
  | zero => intro σ v1 v3 v5 v6 v7 v8 g6 g7 g8 h; exact h.elim
  | succ n ih => exact fun σ v1 v3 v5 v6 v7 v8 g6 g7 g8 h => a_X16_worth_11 K hQ hX ih σ v1 v3 v5 v6 v7 v8 g6 g7 g8 h
set_option maxRecDepth 20000 in
theorem a_X16_worth_0 {Q : Sg → Int64 → Prop} {X : Sg → String → Prop} (K : MC R p s m args c cX16_worth 12 RX16 D cA tys A n0 s0 1 25 []) (hQ : HQJ p l e R s m args below meth c cX16_worth D cA A n0 s0 QM dm ra jx rm Q) (hX : HX p l e R s m args below meth c 12 D cA A n0 s0 QM dm ra jx rm X) : ∀ (σ : Sg) (v1 : Option Nat) (v2 : Int) (v3 : Int64) (v5 : Option Nat) (v6 : Int) (g2 : rng v2) (g6 : rng v6), w_X16_worth_0 ra jx rm Q X σ v1 v2 v3 v5 v6 → RG σ → Shp dm ra jx rm σ → JJ p l e R s m args below meth c 12 D cA A n0 s0 QM σ 0 [(0, .ref rm), (1, va_rf v1), (2, .int (i32 v2)), (3, .long v3), (5, va_rf v5), (6, .int (i32 v6))] [] := by
  intro σ v1 v2 v3 v5 v6 g2 g6 h hGσ hS H locs ls hH hl hc
  have B := K.1
  unfold w_X16_worth_0 at h
  refine lv_iconst (v := i32 0) B.1 B.2.1 dX16_worth_0 (by decide) ?_
  refine lv_istore (lv' := [(7, .int (i32 0)), (0, .ref rm), (1, va_rf v1), (2, .int (i32 v2)), (3, .long v3), (5, va_rf v5), (6, .int (i32 v6))]) B.1 B.2.1 dX16_worth_1 hl (by decide) rfl (fun ls hl => ?_)
  refine lv_iload_n B.1 B.2.1 dX16_worth_3 rfl (lv_at hl 3 rfl) ?_
  refine lv_istore (lv' := [(8, .int (i32 v2)), (7, .int (i32 0)), (0, .ref rm), (1, va_rf v1), (2, .int (i32 v2)), (3, .long v3), (5, va_rf v5), (6, .int (i32 v6))]) B.1 B.2.1 dX16_worth_4 hl (by decide) rfl (fun ls hl => ?_)
  refine lv_aload_n B.1 B.2.1 dX16_worth_6 rfl (lv_at hl 2 rfl) ?_
  refine lv_iconst (v := i32 0) B.1 B.2.1 dX16_worth_7 (by decide) ?_
  obtain ⟨σ45, eσ45⟩ : ∃ z, z = pI σ rm 21 0 := ⟨_, rfl⟩
  have h := h σ45 eσ45
  refine r_puti B hH hS 21 (ty := .boolean) (by decide) wf_X16_330 rfl rfl rfl rfl rfl rfl dX16_worth_8 (fun H locs hH => ?_)
  have hH : Hd D cA A s (pI σ rm 21 0) H locs := hH
  rw [← eσ45] at hH
  have hGσ45 : RG σ45 := by rw [eσ45]; exact hGσ.pI (by unfold rng; omega)
  have hS : Shp dm ra jx rm σ45 := by rw [eσ45]; exact hS
  have hc : CB n0 s0 σ45 := by rw [eσ45]; exact hc
  rw [show gc σ = gc σ45 by rw [eσ45], show gs σ = gs σ45 by rw [eσ45]]
  obtain ⟨n9, h⟩ := h
  exact al_X16_worth_11 K hQ hX n9 _ _ _ _ _ _ _ g6 (by unfold rng; omega) g2 h hGσ45 hS _ _ _ hH (lv_sub (l' := [(0, .ref rm), (1, va_rf v1), (3, .long v3), (5, va_rf v5), (6, .int (i32 v6)), (7, .int (i32 0)), (8, .int (i32 v2))]) hl [2, 3, 5, 6, 7, 1, 0] rfl) hc
theorem ok_X16_worth (hT : Tys cA tys) {Q : Sg → Int64 → Prop} {X : Sg → String → Prop} (σ : Sg) (v1 : Option Nat) (v2 : Int) (v3 : Int64) (v5 : Option Nat) (v6 : Int) (g2 : rng v2) (g6 : rng v6) (hG : RG σ) (hS : Shp dm ra jx rm σ) (h : wp_X16_worth ra jx rm v1 v2 v3 v5 v6 σ Q X) : Ok l D cA tys A yX16_worth (.code yX16_worth cX16_worth 12 (some .long)) 1 25 [.ref rm, va_rf v1, .int (i32 v2), .long v3, va_rf v5, .int (i32 v6)] σ (QnJ dm ra jx rm Q) (QxR dm ra jx rm X) := by
  unfold wp_X16_worth at h
  exact ok_J (plainFor_of_name (by decide)) (by cases v1 <;> cases v5 <;> exact Nat.le_of_ble_eq_true rfl) hT (fun p e R s m args below meth c K hQ hX H locs ls hH hl hc => a_X16_worth_0 K hQ hX σ v1 v2 v3 v5 v6 g2 g6 h hG hS H locs ls hH (lv_sub (l' := [(0, .ref rm), (1, va_rf v1), (2, .int (i32 v2)), (3, .long v3), (5, va_rf v5), (6, .int (i32 v6))]) hl [0, 1, 2, 3, 4, 5] (by cases v1 <;> cases v5 <;> rfl)) hc)
theorem dX16_matchRow_0 : decode cX16_matchRow 0 = .ok (.aload_n 0, 1) := by decide +kernel
theorem dX16_matchRow_1 : decode cX16_matchRow 1 = .ok (.getfield 504, 3) := by decide +kernel
theorem dX16_matchRow_4 : decode cX16_matchRow 4 = .ok (.iload_n 1, 1) := by decide +kernel
theorem dX16_matchRow_5 : decode cX16_matchRow 5 = .ok (.iaload, 1) := by decide +kernel
theorem dX16_matchRow_6 : decode cX16_matchRow 6 = .ok (.istore 8, 2) := by decide +kernel
theorem dX16_matchRow_8 : decode cX16_matchRow 8 = .ok (.iload 8, 2) := by decide +kernel
theorem dX16_matchRow_10 : decode cX16_matchRow 10 = .ok (.iconst (-1), 1) := by decide +kernel
theorem dX16_matchRow_11 : decode cX16_matchRow 11 = .ok (.if_icmp .eq 71, 3) := by decide +kernel
theorem dX16_matchRow_14 : decode cX16_matchRow 14 = .ok (.aload_n 0, 1) := by decide +kernel
theorem dX16_matchRow_15 : decode cX16_matchRow 15 = .ok (.getfield 495, 3) := by decide +kernel
theorem dX16_matchRow_18 : decode cX16_matchRow 18 = .ok (.iload 8, 2) := by decide +kernel
theorem dX16_matchRow_20 : decode cX16_matchRow 20 = .ok (.iaload, 1) := by decide +kernel
theorem dX16_matchRow_21 : decode cX16_matchRow 21 = .ok (.istore 9, 2) := by decide +kernel
theorem dX16_matchRow_23 : decode cX16_matchRow 23 = .ok (.aload_n 0, 1) := by decide +kernel
theorem dX16_matchRow_24 : decode cX16_matchRow 24 = .ok (.getfield 513, 3) := by decide +kernel
theorem dX16_matchRow_27 : decode cX16_matchRow 27 = .ok (.iload 8, 2) := by decide +kernel
theorem dX16_matchRow_29 : decode cX16_matchRow 29 = .ok (.iaload, 1) := by decide +kernel
theorem dX16_matchRow_30 : decode cX16_matchRow 30 = .ok (.iconst 2, 1) := by decide +kernel
theorem dX16_matchRow_31 : decode cX16_matchRow 31 = .ok (.if_icmp .ne 44, 3) := by decide +kernel
theorem dX16_matchRow_34 : decode cX16_matchRow 34 = .ok (.aload_n 0, 1) := by decide +kernel
theorem dX16_matchRow_35 : decode cX16_matchRow 35 = .ok (.getfield 519, 3) := by decide +kernel
theorem dX16_matchRow_38 : decode cX16_matchRow 38 = .ok (.iload 8, 2) := by decide +kernel
theorem dX16_matchRow_40 : decode cX16_matchRow 40 = .ok (.laload, 1) := by decide +kernel
theorem dX16_matchRow_41 : decode cX16_matchRow 41 = .ok (.lload_n 3, 1) := by decide +kernel
theorem dX16_matchRow_42 : decode cX16_matchRow 42 = .ok (.lcmp, 1) := by decide +kernel
theorem dX16_matchRow_43 : decode cX16_matchRow 43 = .ok (.ifCond .ne 32, 3) := by decide +kernel
theorem dX16_matchRow_46 : decode cX16_matchRow 46 = .ok (.lload 5, 2) := by decide +kernel
theorem dX16_matchRow_48 : decode cX16_matchRow 48 = .ok (.aload_n 0, 1) := by decide +kernel
theorem dX16_matchRow_49 : decode cX16_matchRow 49 = .ok (.getfield 522, 3) := by decide +kernel
theorem dX16_matchRow_52 : decode cX16_matchRow 52 = .ok (.iload 8, 2) := by decide +kernel
theorem dX16_matchRow_54 : decode cX16_matchRow 54 = .ok (.laload, 1) := by decide +kernel
theorem dX16_matchRow_55 : decode cX16_matchRow 55 = .ok (.lsub, 1) := by decide +kernel
theorem dX16_matchRow_56 : decode cX16_matchRow 56 = .ok (.aload_n 0, 1) := by decide +kernel
theorem dX16_matchRow_57 : decode cX16_matchRow 57 = .ok (.getfield 356, 3) := by decide +kernel
theorem dX16_matchRow_60 : decode cX16_matchRow 60 = .ok (.getfield 191, 3) := by decide +kernel
theorem dX16_matchRow_63 : decode cX16_matchRow 63 = .ok (.iload_n 2, 1) := by decide +kernel
theorem dX16_matchRow_64 : decode cX16_matchRow 64 = .ok (.laload, 1) := by decide +kernel
theorem dX16_matchRow_65 : decode cX16_matchRow 65 = .ok (.lcmp, 1) := by decide +kernel
theorem dX16_matchRow_66 : decode cX16_matchRow 66 = .ok (.ifCond .le 9, 3) := by decide +kernel
theorem dX16_matchRow_69 : decode cX16_matchRow 69 = .ok (.aload_n 0, 1) := by decide +kernel
theorem dX16_matchRow_70 : decode cX16_matchRow 70 = .ok (.iload 8, 2) := by decide +kernel
theorem dX16_matchRow_72 : decode cX16_matchRow 72 = .ok (.invokevirtual 607, 3) := by decide +kernel
theorem dX16_matchRow_75 : decode cX16_matchRow 75 = .ok (.iload 9, 2) := by decide +kernel
theorem dX16_matchRow_77 : decode cX16_matchRow 77 = .ok (.istore 8, 2) := by decide +kernel
theorem dX16_matchRow_79 : decode cX16_matchRow 79 = .ok (.goto (-71), 3) := by decide +kernel
theorem dX16_matchRow_82 : decode cX16_matchRow 82 = .ok (.aload_n 0, 1) := by decide +kernel
theorem dX16_matchRow_83 : decode cX16_matchRow 83 = .ok (.getfield 504, 3) := by decide +kernel
theorem dX16_matchRow_86 : decode cX16_matchRow 86 = .ok (.iload_n 1, 1) := by decide +kernel
theorem dX16_matchRow_87 : decode cX16_matchRow 87 = .ok (.iaload, 1) := by decide +kernel
theorem dX16_matchRow_88 : decode cX16_matchRow 88 = .ok (.istore 8, 2) := by decide +kernel
theorem dX16_matchRow_90 : decode cX16_matchRow 90 = .ok (.iload 8, 2) := by decide +kernel
theorem dX16_matchRow_92 : decode cX16_matchRow 92 = .ok (.iconst (-1), 1) := by decide +kernel
theorem dX16_matchRow_93 : decode cX16_matchRow 93 = .ok (.if_icmp .eq 216, 3) := by decide +kernel
theorem dX16_matchRow_96 : decode cX16_matchRow 96 = .ok (.aload_n 0, 1) := by decide +kernel
theorem dX16_matchRow_97 : decode cX16_matchRow 97 = .ok (.getfield 495, 3) := by decide +kernel
theorem dX16_matchRow_100 : decode cX16_matchRow 100 = .ok (.iload 8, 2) := by decide +kernel
theorem dX16_matchRow_102 : decode cX16_matchRow 102 = .ok (.iaload, 1) := by decide +kernel
theorem dX16_matchRow_103 : decode cX16_matchRow 103 = .ok (.istore 9, 2) := by decide +kernel
theorem dX16_matchRow_105 : decode cX16_matchRow 105 = .ok (.aload_n 0, 1) := by decide +kernel
theorem dX16_matchRow_106 : decode cX16_matchRow 106 = .ok (.getfield 513, 3) := by decide +kernel
theorem dX16_matchRow_109 : decode cX16_matchRow 109 = .ok (.iload 8, 2) := by decide +kernel
theorem dX16_matchRow_111 : decode cX16_matchRow 111 = .ok (.iaload, 1) := by decide +kernel
theorem dX16_matchRow_112 : decode cX16_matchRow 112 = .ok (.iconst 2, 1) := by decide +kernel
theorem dX16_matchRow_113 : decode cX16_matchRow 113 = .ok (.if_icmp .ne 189, 3) := by decide +kernel
theorem dX16_matchRow_116 : decode cX16_matchRow 116 = .ok (.aload_n 0, 1) := by decide +kernel
theorem dX16_matchRow_117 : decode cX16_matchRow 117 = .ok (.getfield 519, 3) := by decide +kernel
theorem dX16_matchRow_120 : decode cX16_matchRow 120 = .ok (.iload 8, 2) := by decide +kernel
theorem dX16_matchRow_122 : decode cX16_matchRow 122 = .ok (.laload, 1) := by decide +kernel
theorem dX16_matchRow_123 : decode cX16_matchRow 123 = .ok (.lload_n 3, 1) := by decide +kernel
theorem dX16_matchRow_124 : decode cX16_matchRow 124 = .ok (.lcmp, 1) := by decide +kernel
theorem dX16_matchRow_125 : decode cX16_matchRow 125 = .ok (.ifCond .ne 177, 3) := by decide +kernel
theorem dX16_matchRow_128 : decode cX16_matchRow 128 = .ok (.aload_n 0, 1) := by decide +kernel
theorem dX16_matchRow_129 : decode cX16_matchRow 129 = .ok (.aload_n 0, 1) := by decide +kernel
theorem dX16_matchRow_130 : decode cX16_matchRow 130 = .ok (.getfield 356, 3) := by decide +kernel
theorem dX16_matchRow_133 : decode cX16_matchRow 133 = .ok (.aload_n 0, 1) := by decide +kernel
theorem dX16_matchRow_134 : decode cX16_matchRow 134 = .ok (.getfield 356, 3) := by decide +kernel
theorem dX16_matchRow_137 : decode cX16_matchRow 137 = .ok (.getfield 219, 3) := by decide +kernel
theorem dX16_matchRow_140 : decode cX16_matchRow 140 = .ok (.bipush 8, 2) := by decide +kernel
theorem dX16_matchRow_142 : decode cX16_matchRow 142 = .ok (.iload_n 2, 1) := by decide +kernel
theorem dX16_matchRow_143 : decode cX16_matchRow 143 = .ok (.imul, 1) := by decide +kernel
theorem dX16_matchRow_144 : decode cX16_matchRow 144 = .ok (.aload_n 0, 1) := by decide +kernel
theorem dX16_matchRow_145 : decode cX16_matchRow 145 = .ok (.getfield 525, 3) := by decide +kernel
theorem dX16_matchRow_148 : decode cX16_matchRow 148 = .ok (.iload 8, 2) := by decide +kernel
theorem dX16_matchRow_150 : decode cX16_matchRow 150 = .ok (.laload, 1) := by decide +kernel
theorem dX16_matchRow_151 : decode cX16_matchRow 151 = .ok (.l2i, 1) := by decide +kernel
theorem dX16_matchRow_152 : decode cX16_matchRow 152 = .ok (.iadd, 1) := by decide +kernel
theorem dX16_matchRow_153 : decode cX16_matchRow 153 = .ok (.iaload, 1) := by decide +kernel
theorem dX16_matchRow_154 : decode cX16_matchRow 154 = .ok (.lload 5, 2) := by decide +kernel
theorem dX16_matchRow_156 : decode cX16_matchRow 156 = .ok (.aload_n 0, 1) := by decide +kernel
theorem dX16_matchRow_157 : decode cX16_matchRow 157 = .ok (.getfield 542, 3) := by decide +kernel
theorem dX16_matchRow_160 : decode cX16_matchRow 160 = .ok (.iconst 0, 1) := by decide +kernel
theorem dX16_matchRow_161 : decode cX16_matchRow 161 = .ok (.invokevirtual 545, 3) := by decide +kernel
theorem dX16_matchRow_164 : decode cX16_matchRow 164 = .ok (.lconst 0, 1) := by decide +kernel
theorem dX16_matchRow_165 : decode cX16_matchRow 165 = .ok (.lcmp, 1) := by decide +kernel
theorem dX16_matchRow_166 : decode cX16_matchRow 166 = .ok (.ifCond .eq 136, 3) := by decide +kernel
theorem dX16_matchRow_169 : decode cX16_matchRow 169 = .ok (.aload_n 0, 1) := by decide +kernel
theorem dX16_matchRow_170 : decode cX16_matchRow 170 = .ok (.getfield 531, 3) := by decide +kernel
theorem dX16_matchRow_173 : decode cX16_matchRow 173 = .ok (.iload 8, 2) := by decide +kernel
theorem dX16_matchRow_175 : decode cX16_matchRow 175 = .ok (.aload_n 0, 1) := by decide +kernel
theorem dX16_matchRow_176 : decode cX16_matchRow 176 = .ok (.aload_n 0, 1) := by decide +kernel
theorem dX16_matchRow_177 : decode cX16_matchRow 177 = .ok (.getfield 531, 3) := by decide +kernel
theorem dX16_matchRow_180 : decode cX16_matchRow 180 = .ok (.iload 8, 2) := by decide +kernel
theorem dX16_matchRow_182 : decode cX16_matchRow 182 = .ok (.iaload, 1) := by decide +kernel
theorem dX16_matchRow_183 : decode cX16_matchRow 183 = .ok (.iload 7, 2) := by decide +kernel
theorem dX16_matchRow_185 : decode cX16_matchRow 185 = .ok (.invokevirtual 603, 3) := by decide +kernel
theorem dX16_matchRow_188 : decode cX16_matchRow 188 = .ok (.iastore, 1) := by decide +kernel
theorem dX16_matchRow_189 : decode cX16_matchRow 189 = .ok (.aload_n 0, 1) := by decide +kernel
theorem dX16_matchRow_190 : decode cX16_matchRow 190 = .ok (.getfield 525, 3) := by decide +kernel
theorem dX16_matchRow_193 : decode cX16_matchRow 193 = .ok (.iload 8, 2) := by decide +kernel
theorem dX16_matchRow_195 : decode cX16_matchRow 195 = .ok (.dup2, 1) := by decide +kernel
theorem dX16_matchRow_196 : decode cX16_matchRow 196 = .ok (.laload, 1) := by decide +kernel
theorem dX16_matchRow_197 : decode cX16_matchRow 197 = .ok (.lconst 1, 1) := by decide +kernel
theorem dX16_matchRow_198 : decode cX16_matchRow 198 = .ok (.ladd, 1) := by decide +kernel
theorem dX16_matchRow_199 : decode cX16_matchRow 199 = .ok (.lastore, 1) := by decide +kernel
theorem dX16_matchRow_200 : decode cX16_matchRow 200 = .ok (.aload_n 0, 1) := by decide +kernel
theorem dX16_matchRow_201 : decode cX16_matchRow 201 = .ok (.getfield 525, 3) := by decide +kernel
theorem dX16_matchRow_204 : decode cX16_matchRow 204 = .ok (.iload 8, 2) := by decide +kernel
theorem dX16_matchRow_206 : decode cX16_matchRow 206 = .ok (.laload, 1) := by decide +kernel
theorem dX16_matchRow_207 : decode cX16_matchRow 207 = .ok (.aload_n 0, 1) := by decide +kernel
theorem dX16_matchRow_208 : decode cX16_matchRow 208 = .ok (.getfield 356, 3) := by decide +kernel
theorem dX16_matchRow_211 : decode cX16_matchRow 211 = .ok (.getfield 222, 3) := by decide +kernel
theorem dX16_matchRow_214 : decode cX16_matchRow 214 = .ok (.iload_n 2, 1) := by decide +kernel
theorem dX16_matchRow_215 : decode cX16_matchRow 215 = .ok (.iaload, 1) := by decide +kernel
theorem dX16_matchRow_216 : decode cX16_matchRow 216 = .ok (.i2l, 1) := by decide +kernel
theorem dX16_matchRow_217 : decode cX16_matchRow 217 = .ok (.lcmp, 1) := by decide +kernel
theorem dX16_matchRow_218 : decode cX16_matchRow 218 = .ok (.ifCond .ne 84, 3) := by decide +kernel
theorem dX16_matchRow_221 : decode cX16_matchRow 221 = .ok (.iconst 0, 1) := by decide +kernel
theorem dX16_matchRow_222 : decode cX16_matchRow 222 = .ok (.istore 10, 2) := by decide +kernel
theorem dX16_matchRow_224 : decode cX16_matchRow 224 = .ok (.iload 10, 2) := by decide +kernel
theorem dX16_matchRow_226 : decode cX16_matchRow 226 = .ok (.bipush 8, 2) := by decide +kernel
theorem dX16_matchRow_228 : decode cX16_matchRow 228 = .ok (.if_icmp .ge 17, 3) := by decide +kernel
theorem dX16_matchRow_231 : decode cX16_matchRow 231 = .ok (.aload_n 0, 1) := by decide +kernel
theorem dX16_matchRow_232 : decode cX16_matchRow 232 = .ok (.getfield 578, 3) := by decide +kernel
theorem dX16_matchRow_235 : decode cX16_matchRow 235 = .ok (.iload 10, 2) := by decide +kernel
theorem dX16_matchRow_237 : decode cX16_matchRow 237 = .ok (.lconst 0, 1) := by decide +kernel
theorem dX16_matchRow_238 : decode cX16_matchRow 238 = .ok (.lastore, 1) := by decide +kernel
theorem dX16_matchRow_239 : decode cX16_matchRow 239 = .ok (.iinc 10 1, 3) := by decide +kernel
theorem dX16_matchRow_242 : decode cX16_matchRow 242 = .ok (.goto (-18), 3) := by decide +kernel
theorem dX16_matchRow_245 : decode cX16_matchRow 245 = .ok (.aload_n 0, 1) := by decide +kernel
theorem dX16_matchRow_246 : decode cX16_matchRow 246 = .ok (.getfield 578, 3) := by decide +kernel
theorem dX16_matchRow_249 : decode cX16_matchRow 249 = .ok (.iconst 0, 1) := by decide +kernel
theorem dX16_matchRow_250 : decode cX16_matchRow 250 = .ok (.lload_n 3, 1) := by decide +kernel
theorem dX16_matchRow_251 : decode cX16_matchRow 251 = .ok (.lastore, 1) := by decide +kernel
theorem dX16_matchRow_252 : decode cX16_matchRow 252 = .ok (.aload_n 0, 1) := by decide +kernel
theorem dX16_matchRow_253 : decode cX16_matchRow 253 = .ok (.getfield 578, 3) := by decide +kernel
theorem dX16_matchRow_256 : decode cX16_matchRow 256 = .ok (.iconst 1, 1) := by decide +kernel
theorem dX16_matchRow_257 : decode cX16_matchRow 257 = .ok (.aload_n 0, 1) := by decide +kernel
theorem dX16_matchRow_258 : decode cX16_matchRow 258 = .ok (.getfield 522, 3) := by decide +kernel
theorem dX16_matchRow_261 : decode cX16_matchRow 261 = .ok (.iload 8, 2) := by decide +kernel
theorem dX16_matchRow_263 : decode cX16_matchRow 263 = .ok (.laload, 1) := by decide +kernel
theorem dX16_matchRow_264 : decode cX16_matchRow 264 = .ok (.lastore, 1) := by decide +kernel
theorem dX16_matchRow_265 : decode cX16_matchRow 265 = .ok (.aload_n 0, 1) := by decide +kernel
theorem dX16_matchRow_266 : decode cX16_matchRow 266 = .ok (.getfield 578, 3) := by decide +kernel
theorem dX16_matchRow_269 : decode cX16_matchRow 269 = .ok (.iconst 2, 1) := by decide +kernel
theorem dX16_matchRow_270 : decode cX16_matchRow 270 = .ok (.lload 5, 2) := by decide +kernel
theorem dX16_matchRow_272 : decode cX16_matchRow 272 = .ok (.lastore, 1) := by decide +kernel
theorem dX16_matchRow_273 : decode cX16_matchRow 273 = .ok (.aload_n 0, 1) := by decide +kernel
theorem dX16_matchRow_274 : decode cX16_matchRow 274 = .ok (.getfield 531, 3) := by decide +kernel
theorem dX16_matchRow_277 : decode cX16_matchRow 277 = .ok (.iload 8, 2) := by decide +kernel
theorem dX16_matchRow_279 : decode cX16_matchRow 279 = .ok (.iaload, 1) := by decide +kernel
theorem dX16_matchRow_280 : decode cX16_matchRow 280 = .ok (.istore 10, 2) := by decide +kernel
theorem dX16_matchRow_282 : decode cX16_matchRow 282 = .ok (.aload_n 0, 1) := by decide +kernel
theorem dX16_matchRow_283 : decode cX16_matchRow 283 = .ok (.iload 8, 2) := by decide +kernel
theorem dX16_matchRow_285 : decode cX16_matchRow 285 = .ok (.invokevirtual 607, 3) := by decide +kernel
theorem dX16_matchRow_288 : decode cX16_matchRow 288 = .ok (.aload_n 0, 1) := by decide +kernel
theorem dX16_matchRow_289 : decode cX16_matchRow 289 = .ok (.iload_n 1, 1) := by decide +kernel
theorem dX16_matchRow_290 : decode cX16_matchRow 290 = .ok (.lload 5, 2) := by decide +kernel
theorem dX16_matchRow_292 : decode cX16_matchRow 292 = .ok (.aload_n 0, 1) := by decide +kernel
theorem dX16_matchRow_293 : decode cX16_matchRow 293 = .ok (.getfield 578, 3) := by decide +kernel
theorem dX16_matchRow_296 : decode cX16_matchRow 296 = .ok (.iconst 0, 1) := by decide +kernel
theorem dX16_matchRow_297 : decode cX16_matchRow 297 = .ok (.iload 10, 2) := by decide +kernel
theorem dX16_matchRow_299 : decode cX16_matchRow 299 = .ok (.invokevirtual 549, 3) := by decide +kernel
theorem dX16_matchRow_302 : decode cX16_matchRow 302 = .ok (.iload 9, 2) := by decide +kernel
theorem dX16_matchRow_304 : decode cX16_matchRow 304 = .ok (.istore 8, 2) := by decide +kernel
theorem dX16_matchRow_306 : decode cX16_matchRow 306 = .ok (.goto (-216), 3) := by decide +kernel
theorem dX16_matchRow_309 : decode cX16_matchRow 309 = .ok (.aload_n 0, 1) := by decide +kernel
theorem dX16_matchRow_310 : decode cX16_matchRow 310 = .ok (.aload_n 0, 1) := by decide +kernel
theorem dX16_matchRow_311 : decode cX16_matchRow 311 = .ok (.getfield 356, 3) := by decide +kernel
theorem dX16_matchRow_314 : decode cX16_matchRow 314 = .ok (.aload_n 0, 1) := by decide +kernel
theorem dX16_matchRow_315 : decode cX16_matchRow 315 = .ok (.getfield 356, 3) := by decide +kernel
theorem dX16_matchRow_318 : decode cX16_matchRow 318 = .ok (.getfield 219, 3) := by decide +kernel
theorem dX16_matchRow_321 : decode cX16_matchRow 321 = .ok (.bipush 8, 2) := by decide +kernel
theorem dX16_matchRow_323 : decode cX16_matchRow 323 = .ok (.iload_n 2, 1) := by decide +kernel
theorem dX16_matchRow_324 : decode cX16_matchRow 324 = .ok (.imul, 1) := by decide +kernel
theorem dX16_matchRow_325 : decode cX16_matchRow 325 = .ok (.iaload, 1) := by decide +kernel
theorem dX16_matchRow_326 : decode cX16_matchRow 326 = .ok (.lload 5, 2) := by decide +kernel
theorem dX16_matchRow_328 : decode cX16_matchRow 328 = .ok (.aload_n 0, 1) := by decide +kernel
theorem dX16_matchRow_329 : decode cX16_matchRow 329 = .ok (.getfield 542, 3) := by decide +kernel
theorem dX16_matchRow_332 : decode cX16_matchRow 332 = .ok (.iconst 0, 1) := by decide +kernel
theorem dX16_matchRow_333 : decode cX16_matchRow 333 = .ok (.invokevirtual 545, 3) := by decide +kernel
theorem dX16_matchRow_336 : decode cX16_matchRow 336 = .ok (.lconst 0, 1) := by decide +kernel
theorem dX16_matchRow_337 : decode cX16_matchRow 337 = .ok (.lcmp, 1) := by decide +kernel
theorem dX16_matchRow_338 : decode cX16_matchRow 338 = .ok (.ifCond .eq 21, 3) := by decide +kernel
theorem dX16_matchRow_341 : decode cX16_matchRow 341 = .ok (.aload_n 0, 1) := by decide +kernel
theorem dX16_matchRow_342 : decode cX16_matchRow 342 = .ok (.iload_n 1, 1) := by decide +kernel
theorem dX16_matchRow_343 : decode cX16_matchRow 343 = .ok (.iconst 2, 1) := by decide +kernel
theorem dX16_matchRow_344 : decode cX16_matchRow 344 = .ok (.lload_n 3, 1) := by decide +kernel
theorem dX16_matchRow_345 : decode cX16_matchRow 345 = .ok (.lload 5, 2) := by decide +kernel
theorem dX16_matchRow_347 : decode cX16_matchRow 347 = .ok (.lconst 1, 1) := by decide +kernel
theorem dX16_matchRow_348 : decode cX16_matchRow 348 = .ok (.aload_n 0, 1) := by decide +kernel
theorem dX16_matchRow_349 : decode cX16_matchRow 349 = .ok (.getfield 542, 3) := by decide +kernel
theorem dX16_matchRow_352 : decode cX16_matchRow 352 = .ok (.iconst 0, 1) := by decide +kernel
theorem dX16_matchRow_353 : decode cX16_matchRow 353 = .ok (.iload 7, 2) := by decide +kernel
theorem dX16_matchRow_355 : decode cX16_matchRow 355 = .ok (.invokevirtual 567, 3) := by decide +kernel
theorem dX16_matchRow_358 : decode cX16_matchRow 358 = .ok (.pop, 1) := by decide +kernel
theorem dX16_matchRow_359 : decode cX16_matchRow 359 = .ok (.return_, 1) := by decide +kernel
set_option maxRecDepth 20000 in
theorem a_X16_matchRow_359 {Q : Sg → Unit → Prop} {X : Sg → String → Prop} (K : MC R p s m args c cX16_matchRow 11 RX16 D cA tys A n0 s0 3 79 []) (hQ : HQV p l e R s m args below meth c cX16_matchRow D cA A n0 s0 QM dm ra jx rm Q) (hX : HX p l e R s m args below meth c 11 D cA A n0 s0 QM dm ra jx rm X) : ∀ (σ : Sg), w_X16_matchRow_359 ra jx rm Q X σ → RG σ → Shp dm ra jx rm σ → JJ p l e R s m args below meth c 11 D cA A n0 s0 QM σ 359 [(0, .ref rm)] [] := by
  intro σ h hGσ hS H locs ls hH hl hc
  have B := K.1
  unfold w_X16_matchRow_359 at h
  exact hQ _ _ _ _ _ dX16_matchRow_359 hH hc h hGσ hS
set_option maxRecDepth 20000 in
theorem a_X16_matchRow_341 {Q : Sg → Unit → Prop} {X : Sg → String → Prop} (K : MC R p s m args c cX16_matchRow 11 RX16 D cA tys A n0 s0 3 79 []) (hQ : HQV p l e R s m args below meth c cX16_matchRow D cA A n0 s0 QM dm ra jx rm Q) (hX : HX p l e R s m args below meth c 11 D cA A n0 s0 QM dm ra jx rm X) : ∀ (σ : Sg) (v1 : Int) (v3 : Int64) (v5 : Int64) (v7 : Int) (g1 : rng v1) (g7 : rng v7), w_X16_matchRow_341 ra jx rm Q X σ v1 v3 v5 v7 → RG σ → Shp dm ra jx rm σ → JJ p l e R s m args below meth c 11 D cA A n0 s0 QM σ 341 [(0, .ref rm), (1, .int (i32 v1)), (3, .long v3), (5, .long v5), (7, .int (i32 v7))] [] := by
  intro σ v1 v3 v5 v7 g1 g7 h hGσ hS H locs ls hH hl hc
  have B := K.1
  unfold w_X16_matchRow_341 at h
  refine lv_aload_n B.1 B.2.1 dX16_matchRow_341 rfl (lv_at hl 0 rfl) ?_
  refine lv_iload_n B.1 B.2.1 dX16_matchRow_342 rfl (lv_at hl 1 rfl) ?_
  refine lv_iconst (v := i32 2) B.1 B.2.1 dX16_matchRow_343 (by decide) ?_
  refine lv_lload_n B.1 B.2.1 dX16_matchRow_344 rfl (lv_at hl 2 rfl) ?_
  refine lv_lload B.1 B.2.1 dX16_matchRow_345 (lv_at hl 3 rfl) ?_
  refine lv_lconst (v := 1) B.1 B.2.1 dX16_matchRow_347 (by decide) ?_
  refine lv_aload_n B.1 B.2.1 dX16_matchRow_348 rfl (lv_at hl 0 rfl) ?_
  refine r_arr B hH hS 81 (kd := 101) (n := 8) (by decide) (by decide) wf_X16_542 rfl rfl dX16_matchRow_349 ?_
  refine lv_iconst (v := i32 0) B.1 B.2.1 dX16_matchRow_352 (by decide) ?_
  refine lv_iload B.1 B.2.1 dX16_matchRow_353 (lv_at hl 4 rfl) ?_
  refine c_V B hH hl hc K.2.2.1 (C := RX16) (T := TX16) (N := 123) (ci := 16) (As := [.int (i32 v1), .int (i32 2), .long v3, .long v5, .long 1, va_rf (some (ra 81)), .int (i32 0), .int (i32 v7)]) (ok_X16_record K.2.1 σ v1 2 v3 v5 1 (some (ra 81)) 0 v7 g1 (by unfold rng; omega) (by unfold rng; omega) g7 hGσ hS h) wc_X16_567 8 hd_X16_record ⟨Nat.le_trans (Nat.le_of_ble_eq_true rfl) K.2.2.2.1, Nat.le_trans (Nat.le_of_ble_eq_true rfl) K.2.2.2.2.1⟩ hS.1.1 hS.1.2 (by decide) rfl rfl (rest := []) rfl (Nat.le_of_ble_eq_true rfl) dX16_matchRow_355 (fun σ43 w hq => ?_) (fun σ9 E9 hx9 => hX σ9 E9 _ _ _ (tb_out K.2.2.2.2.2 rfl) hx9.1 hx9.2.1 hx9.2.2)
  obtain ⟨r44, rfl, gr44, h, hGσ43, hS⟩ := hq
  intro H locs ls hH hl hc
  refine W.eq (g2 := F0 m 358 ls [.int (i32 r44)]) (rfl) ?_
  try dsimp only at h
  refine lv_pop B.1 B.2.1 dX16_matchRow_358 rfl ?_
  exact a_X16_matchRow_359 K hQ hX _ h hGσ43 hS _ _ _ hH (lv_sub (l' := [(0, .ref rm)]) hl [0] rfl) hc
set_option maxRecDepth 20000 in
theorem a_X16_matchRow_309 {Q : Sg → Unit → Prop} {X : Sg → String → Prop} (K : MC R p s m args c cX16_matchRow 11 RX16 D cA tys A n0 s0 3 79 []) (hQ : HQV p l e R s m args below meth c cX16_matchRow D cA A n0 s0 QM dm ra jx rm Q) (hX : HX p l e R s m args below meth c 11 D cA A n0 s0 QM dm ra jx rm X) : ∀ (σ : Sg) (v1 : Int) (v2 : Int) (v3 : Int64) (v5 : Int64) (v7 : Int) (g1 : rng v1) (g2 : rng v2) (g7 : rng v7), w_X16_matchRow_309 ra jx rm Q X σ v1 v2 v3 v5 v7 → RG σ → Shp dm ra jx rm σ → JJ p l e R s m args below meth c 11 D cA A n0 s0 QM σ 309 [(0, .ref rm), (1, .int (i32 v1)), (2, .int (i32 v2)), (3, .long v3), (5, .long v5), (7, .int (i32 v7))] [] := by
  intro σ v1 v2 v3 v5 v7 g1 g2 g7 h hGσ hS H locs ls hH hl hc
  have B := K.1
  unfold w_X16_matchRow_309 at h
  refine lv_aload_n B.1 B.2.1 dX16_matchRow_309 rfl (lv_at hl 0 rfl) ?_
  refine lv_aload_n B.1 B.2.1 dX16_matchRow_310 rfl (lv_at hl 0 rfl) ?_
  refine r_getp B hH hS 17 (by decide) wf_X16_356 rfl rfl dX16_matchRow_311 ?_
  refine lv_aload_n B.1 B.2.1 dX16_matchRow_314 rfl (lv_at hl 0 rfl) ?_
  refine r_getp B hH hS 17 (by decide) wf_X16_356 rfl rfl dX16_matchRow_315 ?_
  obtain ⟨a45, ea45, ja45, h⟩ := h
  refine W.eq (g2 := F0 m 318 ls [.ref a45, va_rf (gP σ rm 17), .ref rm]) (by rw [ea45]; rfl) ?_
  refine n_arr B hH hS ja45 13 (kd := 100) (n := 128) (by decide) (by decide) (List.mem_of_getElem? (i := 13) rfl) rfl dX16_matchRow_318 ?_
  refine lv_bipush (v := i32 8) B.1 B.2.1 dX16_matchRow_321 (by decide) ?_
  refine lv_iload_n B.1 B.2.1 dX16_matchRow_323 rfl (lv_at hl 2 rfl) ?_
  obtain ⟨q2, h⟩ := h
  refine lv_imul B.1 B.2.1 dX16_matchRow_324 ?_
  rw [i32_mul]
  obtain ⟨q3, h⟩ := h
  refine x_iald B K.2.1 hH (hS.ja ja45 (k := 13) (kd := 100) (n := 128) (by decide)) (by decide) q3 dX16_matchRow_325 ?_
  refine lv_lload B.1 B.2.1 dX16_matchRow_326 (lv_at hl 4 rfl) ?_
  refine lv_aload_n B.1 B.2.1 dX16_matchRow_328 rfl (lv_at hl 0 rfl) ?_
  refine r_arr B hH hS 81 (kd := 101) (n := 8) (by decide) (by decide) wf_X16_542 rfl rfl dX16_matchRow_329 ?_
  refine lv_iconst (v := i32 0) B.1 B.2.1 dX16_matchRow_332 (by decide) ?_
  refine c_V B hH hl hc K.2.2.1 (C := RX16) (T := TX16) (N := 123) (ci := 16) (As := [va_rf (gP σ rm 17), .int (i32 (gI σ (jx a45 13) (8 * v2).toNat)), .long v5, va_rf (some (ra 81)), .int (i32 0)]) (ok_X16_worth K.2.1 σ (gP σ rm 17) (gI σ (jx a45 13) (8 * v2).toNat) v5 (some (ra 81)) 0 (hGσ _ _) (by unfold rng; omega) hGσ hS h) wc_X16_545 5 hd_X16_worth ⟨Nat.le_trans (Nat.le_of_ble_eq_true rfl) K.2.2.2.1, Nat.le_trans (Nat.le_of_ble_eq_true rfl) K.2.2.2.2.1⟩ hS.1.1 hS.1.2 (by decide) rfl rfl (rest := []) rfl (Nat.le_of_ble_eq_true rfl) dX16_matchRow_333 (fun σ46 w hq => ?_) (fun σ9 E9 hx9 => hX σ9 E9 _ _ _ (tb_out K.2.2.2.2.2 rfl) hx9.1 hx9.2.1 hx9.2.2)
  obtain ⟨r47, rfl, h, hGσ46, hS⟩ := hq
  intro H locs ls hH hl hc
  refine W.eq (g2 := F0 m 336 ls [.long r47]) (rfl) ?_
  try dsimp only at h
  refine lv_lconst (v := 0) B.1 B.2.1 dX16_matchRow_336 (by decide) ?_
  refine W.lcmp B.1 B.2.1 dX16_matchRow_337 ?_
  refine lv_if_eq (tgt := 359) B.1 B.2.1 dX16_matchRow_338 (by decide) (fun h9 => ?_) (fun h9 => ?_)
  · rw [if_pos ((lg_cmp_eq _ _).mp h9)] at h
    exact a_X16_matchRow_359 K hQ hX _ h hGσ46 hS _ _ _ hH (lv_sub (l' := [(0, .ref rm)]) hl [0] rfl) hc
  · rw [if_neg (fun q => h9 ((lg_cmp_eq _ _).mpr q))] at h
    exact a_X16_matchRow_341 K hQ hX _ _ _ _ _ g1 g7 h hGσ46 hS _ _ _ hH (lv_sub (l' := [(0, .ref rm), (1, .int (i32 v1)), (3, .long v3), (5, .long v5), (7, .int (i32 v7))]) hl [0, 1, 3, 4, 5] rfl) hc
set_option maxRecDepth 20000 in
theorem a_X16_matchRow_302 {Q : Sg → Unit → Prop} {X : Sg → String → Prop} (K : MC R p s m args c cX16_matchRow 11 RX16 D cA tys A n0 s0 3 79 []) (hQ : HQV p l e R s m args below meth c cX16_matchRow D cA A n0 s0 QM dm ra jx rm Q) (hX : HX p l e R s m args below meth c 11 D cA A n0 s0 QM dm ra jx rm X) {K90 : Sg → Int → Int → Int64 → Int64 → Int → Int → Prop} (hK90 : ∀ (σ : Sg) (v1 : Int) (v2 : Int) (v3 : Int64) (v5 : Int64) (v7 : Int) (v8 : Int) (g1 : rng v1) (g2 : rng v2) (g7 : rng v7) (g8 : rng v8), K90 σ v1 v2 v3 v5 v7 v8 → RG σ → Shp dm ra jx rm σ → JJ p l e R s m args below meth c 11 D cA A n0 s0 QM σ 90 [(0, .ref rm), (1, .int (i32 v1)), (2, .int (i32 v2)), (3, .long v3), (5, .long v5), (7, .int (i32 v7)), (8, .int (i32 v8))] []) : ∀ (σ : Sg) (v1 : Int) (v2 : Int) (v3 : Int64) (v5 : Int64) (v7 : Int) (v9 : Int) (g1 : rng v1) (g2 : rng v2) (g7 : rng v7) (g9 : rng v9), w_X16_matchRow_302 ra jx rm K90 Q X σ v1 v2 v3 v5 v7 v9 → RG σ → Shp dm ra jx rm σ → JJ p l e R s m args below meth c 11 D cA A n0 s0 QM σ 302 [(0, .ref rm), (1, .int (i32 v1)), (2, .int (i32 v2)), (3, .long v3), (5, .long v5), (7, .int (i32 v7)), (9, .int (i32 v9))] [] := by
  intro σ v1 v2 v3 v5 v7 v9 g1 g2 g7 g9 h hGσ hS H locs ls hH hl hc
  have B := K.1
  unfold w_X16_matchRow_302 at h
  refine lv_iload B.1 B.2.1 dX16_matchRow_302 (lv_at hl 6 rfl) ?_
  refine lv_istore (lv' := [(8, .int (i32 v9)), (0, .ref rm), (1, .int (i32 v1)), (2, .int (i32 v2)), (3, .long v3), (5, .long v5), (7, .int (i32 v7)), (9, .int (i32 v9))]) B.1 B.2.1 dX16_matchRow_304 hl (by decide) rfl (fun ls hl => ?_)
  refine lv_goto (tgt := 90) B.1 B.2.1 dX16_matchRow_306 (by decide) ?_
  exact hK90 _ _ _ _ _ _ _ g1 g2 g7 g9 h hGσ hS _ _ _ hH (lv_sub (l' := [(0, .ref rm), (1, .int (i32 v1)), (2, .int (i32 v2)), (3, .long v3), (5, .long v5), (7, .int (i32 v7)), (8, .int (i32 v9))]) hl [1, 2, 3, 4, 5, 6, 0] rfl) hc
set_option maxRecDepth 20000 in
theorem a_X16_matchRow_245 {Q : Sg → Unit → Prop} {X : Sg → String → Prop} (K : MC R p s m args c cX16_matchRow 11 RX16 D cA tys A n0 s0 3 79 []) (hQ : HQV p l e R s m args below meth c cX16_matchRow D cA A n0 s0 QM dm ra jx rm Q) (hX : HX p l e R s m args below meth c 11 D cA A n0 s0 QM dm ra jx rm X) {K90 : Sg → Int → Int → Int64 → Int64 → Int → Int → Prop} (hK90 : ∀ (σ : Sg) (v1 : Int) (v2 : Int) (v3 : Int64) (v5 : Int64) (v7 : Int) (v8 : Int) (g1 : rng v1) (g2 : rng v2) (g7 : rng v7) (g8 : rng v8), K90 σ v1 v2 v3 v5 v7 v8 → RG σ → Shp dm ra jx rm σ → JJ p l e R s m args below meth c 11 D cA A n0 s0 QM σ 90 [(0, .ref rm), (1, .int (i32 v1)), (2, .int (i32 v2)), (3, .long v3), (5, .long v5), (7, .int (i32 v7)), (8, .int (i32 v8))] []) : ∀ (σ : Sg) (v1 : Int) (v2 : Int) (v3 : Int64) (v5 : Int64) (v7 : Int) (v8 : Int) (v9 : Int) (g1 : rng v1) (g2 : rng v2) (g7 : rng v7) (g8 : rng v8) (g9 : rng v9), w_X16_matchRow_245 ra jx rm K90 Q X σ v1 v2 v3 v5 v7 v8 v9 → RG σ → Shp dm ra jx rm σ → JJ p l e R s m args below meth c 11 D cA A n0 s0 QM σ 245 [(0, .ref rm), (1, .int (i32 v1)), (2, .int (i32 v2)), (3, .long v3), (5, .long v5), (7, .int (i32 v7)), (8, .int (i32 v8)), (9, .int (i32 v9))] [] := by
  intro σ v1 v2 v3 v5 v7 v8 v9 g1 g2 g7 g8 g9 h hGσ hS H locs ls hH hl hc
  have B := K.1
  unfold w_X16_matchRow_245 at h
  refine lv_aload_n B.1 B.2.1 dX16_matchRow_245 rfl (lv_at hl 0 rfl) ?_
  refine r_arr B hH hS 82 (kd := 101) (n := 16) (by decide) (by decide) wf_X16_578 rfl rfl dX16_matchRow_246 ?_
  refine lv_iconst (v := i32 0) B.1 B.2.1 dX16_matchRow_249 (by decide) ?_
  refine lv_lload_n B.1 B.2.1 dX16_matchRow_250 rfl (lv_at hl 3 rfl) ?_
  obtain ⟨σ48, eσ48⟩ : ∃ z, z = pJ σ (ra 82) 0 v3 := ⟨_, rfl⟩
  have h := h σ48 eσ48
  refine x_last B K.2.1 hH (hS.ar (k := 82) (kd := 101) (n := 16) (by decide)) (by decide) (by decide) dX16_matchRow_251 (fun H locs hH => ?_)
  have hH : Hd D cA A s (pJ σ (ra 82) 0 v3) H locs := hH
  rw [← eσ48] at hH
  have hGσ48 : RG σ48 := by rw [eσ48]; exact hGσ.pJ
  have hS : Shp dm ra jx rm σ48 := by rw [eσ48]; exact hS
  have hc : CB n0 s0 σ48 := by rw [eσ48]; exact hc
  rw [show gc σ = gc σ48 by rw [eσ48], show gs σ = gs σ48 by rw [eσ48]]
  refine lv_aload_n B.1 B.2.1 dX16_matchRow_252 rfl (lv_at hl 0 rfl) ?_
  refine r_arr B hH hS 82 (kd := 101) (n := 16) (by decide) (by decide) wf_X16_578 rfl rfl dX16_matchRow_253 ?_
  refine lv_iconst (v := i32 1) B.1 B.2.1 dX16_matchRow_256 (by decide) ?_
  refine lv_aload_n B.1 B.2.1 dX16_matchRow_257 rfl (lv_at hl 0 rfl) ?_
  refine r_arr B hH hS 71 (kd := 101) (n := 4000) (by decide) (by decide) wf_X16_522 rfl rfl dX16_matchRow_258 ?_
  refine lv_iload B.1 B.2.1 dX16_matchRow_261 (lv_at hl 6 rfl) ?_
  obtain ⟨q2, h⟩ := h
  refine x_lald B K.2.1 hH (hS.ar (k := 71) (kd := 101) (n := 4000) (by decide)) (by decide) q2 dX16_matchRow_263 ?_
  obtain ⟨σ49, eσ49⟩ : ∃ z, z = pJ σ48 (ra 82) 1 (gJ σ48 (ra 71) v8.toNat) := ⟨_, rfl⟩
  have h := h σ49 eσ49
  refine x_last B K.2.1 hH (hS.ar (k := 82) (kd := 101) (n := 16) (by decide)) (by decide) (by decide) dX16_matchRow_264 (fun H locs hH => ?_)
  have hH : Hd D cA A s (pJ σ48 (ra 82) 1 (gJ σ48 (ra 71) v8.toNat)) H locs := hH
  rw [← eσ49] at hH
  have hGσ49 : RG σ49 := by rw [eσ49]; exact hGσ48.pJ
  have hS : Shp dm ra jx rm σ49 := by rw [eσ49]; exact hS
  have hc : CB n0 s0 σ49 := by rw [eσ49]; exact hc
  rw [show gc σ48 = gc σ49 by rw [eσ49], show gs σ48 = gs σ49 by rw [eσ49]]
  refine lv_aload_n B.1 B.2.1 dX16_matchRow_265 rfl (lv_at hl 0 rfl) ?_
  refine r_arr B hH hS 82 (kd := 101) (n := 16) (by decide) (by decide) wf_X16_578 rfl rfl dX16_matchRow_266 ?_
  refine lv_iconst (v := i32 2) B.1 B.2.1 dX16_matchRow_269 (by decide) ?_
  refine lv_lload B.1 B.2.1 dX16_matchRow_270 (lv_at hl 4 rfl) ?_
  obtain ⟨σ50, eσ50⟩ : ∃ z, z = pJ σ49 (ra 82) 2 v5 := ⟨_, rfl⟩
  have h := h σ50 eσ50
  refine x_last B K.2.1 hH (hS.ar (k := 82) (kd := 101) (n := 16) (by decide)) (by decide) (by decide) dX16_matchRow_272 (fun H locs hH => ?_)
  have hH : Hd D cA A s (pJ σ49 (ra 82) 2 v5) H locs := hH
  rw [← eσ50] at hH
  have hGσ50 : RG σ50 := by rw [eσ50]; exact hGσ49.pJ
  have hS : Shp dm ra jx rm σ50 := by rw [eσ50]; exact hS
  have hc : CB n0 s0 σ50 := by rw [eσ50]; exact hc
  rw [show gc σ49 = gc σ50 by rw [eσ50], show gs σ49 = gs σ50 by rw [eσ50]]
  refine lv_aload_n B.1 B.2.1 dX16_matchRow_273 rfl (lv_at hl 0 rfl) ?_
  refine r_arr B hH hS 74 (kd := 100) (n := 4000) (by decide) (by decide) wf_X16_531 rfl rfl dX16_matchRow_274 ?_
  refine lv_iload B.1 B.2.1 dX16_matchRow_277 (lv_at hl 6 rfl) ?_
  obtain ⟨q5, h⟩ := h
  refine x_iald B K.2.1 hH (hS.ar (k := 74) (kd := 100) (n := 4000) (by decide)) (by decide) q5 dX16_matchRow_279 ?_
  refine lv_istore (lv' := [(10, .int (i32 (gI σ50 (ra 74) v8.toNat))), (0, .ref rm), (1, .int (i32 v1)), (2, .int (i32 v2)), (3, .long v3), (5, .long v5), (7, .int (i32 v7)), (8, .int (i32 v8)), (9, .int (i32 v9))]) B.1 B.2.1 dX16_matchRow_280 hl (by decide) rfl (fun ls hl => ?_)
  refine lv_aload_n B.1 B.2.1 dX16_matchRow_282 rfl (lv_at hl 1 rfl) ?_
  refine lv_iload B.1 B.2.1 dX16_matchRow_283 (lv_at hl 7 rfl) ?_
  refine c_V B hH hl hc K.2.2.1 (C := RX16) (T := TX16) (N := 123) (ci := 16) (As := [.int (i32 v8)]) (ok_X16_drop K.2.1 σ50 v8 g8 hGσ50 hS h) wc_X16_607 1 hd_X16_drop ⟨Nat.le_trans (Nat.le_of_ble_eq_true rfl) K.2.2.2.1, Nat.le_trans (Nat.le_of_ble_eq_true rfl) K.2.2.2.2.1⟩ hS.1.1 hS.1.2 (by decide) rfl rfl (rest := []) rfl (Nat.le_of_ble_eq_true rfl) dX16_matchRow_285 (fun σ51 w hq => ?_) (fun σ9 E9 hx9 => hX σ9 E9 _ _ _ (tb_out K.2.2.2.2.2 rfl) hx9.1 hx9.2.1 hx9.2.2)
  obtain ⟨rfl, h, hGσ51, hS⟩ := hq
  intro H locs ls hH hl hc
  refine W.eq (g2 := F0 m 288 ls []) (rfl) ?_
  try dsimp only at h
  refine lv_aload_n B.1 B.2.1 dX16_matchRow_288 rfl (lv_at hl 1 rfl) ?_
  refine lv_iload_n B.1 B.2.1 dX16_matchRow_289 rfl (lv_at hl 2 rfl) ?_
  refine lv_lload B.1 B.2.1 dX16_matchRow_290 (lv_at hl 5 rfl) ?_
  refine lv_aload_n B.1 B.2.1 dX16_matchRow_292 rfl (lv_at hl 1 rfl) ?_
  refine r_arr B hH hS 82 (kd := 101) (n := 16) (by decide) (by decide) wf_X16_578 rfl rfl dX16_matchRow_293 ?_
  refine lv_iconst (v := i32 0) B.1 B.2.1 dX16_matchRow_296 (by decide) ?_
  refine lv_iload B.1 B.2.1 dX16_matchRow_297 (lv_at hl 0 rfl) ?_
  refine c_V B hH hl hc K.2.2.1 (C := RX16) (T := TX16) (N := 123) (ci := 16) (As := [.int (i32 v1), .long v5, va_rf (some (ra 82)), .int (i32 0), .int (i32 (gI σ50 (ra 74) v8.toNat))]) (ok_X16_emit K.2.1 σ51 v1 v5 (some (ra 82)) 0 (gI σ50 (ra 74) v8.toNat) g1 (by unfold rng; omega) (hGσ50 _ _) hGσ51 hS h) wc_X16_549 5 hd_X16_emit ⟨Nat.le_trans (Nat.le_of_ble_eq_true rfl) K.2.2.2.1, Nat.le_trans (Nat.le_of_ble_eq_true rfl) K.2.2.2.2.1⟩ hS.1.1 hS.1.2 (by decide) rfl rfl (rest := []) rfl (Nat.le_of_ble_eq_true rfl) dX16_matchRow_299 (fun σ52 w hq => ?_) (fun σ9 E9 hx9 => hX σ9 E9 _ _ _ (tb_out K.2.2.2.2.2 rfl) hx9.1 hx9.2.1 hx9.2.2)
  obtain ⟨rfl, h, hGσ52, hS⟩ := hq
  intro H locs ls hH hl hc
  refine W.eq (g2 := F0 m 302 ls []) (rfl) ?_
  try dsimp only at h
  exact a_X16_matchRow_302 K hQ hX hK90 _ _ _ _ _ _ _ g1 g2 g7 g9 h hGσ52 hS _ _ _ hH (lv_sub (l' := [(0, .ref rm), (1, .int (i32 v1)), (2, .int (i32 v2)), (3, .long v3), (5, .long v5), (7, .int (i32 v7)), (9, .int (i32 v9))]) hl [1, 2, 3, 4, 5, 6, 8] rfl) hc
set_option maxRecDepth 20000 in
theorem a_X16_matchRow_231 {Q : Sg → Unit → Prop} {X : Sg → String → Prop} (K : MC R p s m args c cX16_matchRow 11 RX16 D cA tys A n0 s0 3 79 []) (hQ : HQV p l e R s m args below meth c cX16_matchRow D cA A n0 s0 QM dm ra jx rm Q) (hX : HX p l e R s m args below meth c 11 D cA A n0 s0 QM dm ra jx rm X) {K90 : Sg → Int → Int → Int64 → Int64 → Int → Int → Prop} (hK90 : ∀ (σ : Sg) (v1 : Int) (v2 : Int) (v3 : Int64) (v5 : Int64) (v7 : Int) (v8 : Int) (g1 : rng v1) (g2 : rng v2) (g7 : rng v7) (g8 : rng v8), K90 σ v1 v2 v3 v5 v7 v8 → RG σ → Shp dm ra jx rm σ → JJ p l e R s m args below meth c 11 D cA A n0 s0 QM σ 90 [(0, .ref rm), (1, .int (i32 v1)), (2, .int (i32 v2)), (3, .long v3), (5, .long v5), (7, .int (i32 v7)), (8, .int (i32 v8))] []) {K224 : Sg → Int → Int → Int64 → Int64 → Int → Int → Int → Int → Prop} (hK224 : ∀ (σ : Sg) (v1 : Int) (v2 : Int) (v3 : Int64) (v5 : Int64) (v7 : Int) (v8 : Int) (v9 : Int) (v10 : Int) (g1 : rng v1) (g2 : rng v2) (g7 : rng v7) (g8 : rng v8) (g9 : rng v9) (g10 : rng v10), K224 σ v1 v2 v3 v5 v7 v8 v9 v10 → RG σ → Shp dm ra jx rm σ → JJ p l e R s m args below meth c 11 D cA A n0 s0 QM σ 224 [(0, .ref rm), (1, .int (i32 v1)), (2, .int (i32 v2)), (3, .long v3), (5, .long v5), (7, .int (i32 v7)), (8, .int (i32 v8)), (9, .int (i32 v9)), (10, .int (i32 v10))] []) : ∀ (σ : Sg) (v1 : Int) (v2 : Int) (v3 : Int64) (v5 : Int64) (v7 : Int) (v8 : Int) (v9 : Int) (v10 : Int) (g1 : rng v1) (g2 : rng v2) (g7 : rng v7) (g8 : rng v8) (g9 : rng v9) (g10 : rng v10), w_X16_matchRow_231 ra jx rm K90 K224 Q X σ v1 v2 v3 v5 v7 v8 v9 v10 → RG σ → Shp dm ra jx rm σ → JJ p l e R s m args below meth c 11 D cA A n0 s0 QM σ 231 [(0, .ref rm), (1, .int (i32 v1)), (2, .int (i32 v2)), (3, .long v3), (5, .long v5), (7, .int (i32 v7)), (8, .int (i32 v8)), (9, .int (i32 v9)), (10, .int (i32 v10))] [] := by
  intro σ v1 v2 v3 v5 v7 v8 v9 v10 g1 g2 g7 g8 g9 g10 h hGσ hS H locs ls hH hl hc
  have B := K.1
  unfold w_X16_matchRow_231 at h
  refine lv_aload_n B.1 B.2.1 dX16_matchRow_231 rfl (lv_at hl 0 rfl) ?_
  refine r_arr B hH hS 82 (kd := 101) (n := 16) (by decide) (by decide) wf_X16_578 rfl rfl dX16_matchRow_232 ?_
  refine lv_iload B.1 B.2.1 dX16_matchRow_235 (lv_at hl 8 rfl) ?_
  refine lv_lconst (v := 0) B.1 B.2.1 dX16_matchRow_237 (by decide) ?_
  obtain ⟨q1, h⟩ := h
  obtain ⟨σ53, eσ53⟩ : ∃ z, z = pJ σ (ra 82) v10.toNat 0 := ⟨_, rfl⟩
  have h := h σ53 eσ53
  refine x_last B K.2.1 hH (hS.ar (k := 82) (kd := 101) (n := 16) (by decide)) (by decide) q1 dX16_matchRow_238 (fun H locs hH => ?_)
  have hH : Hd D cA A s (pJ σ (ra 82) v10.toNat 0) H locs := hH
  rw [← eσ53] at hH
  have hGσ53 : RG σ53 := by rw [eσ53]; exact hGσ.pJ
  have hS : Shp dm ra jx rm σ53 := by rw [eσ53]; exact hS
  have hc : CB n0 s0 σ53 := by rw [eσ53]; exact hc
  rw [show gc σ = gc σ53 by rw [eσ53], show gs σ = gs σ53 by rw [eσ53]]
  obtain ⟨q3, h⟩ := h
  refine lv_iinc (k := 8) (v := i32 (v10 + 1)) (lv' := [(10, .int (i32 (v10 + 1))), (0, .ref rm), (1, .int (i32 v1)), (2, .int (i32 v2)), (3, .long v3), (5, .long v5), (7, .int (i32 v7)), (8, .int (i32 v8)), (9, .int (i32 v9))]) B.1 B.2.1 dX16_matchRow_239 hl rfl (i32_add _ _) (by decide) rfl (fun ls hl => ?_)
  refine lv_goto (tgt := 224) B.1 B.2.1 dX16_matchRow_242 (by decide) ?_
  exact hK224 _ _ _ _ _ _ _ _ _ g1 g2 g7 g8 g9 q3 h hGσ53 hS _ _ _ hH (lv_sub (l' := [(0, .ref rm), (1, .int (i32 v1)), (2, .int (i32 v2)), (3, .long v3), (5, .long v5), (7, .int (i32 v7)), (8, .int (i32 v8)), (9, .int (i32 v9)), (10, .int (i32 (v10 + 1)))]) hl [1, 2, 3, 4, 5, 6, 7, 8, 0] rfl) hc
set_option maxRecDepth 20000 in
theorem a_X16_matchRow_224 {Q : Sg → Unit → Prop} {X : Sg → String → Prop} (K : MC R p s m args c cX16_matchRow 11 RX16 D cA tys A n0 s0 3 79 []) (hQ : HQV p l e R s m args below meth c cX16_matchRow D cA A n0 s0 QM dm ra jx rm Q) (hX : HX p l e R s m args below meth c 11 D cA A n0 s0 QM dm ra jx rm X) {K90 : Sg → Int → Int → Int64 → Int64 → Int → Int → Prop} (hK90 : ∀ (σ : Sg) (v1 : Int) (v2 : Int) (v3 : Int64) (v5 : Int64) (v7 : Int) (v8 : Int) (g1 : rng v1) (g2 : rng v2) (g7 : rng v7) (g8 : rng v8), K90 σ v1 v2 v3 v5 v7 v8 → RG σ → Shp dm ra jx rm σ → JJ p l e R s m args below meth c 11 D cA A n0 s0 QM σ 90 [(0, .ref rm), (1, .int (i32 v1)), (2, .int (i32 v2)), (3, .long v3), (5, .long v5), (7, .int (i32 v7)), (8, .int (i32 v8))] []) {K224 : Sg → Int → Int → Int64 → Int64 → Int → Int → Int → Int → Prop} (hK224 : ∀ (σ : Sg) (v1 : Int) (v2 : Int) (v3 : Int64) (v5 : Int64) (v7 : Int) (v8 : Int) (v9 : Int) (v10 : Int) (g1 : rng v1) (g2 : rng v2) (g7 : rng v7) (g8 : rng v8) (g9 : rng v9) (g10 : rng v10), K224 σ v1 v2 v3 v5 v7 v8 v9 v10 → RG σ → Shp dm ra jx rm σ → JJ p l e R s m args below meth c 11 D cA A n0 s0 QM σ 224 [(0, .ref rm), (1, .int (i32 v1)), (2, .int (i32 v2)), (3, .long v3), (5, .long v5), (7, .int (i32 v7)), (8, .int (i32 v8)), (9, .int (i32 v9)), (10, .int (i32 v10))] []) : ∀ (σ : Sg) (v1 : Int) (v2 : Int) (v3 : Int64) (v5 : Int64) (v7 : Int) (v8 : Int) (v9 : Int) (v10 : Int) (g1 : rng v1) (g2 : rng v2) (g7 : rng v7) (g8 : rng v8) (g9 : rng v9) (g10 : rng v10), w_X16_matchRow_224 ra jx rm K90 K224 Q X σ v1 v2 v3 v5 v7 v8 v9 v10 → RG σ → Shp dm ra jx rm σ → JJ p l e R s m args below meth c 11 D cA A n0 s0 QM σ 224 [(0, .ref rm), (1, .int (i32 v1)), (2, .int (i32 v2)), (3, .long v3), (5, .long v5), (7, .int (i32 v7)), (8, .int (i32 v8)), (9, .int (i32 v9)), (10, .int (i32 v10))] [] := by
  intro σ v1 v2 v3 v5 v7 v8 v9 v10 g1 g2 g7 g8 g9 g10 h hGσ hS H locs ls hH hl hc
  have B := K.1
  unfold w_X16_matchRow_224 at h
  refine lv_iload B.1 B.2.1 dX16_matchRow_224 (lv_at hl 8 rfl) ?_
  refine lv_bipush (v := i32 8) B.1 B.2.1 dX16_matchRow_226 (by decide) ?_
  refine lv_icmp_ge (tgt := 245) B.1 B.2.1 dX16_matchRow_228 (by decide) (fun h9 => ?_) (fun h9 => ?_)
  · rw [if_pos ((i32_le (by unfold rng; omega) g10).mp h9)] at h
    exact a_X16_matchRow_245 K hQ hX hK90 _ _ _ _ _ _ _ _ g1 g2 g7 g8 g9 h hGσ hS _ _ _ hH (lv_sub (l' := [(0, .ref rm), (1, .int (i32 v1)), (2, .int (i32 v2)), (3, .long v3), (5, .long v5), (7, .int (i32 v7)), (8, .int (i32 v8)), (9, .int (i32 v9))]) hl [0, 1, 2, 3, 4, 5, 6, 7] rfl) hc
  · rw [if_neg (fun q => h9 ((i32_le (by unfold rng; omega) g10).mpr q))] at h
    exact a_X16_matchRow_231 K hQ hX hK90 hK224 _ _ _ _ _ _ _ _ _ g1 g2 g7 g8 g9 g10 h hGσ hS _ _ _ hH (lv_sub (l' := [(0, .ref rm), (1, .int (i32 v1)), (2, .int (i32 v2)), (3, .long v3), (5, .long v5), (7, .int (i32 v7)), (8, .int (i32 v8)), (9, .int (i32 v9)), (10, .int (i32 v10))]) hl [0, 1, 2, 3, 4, 5, 6, 7, 8] rfl) hc
theorem al_X16_matchRow_224 {Q : Sg → Unit → Prop} {X : Sg → String → Prop} (K : MC R p s m args c cX16_matchRow 11 RX16 D cA tys A n0 s0 3 79 []) (hQ : HQV p l e R s m args below meth c cX16_matchRow D cA A n0 s0 QM dm ra jx rm Q) (hX : HX p l e R s m args below meth c 11 D cA A n0 s0 QM dm ra jx rm X) {K90 : Sg → Int → Int → Int64 → Int64 → Int → Int → Prop} (hK90 : ∀ (σ : Sg) (v1 : Int) (v2 : Int) (v3 : Int64) (v5 : Int64) (v7 : Int) (v8 : Int) (g1 : rng v1) (g2 : rng v2) (g7 : rng v7) (g8 : rng v8), K90 σ v1 v2 v3 v5 v7 v8 → RG σ → Shp dm ra jx rm σ → JJ p l e R s m args below meth c 11 D cA A n0 s0 QM σ 90 [(0, .ref rm), (1, .int (i32 v1)), (2, .int (i32 v2)), (3, .long v3), (5, .long v5), (7, .int (i32 v7)), (8, .int (i32 v8))] []) : ∀ (n : Nat), ∀ (σ : Sg) (v1 : Int) (v2 : Int) (v3 : Int64) (v5 : Int64) (v7 : Int) (v8 : Int) (v9 : Int) (v10 : Int) (g1 : rng v1) (g2 : rng v2) (g7 : rng v7) (g8 : rng v8) (g9 : rng v9) (g10 : rng v10), wl_X16_matchRow_224 ra jx rm K90 Q X n σ v1 v2 v3 v5 v7 v8 v9 v10 → RG σ → Shp dm ra jx rm σ → JJ p l e R s m args below meth c 11 D cA A n0 s0 QM σ 224 [(0, .ref rm), (1, .int (i32 v1)), (2, .int (i32 v2)), (3, .long v3), (5, .long v5), (7, .int (i32 v7)), (8, .int (i32 v8)), (9, .int (i32 v9)), (10, .int (i32 v10))] [] := by
  intro n
  induction n with
  | zero => intro σ v1 v2 v3 v5 v7 v8 v9 v10 g1 g2 g7 g8 g9 g10 h; exact h.elim
  | succ n ih => exact fun σ v1 v2 v3 v5 v7 v8 v9 v10 g1 g2 g7 g8 g9 g10 h => a_X16_matchRow_224 K hQ hX hK90 ih σ v1 v2 v3 v5 v7 v8 v9 v10 g1 g2 g7 g8 g9 g10 h
set_option maxRecDepth 20000 in
theorem a_X16_matchRow_221 {Q : Sg → Unit → Prop} {X : Sg → String → Prop} (K : MC R p s m args c cX16_matchRow 11 RX16 D cA tys A n0 s0 3 79 []) (hQ : HQV p l e R s m args below meth c cX16_matchRow D cA A n0 s0 QM dm ra jx rm Q) (hX : HX p l e R s m args below meth c 11 D cA A n0 s0 QM dm ra jx rm X) {K90 : Sg → Int → Int → Int64 → Int64 → Int → Int → Prop} (hK90 : ∀ (σ : Sg) (v1 : Int) (v2 : Int) (v3 : Int64) (v5 : Int64) (v7 : Int) (v8 : Int) (g1 : rng v1) (g2 : rng v2) (g7 : rng v7) (g8 : rng v8), K90 σ v1 v2 v3 v5 v7 v8 → RG σ → Shp dm ra jx rm σ → JJ p l e R s m args below meth c 11 D cA A n0 s0 QM σ 90 [(0, .ref rm), (1, .int (i32 v1)), (2, .int (i32 v2)), (3, .long v3), (5, .long v5), (7, .int (i32 v7)), (8, .int (i32 v8))] []) : ∀ (σ : Sg) (v1 : Int) (v2 : Int) (v3 : Int64) (v5 : Int64) (v7 : Int) (v8 : Int) (v9 : Int) (g1 : rng v1) (g2 : rng v2) (g7 : rng v7) (g8 : rng v8) (g9 : rng v9), w_X16_matchRow_221 ra jx rm K90 Q X σ v1 v2 v3 v5 v7 v8 v9 → RG σ → Shp dm ra jx rm σ → JJ p l e R s m args below meth c 11 D cA A n0 s0 QM σ 221 [(0, .ref rm), (1, .int (i32 v1)), (2, .int (i32 v2)), (3, .long v3), (5, .long v5), (7, .int (i32 v7)), (8, .int (i32 v8)), (9, .int (i32 v9))] [] := by
  intro σ v1 v2 v3 v5 v7 v8 v9 g1 g2 g7 g8 g9 h hGσ hS H locs ls hH hl hc
  have B := K.1
  unfold w_X16_matchRow_221 at h
  refine lv_iconst (v := i32 0) B.1 B.2.1 dX16_matchRow_221 (by decide) ?_
  refine lv_istore (lv' := [(10, .int (i32 0)), (0, .ref rm), (1, .int (i32 v1)), (2, .int (i32 v2)), (3, .long v3), (5, .long v5), (7, .int (i32 v7)), (8, .int (i32 v8)), (9, .int (i32 v9))]) B.1 B.2.1 dX16_matchRow_222 hl (by decide) rfl (fun ls hl => ?_)
  obtain ⟨n9, h⟩ := h
  exact al_X16_matchRow_224 K hQ hX hK90 n9 _ _ _ _ _ _ _ _ _ g1 g2 g7 g8 g9 (by unfold rng; omega) h hGσ hS _ _ _ hH (lv_sub (l' := [(0, .ref rm), (1, .int (i32 v1)), (2, .int (i32 v2)), (3, .long v3), (5, .long v5), (7, .int (i32 v7)), (8, .int (i32 v8)), (9, .int (i32 v9)), (10, .int (i32 0))]) hl [1, 2, 3, 4, 5, 6, 7, 8, 0] rfl) hc
set_option maxRecDepth 20000 in
theorem a_X16_matchRow_169 {Q : Sg → Unit → Prop} {X : Sg → String → Prop} (K : MC R p s m args c cX16_matchRow 11 RX16 D cA tys A n0 s0 3 79 []) (hQ : HQV p l e R s m args below meth c cX16_matchRow D cA A n0 s0 QM dm ra jx rm Q) (hX : HX p l e R s m args below meth c 11 D cA A n0 s0 QM dm ra jx rm X) {K90 : Sg → Int → Int → Int64 → Int64 → Int → Int → Prop} (hK90 : ∀ (σ : Sg) (v1 : Int) (v2 : Int) (v3 : Int64) (v5 : Int64) (v7 : Int) (v8 : Int) (g1 : rng v1) (g2 : rng v2) (g7 : rng v7) (g8 : rng v8), K90 σ v1 v2 v3 v5 v7 v8 → RG σ → Shp dm ra jx rm σ → JJ p l e R s m args below meth c 11 D cA A n0 s0 QM σ 90 [(0, .ref rm), (1, .int (i32 v1)), (2, .int (i32 v2)), (3, .long v3), (5, .long v5), (7, .int (i32 v7)), (8, .int (i32 v8))] []) : ∀ (σ : Sg) (v1 : Int) (v2 : Int) (v3 : Int64) (v5 : Int64) (v7 : Int) (v8 : Int) (v9 : Int) (g1 : rng v1) (g2 : rng v2) (g7 : rng v7) (g8 : rng v8) (g9 : rng v9), w_X16_matchRow_169 ra jx rm K90 Q X σ v1 v2 v3 v5 v7 v8 v9 → RG σ → Shp dm ra jx rm σ → JJ p l e R s m args below meth c 11 D cA A n0 s0 QM σ 169 [(0, .ref rm), (1, .int (i32 v1)), (2, .int (i32 v2)), (3, .long v3), (5, .long v5), (7, .int (i32 v7)), (8, .int (i32 v8)), (9, .int (i32 v9))] [] := by
  intro σ v1 v2 v3 v5 v7 v8 v9 g1 g2 g7 g8 g9 h hGσ hS H locs ls hH hl hc
  have B := K.1
  unfold w_X16_matchRow_169 at h
  refine lv_aload_n B.1 B.2.1 dX16_matchRow_169 rfl (lv_at hl 0 rfl) ?_
  refine r_arr B hH hS 74 (kd := 100) (n := 4000) (by decide) (by decide) wf_X16_531 rfl rfl dX16_matchRow_170 ?_
  refine lv_iload B.1 B.2.1 dX16_matchRow_173 (lv_at hl 6 rfl) ?_
  refine lv_aload_n B.1 B.2.1 dX16_matchRow_175 rfl (lv_at hl 0 rfl) ?_
  refine lv_aload_n B.1 B.2.1 dX16_matchRow_176 rfl (lv_at hl 0 rfl) ?_
  refine r_arr B hH hS 74 (kd := 100) (n := 4000) (by decide) (by decide) wf_X16_531 rfl rfl dX16_matchRow_177 ?_
  refine lv_iload B.1 B.2.1 dX16_matchRow_180 (lv_at hl 6 rfl) ?_
  obtain ⟨q1, h⟩ := h
  refine x_iald B K.2.1 hH (hS.ar (k := 74) (kd := 100) (n := 4000) (by decide)) (by decide) q1 dX16_matchRow_182 ?_
  refine lv_iload B.1 B.2.1 dX16_matchRow_183 (lv_at hl 5 rfl) ?_
  refine c_V B hH hl hc K.2.2.1 (C := RX16) (T := TX16) (N := 123) (ci := 16) (As := [.int (i32 (gI σ (ra 74) v8.toNat)), .int (i32 v7)]) (ok_X16_joined K.2.1 σ (gI σ (ra 74) v8.toNat) v7 (hGσ _ _) g7 hGσ hS h) wc_X16_603 2 hd_X16_joined ⟨Nat.le_trans (Nat.le_of_ble_eq_true rfl) K.2.2.2.1, Nat.le_trans (Nat.le_of_ble_eq_true rfl) K.2.2.2.2.1⟩ hS.1.1 hS.1.2 (by decide) rfl rfl (rest := [.int (i32 v8), .ref (ra 74)]) rfl (Nat.le_of_ble_eq_true rfl) dX16_matchRow_185 (fun σ54 w hq => ?_) (fun σ9 E9 hx9 => hX σ9 E9 _ _ _ (tb_out K.2.2.2.2.2 rfl) hx9.1 hx9.2.1 hx9.2.2)
  obtain ⟨r55, rfl, gr55, h, hGσ54, hS⟩ := hq
  intro H locs ls hH hl hc
  refine W.eq (g2 := F0 m 188 ls [.int (i32 r55), .int (i32 v8), .ref (ra 74)]) (rfl) ?_
  try dsimp only at h
  obtain ⟨q2, h⟩ := h
  obtain ⟨σ56, eσ56⟩ : ∃ z, z = pI σ54 (ra 74) v8.toNat r55 := ⟨_, rfl⟩
  have h := h σ56 eσ56
  refine x_iast B K.2.1 hH (hS.ar (k := 74) (kd := 100) (n := 4000) (by decide)) (by decide) q2 dX16_matchRow_188 (fun H locs hH => ?_)
  have hH : Hd D cA A s (pI σ54 (ra 74) v8.toNat r55) H locs := hH
  rw [← eσ56] at hH
  have hGσ56 : RG σ56 := by rw [eσ56]; exact hGσ54.pI gr55
  have hS : Shp dm ra jx rm σ56 := by rw [eσ56]; exact hS
  have hc : CB n0 s0 σ56 := by rw [eσ56]; exact hc
  rw [show gc σ54 = gc σ56 by rw [eσ56], show gs σ54 = gs σ56 by rw [eσ56]]
  refine lv_aload_n B.1 B.2.1 dX16_matchRow_189 rfl (lv_at hl 0 rfl) ?_
  refine r_arr B hH hS 72 (kd := 101) (n := 4000) (by decide) (by decide) wf_X16_525 rfl rfl dX16_matchRow_190 ?_
  refine lv_iload B.1 B.2.1 dX16_matchRow_193 (lv_at hl 6 rfl) ?_
  refine lv_dup2_11 B.1 B.2.1 dX16_matchRow_195 rfl rfl ?_
  obtain ⟨q4, h⟩ := h
  refine x_lald B K.2.1 hH (hS.ar (k := 72) (kd := 101) (n := 4000) (by decide)) (by decide) q4 dX16_matchRow_196 ?_
  refine lv_lconst (v := 1) B.1 B.2.1 dX16_matchRow_197 (by decide) ?_
  refine lv_ladd B.1 B.2.1 dX16_matchRow_198 ?_
  obtain ⟨q5, h⟩ := h
  obtain ⟨σ57, eσ57⟩ : ∃ z, z = pJ σ56 (ra 72) v8.toNat ((gJ σ56 (ra 72) v8.toNat) + 1) := ⟨_, rfl⟩
  have h := h σ57 eσ57
  refine x_last B K.2.1 hH (hS.ar (k := 72) (kd := 101) (n := 4000) (by decide)) (by decide) q5 dX16_matchRow_199 (fun H locs hH => ?_)
  have hH : Hd D cA A s (pJ σ56 (ra 72) v8.toNat ((gJ σ56 (ra 72) v8.toNat) + 1)) H locs := hH
  rw [← eσ57] at hH
  have hGσ57 : RG σ57 := by rw [eσ57]; exact hGσ56.pJ
  have hS : Shp dm ra jx rm σ57 := by rw [eσ57]; exact hS
  have hc : CB n0 s0 σ57 := by rw [eσ57]; exact hc
  rw [show gc σ56 = gc σ57 by rw [eσ57], show gs σ56 = gs σ57 by rw [eσ57]]
  refine lv_aload_n B.1 B.2.1 dX16_matchRow_200 rfl (lv_at hl 0 rfl) ?_
  refine r_arr B hH hS 72 (kd := 101) (n := 4000) (by decide) (by decide) wf_X16_525 rfl rfl dX16_matchRow_201 ?_
  refine lv_iload B.1 B.2.1 dX16_matchRow_204 (lv_at hl 6 rfl) ?_
  obtain ⟨q7, h⟩ := h
  refine x_lald B K.2.1 hH (hS.ar (k := 72) (kd := 101) (n := 4000) (by decide)) (by decide) q7 dX16_matchRow_206 ?_
  refine lv_aload_n B.1 B.2.1 dX16_matchRow_207 rfl (lv_at hl 0 rfl) ?_
  refine r_getp B hH hS 17 (by decide) wf_X16_356 rfl rfl dX16_matchRow_208 ?_
  obtain ⟨a58, ea58, ja58, h⟩ := h
  refine W.eq (g2 := F0 m 211 ls [.ref a58, .long (gJ σ57 (ra 72) v8.toNat)]) (by rw [ea58]; rfl) ?_
  refine n_arr B hH hS ja58 12 (kd := 100) (n := 16) (by decide) (by decide) (List.mem_of_getElem? (i := 12) rfl) rfl dX16_matchRow_211 ?_
  refine lv_iload_n B.1 B.2.1 dX16_matchRow_214 rfl (lv_at hl 2 rfl) ?_
  obtain ⟨q9, h⟩ := h
  refine x_iald B K.2.1 hH (hS.ja ja58 (k := 12) (kd := 100) (n := 16) (by decide)) (by decide) q9 dX16_matchRow_215 ?_
  refine lv_i2l B.1 B.2.1 dX16_matchRow_216 (i32_i64 (hGσ57 _ _)) ?_
  refine W.lcmp B.1 B.2.1 dX16_matchRow_217 ?_
  refine lv_if_ne (tgt := 302) B.1 B.2.1 dX16_matchRow_218 (by decide) (fun h9 => ?_) (fun h9 => ?_)
  · rw [if_pos (fun q => h9 ((lg_cmp_eq _ _).mpr q))] at h
    exact a_X16_matchRow_302 K hQ hX hK90 _ _ _ _ _ _ _ g1 g2 g7 g9 h hGσ57 hS _ _ _ hH (lv_sub (l' := [(0, .ref rm), (1, .int (i32 v1)), (2, .int (i32 v2)), (3, .long v3), (5, .long v5), (7, .int (i32 v7)), (9, .int (i32 v9))]) hl [0, 1, 2, 3, 4, 5, 7] rfl) hc
  · rw [if_neg (fun q => q ((lg_cmp_eq _ _).mp h9))] at h
    exact a_X16_matchRow_221 K hQ hX hK90 _ _ _ _ _ _ _ _ g1 g2 g7 g8 g9 h hGσ57 hS _ _ _ hH (lv_sub (l' := [(0, .ref rm), (1, .int (i32 v1)), (2, .int (i32 v2)), (3, .long v3), (5, .long v5), (7, .int (i32 v7)), (8, .int (i32 v8)), (9, .int (i32 v9))]) hl [0, 1, 2, 3, 4, 5, 6, 7] rfl) hc
set_option maxRecDepth 20000 in
theorem a_X16_matchRow_128 {Q : Sg → Unit → Prop} {X : Sg → String → Prop} (K : MC R p s m args c cX16_matchRow 11 RX16 D cA tys A n0 s0 3 79 []) (hQ : HQV p l e R s m args below meth c cX16_matchRow D cA A n0 s0 QM dm ra jx rm Q) (hX : HX p l e R s m args below meth c 11 D cA A n0 s0 QM dm ra jx rm X) {K90 : Sg → Int → Int → Int64 → Int64 → Int → Int → Prop} (hK90 : ∀ (σ : Sg) (v1 : Int) (v2 : Int) (v3 : Int64) (v5 : Int64) (v7 : Int) (v8 : Int) (g1 : rng v1) (g2 : rng v2) (g7 : rng v7) (g8 : rng v8), K90 σ v1 v2 v3 v5 v7 v8 → RG σ → Shp dm ra jx rm σ → JJ p l e R s m args below meth c 11 D cA A n0 s0 QM σ 90 [(0, .ref rm), (1, .int (i32 v1)), (2, .int (i32 v2)), (3, .long v3), (5, .long v5), (7, .int (i32 v7)), (8, .int (i32 v8))] []) : ∀ (σ : Sg) (v1 : Int) (v2 : Int) (v3 : Int64) (v5 : Int64) (v7 : Int) (v8 : Int) (v9 : Int) (g1 : rng v1) (g2 : rng v2) (g7 : rng v7) (g8 : rng v8) (g9 : rng v9), w_X16_matchRow_128 ra jx rm K90 Q X σ v1 v2 v3 v5 v7 v8 v9 → RG σ → Shp dm ra jx rm σ → JJ p l e R s m args below meth c 11 D cA A n0 s0 QM σ 128 [(0, .ref rm), (1, .int (i32 v1)), (2, .int (i32 v2)), (3, .long v3), (5, .long v5), (7, .int (i32 v7)), (8, .int (i32 v8)), (9, .int (i32 v9))] [] := by
  intro σ v1 v2 v3 v5 v7 v8 v9 g1 g2 g7 g8 g9 h hGσ hS H locs ls hH hl hc
  have B := K.1
  unfold w_X16_matchRow_128 at h
  refine lv_aload_n B.1 B.2.1 dX16_matchRow_128 rfl (lv_at hl 0 rfl) ?_
  refine lv_aload_n B.1 B.2.1 dX16_matchRow_129 rfl (lv_at hl 0 rfl) ?_
  refine r_getp B hH hS 17 (by decide) wf_X16_356 rfl rfl dX16_matchRow_130 ?_
  refine lv_aload_n B.1 B.2.1 dX16_matchRow_133 rfl (lv_at hl 0 rfl) ?_
  refine r_getp B hH hS 17 (by decide) wf_X16_356 rfl rfl dX16_matchRow_134 ?_
  obtain ⟨a59, ea59, ja59, h⟩ := h
  refine W.eq (g2 := F0 m 137 ls [.ref a59, va_rf (gP σ rm 17), .ref rm]) (by rw [ea59]; rfl) ?_
  refine n_arr B hH hS ja59 13 (kd := 100) (n := 128) (by decide) (by decide) (List.mem_of_getElem? (i := 13) rfl) rfl dX16_matchRow_137 ?_
  refine lv_bipush (v := i32 8) B.1 B.2.1 dX16_matchRow_140 (by decide) ?_
  refine lv_iload_n B.1 B.2.1 dX16_matchRow_142 rfl (lv_at hl 2 rfl) ?_
  obtain ⟨q2, h⟩ := h
  refine lv_imul B.1 B.2.1 dX16_matchRow_143 ?_
  rw [i32_mul]
  refine lv_aload_n B.1 B.2.1 dX16_matchRow_144 rfl (lv_at hl 0 rfl) ?_
  refine r_arr B hH hS 72 (kd := 101) (n := 4000) (by decide) (by decide) wf_X16_525 rfl rfl dX16_matchRow_145 ?_
  refine lv_iload B.1 B.2.1 dX16_matchRow_148 (lv_at hl 6 rfl) ?_
  obtain ⟨q3, h⟩ := h
  refine x_lald B K.2.1 hH (hS.ar (k := 72) (kd := 101) (n := 4000) (by decide)) (by decide) q3 dX16_matchRow_150 ?_
  refine lv_l2i B.1 B.2.1 dX16_matchRow_151 rfl ?_
  refine W.eq (g2 := F0 m 152 ls [.int (i32 (((gJ σ (ra 72) v8.toNat)).toInt32.toInt)), .int (i32 (8 * v2)), .ref (jx a59 13), va_rf (gP σ rm 17), .ref rm]) (by simp only [i32_self]) ?_
  obtain ⟨q4, h⟩ := h
  refine lv_iadd B.1 B.2.1 dX16_matchRow_152 ?_
  rw [i32_add]
  obtain ⟨q5, h⟩ := h
  refine x_iald B K.2.1 hH (hS.ja ja59 (k := 13) (kd := 100) (n := 128) (by decide)) (by decide) q5 dX16_matchRow_153 ?_
  refine lv_lload B.1 B.2.1 dX16_matchRow_154 (lv_at hl 4 rfl) ?_
  refine lv_aload_n B.1 B.2.1 dX16_matchRow_156 rfl (lv_at hl 0 rfl) ?_
  refine r_arr B hH hS 81 (kd := 101) (n := 8) (by decide) (by decide) wf_X16_542 rfl rfl dX16_matchRow_157 ?_
  refine lv_iconst (v := i32 0) B.1 B.2.1 dX16_matchRow_160 (by decide) ?_
  refine c_V B hH hl hc K.2.2.1 (C := RX16) (T := TX16) (N := 123) (ci := 16) (As := [va_rf (gP σ rm 17), .int (i32 (gI σ (jx a59 13) ((8 * v2) + ((gJ σ (ra 72) v8.toNat)).toInt32.toInt).toNat)), .long v5, va_rf (some (ra 81)), .int (i32 0)]) (ok_X16_worth K.2.1 σ (gP σ rm 17) (gI σ (jx a59 13) ((8 * v2) + ((gJ σ (ra 72) v8.toNat)).toInt32.toInt).toNat) v5 (some (ra 81)) 0 (hGσ _ _) (by unfold rng; omega) hGσ hS h) wc_X16_545 5 hd_X16_worth ⟨Nat.le_trans (Nat.le_of_ble_eq_true rfl) K.2.2.2.1, Nat.le_trans (Nat.le_of_ble_eq_true rfl) K.2.2.2.2.1⟩ hS.1.1 hS.1.2 (by decide) rfl rfl (rest := []) rfl (Nat.le_of_ble_eq_true rfl) dX16_matchRow_161 (fun σ60 w hq => ?_) (fun σ9 E9 hx9 => hX σ9 E9 _ _ _ (tb_out K.2.2.2.2.2 rfl) hx9.1 hx9.2.1 hx9.2.2)
  obtain ⟨r61, rfl, h, hGσ60, hS⟩ := hq
  intro H locs ls hH hl hc
  refine W.eq (g2 := F0 m 164 ls [.long r61]) (rfl) ?_
  try dsimp only at h
  refine lv_lconst (v := 0) B.1 B.2.1 dX16_matchRow_164 (by decide) ?_
  refine W.lcmp B.1 B.2.1 dX16_matchRow_165 ?_
  refine lv_if_eq (tgt := 302) B.1 B.2.1 dX16_matchRow_166 (by decide) (fun h9 => ?_) (fun h9 => ?_)
  · rw [if_pos ((lg_cmp_eq _ _).mp h9)] at h
    exact a_X16_matchRow_302 K hQ hX hK90 _ _ _ _ _ _ _ g1 g2 g7 g9 h hGσ60 hS _ _ _ hH (lv_sub (l' := [(0, .ref rm), (1, .int (i32 v1)), (2, .int (i32 v2)), (3, .long v3), (5, .long v5), (7, .int (i32 v7)), (9, .int (i32 v9))]) hl [0, 1, 2, 3, 4, 5, 7] rfl) hc
  · rw [if_neg (fun q => h9 ((lg_cmp_eq _ _).mpr q))] at h
    exact a_X16_matchRow_169 K hQ hX hK90 _ _ _ _ _ _ _ _ g1 g2 g7 g8 g9 h hGσ60 hS _ _ _ hH (lv_sub (l' := [(0, .ref rm), (1, .int (i32 v1)), (2, .int (i32 v2)), (3, .long v3), (5, .long v5), (7, .int (i32 v7)), (8, .int (i32 v8)), (9, .int (i32 v9))]) hl [0, 1, 2, 3, 4, 5, 6, 7] rfl) hc
set_option maxRecDepth 20000 in
theorem a_X16_matchRow_116 {Q : Sg → Unit → Prop} {X : Sg → String → Prop} (K : MC R p s m args c cX16_matchRow 11 RX16 D cA tys A n0 s0 3 79 []) (hQ : HQV p l e R s m args below meth c cX16_matchRow D cA A n0 s0 QM dm ra jx rm Q) (hX : HX p l e R s m args below meth c 11 D cA A n0 s0 QM dm ra jx rm X) {K90 : Sg → Int → Int → Int64 → Int64 → Int → Int → Prop} (hK90 : ∀ (σ : Sg) (v1 : Int) (v2 : Int) (v3 : Int64) (v5 : Int64) (v7 : Int) (v8 : Int) (g1 : rng v1) (g2 : rng v2) (g7 : rng v7) (g8 : rng v8), K90 σ v1 v2 v3 v5 v7 v8 → RG σ → Shp dm ra jx rm σ → JJ p l e R s m args below meth c 11 D cA A n0 s0 QM σ 90 [(0, .ref rm), (1, .int (i32 v1)), (2, .int (i32 v2)), (3, .long v3), (5, .long v5), (7, .int (i32 v7)), (8, .int (i32 v8))] []) : ∀ (σ : Sg) (v1 : Int) (v2 : Int) (v3 : Int64) (v5 : Int64) (v7 : Int) (v8 : Int) (v9 : Int) (g1 : rng v1) (g2 : rng v2) (g7 : rng v7) (g8 : rng v8) (g9 : rng v9), w_X16_matchRow_116 ra jx rm K90 Q X σ v1 v2 v3 v5 v7 v8 v9 → RG σ → Shp dm ra jx rm σ → JJ p l e R s m args below meth c 11 D cA A n0 s0 QM σ 116 [(0, .ref rm), (1, .int (i32 v1)), (2, .int (i32 v2)), (3, .long v3), (5, .long v5), (7, .int (i32 v7)), (8, .int (i32 v8)), (9, .int (i32 v9))] [] := by
  intro σ v1 v2 v3 v5 v7 v8 v9 g1 g2 g7 g8 g9 h hGσ hS H locs ls hH hl hc
  have B := K.1
  unfold w_X16_matchRow_116 at h
  refine lv_aload_n B.1 B.2.1 dX16_matchRow_116 rfl (lv_at hl 0 rfl) ?_
  refine r_arr B hH hS 70 (kd := 101) (n := 4000) (by decide) (by decide) wf_X16_519 rfl rfl dX16_matchRow_117 ?_
  refine lv_iload B.1 B.2.1 dX16_matchRow_120 (lv_at hl 6 rfl) ?_
  obtain ⟨q1, h⟩ := h
  refine x_lald B K.2.1 hH (hS.ar (k := 70) (kd := 101) (n := 4000) (by decide)) (by decide) q1 dX16_matchRow_122 ?_
  refine lv_lload_n B.1 B.2.1 dX16_matchRow_123 rfl (lv_at hl 3 rfl) ?_
  refine W.lcmp B.1 B.2.1 dX16_matchRow_124 ?_
  refine lv_if_ne (tgt := 302) B.1 B.2.1 dX16_matchRow_125 (by decide) (fun h9 => ?_) (fun h9 => ?_)
  · rw [if_pos (fun q => h9 ((lg_cmp_eq _ _).mpr q))] at h
    exact a_X16_matchRow_302 K hQ hX hK90 _ _ _ _ _ _ _ g1 g2 g7 g9 h hGσ hS _ _ _ hH (lv_sub (l' := [(0, .ref rm), (1, .int (i32 v1)), (2, .int (i32 v2)), (3, .long v3), (5, .long v5), (7, .int (i32 v7)), (9, .int (i32 v9))]) hl [0, 1, 2, 3, 4, 5, 7] rfl) hc
  · rw [if_neg (fun q => q ((lg_cmp_eq _ _).mp h9))] at h
    exact a_X16_matchRow_128 K hQ hX hK90 _ _ _ _ _ _ _ _ g1 g2 g7 g8 g9 h hGσ hS _ _ _ hH (lv_sub (l' := [(0, .ref rm), (1, .int (i32 v1)), (2, .int (i32 v2)), (3, .long v3), (5, .long v5), (7, .int (i32 v7)), (8, .int (i32 v8)), (9, .int (i32 v9))]) hl [0, 1, 2, 3, 4, 5, 6, 7] rfl) hc
set_option maxRecDepth 20000 in
theorem a_X16_matchRow_96 {Q : Sg → Unit → Prop} {X : Sg → String → Prop} (K : MC R p s m args c cX16_matchRow 11 RX16 D cA tys A n0 s0 3 79 []) (hQ : HQV p l e R s m args below meth c cX16_matchRow D cA A n0 s0 QM dm ra jx rm Q) (hX : HX p l e R s m args below meth c 11 D cA A n0 s0 QM dm ra jx rm X) {K90 : Sg → Int → Int → Int64 → Int64 → Int → Int → Prop} (hK90 : ∀ (σ : Sg) (v1 : Int) (v2 : Int) (v3 : Int64) (v5 : Int64) (v7 : Int) (v8 : Int) (g1 : rng v1) (g2 : rng v2) (g7 : rng v7) (g8 : rng v8), K90 σ v1 v2 v3 v5 v7 v8 → RG σ → Shp dm ra jx rm σ → JJ p l e R s m args below meth c 11 D cA A n0 s0 QM σ 90 [(0, .ref rm), (1, .int (i32 v1)), (2, .int (i32 v2)), (3, .long v3), (5, .long v5), (7, .int (i32 v7)), (8, .int (i32 v8))] []) : ∀ (σ : Sg) (v1 : Int) (v2 : Int) (v3 : Int64) (v5 : Int64) (v7 : Int) (v8 : Int) (g1 : rng v1) (g2 : rng v2) (g7 : rng v7) (g8 : rng v8), w_X16_matchRow_96 ra jx rm K90 Q X σ v1 v2 v3 v5 v7 v8 → RG σ → Shp dm ra jx rm σ → JJ p l e R s m args below meth c 11 D cA A n0 s0 QM σ 96 [(0, .ref rm), (1, .int (i32 v1)), (2, .int (i32 v2)), (3, .long v3), (5, .long v5), (7, .int (i32 v7)), (8, .int (i32 v8))] [] := by
  intro σ v1 v2 v3 v5 v7 v8 g1 g2 g7 g8 h hGσ hS H locs ls hH hl hc
  have B := K.1
  unfold w_X16_matchRow_96 at h
  refine lv_aload_n B.1 B.2.1 dX16_matchRow_96 rfl (lv_at hl 0 rfl) ?_
  refine r_arr B hH hS 75 (kd := 100) (n := 4000) (by decide) (by decide) wf_X16_495 rfl rfl dX16_matchRow_97 ?_
  refine lv_iload B.1 B.2.1 dX16_matchRow_100 (lv_at hl 6 rfl) ?_
  obtain ⟨q1, h⟩ := h
  refine x_iald B K.2.1 hH (hS.ar (k := 75) (kd := 100) (n := 4000) (by decide)) (by decide) q1 dX16_matchRow_102 ?_
  refine lv_istore (lv' := [(9, .int (i32 (gI σ (ra 75) v8.toNat))), (0, .ref rm), (1, .int (i32 v1)), (2, .int (i32 v2)), (3, .long v3), (5, .long v5), (7, .int (i32 v7)), (8, .int (i32 v8))]) B.1 B.2.1 dX16_matchRow_103 hl (by decide) rfl (fun ls hl => ?_)
  refine lv_aload_n B.1 B.2.1 dX16_matchRow_105 rfl (lv_at hl 1 rfl) ?_
  refine r_arr B hH hS 68 (kd := 100) (n := 4000) (by decide) (by decide) wf_X16_513 rfl rfl dX16_matchRow_106 ?_
  refine lv_iload B.1 B.2.1 dX16_matchRow_109 (lv_at hl 7 rfl) ?_
  obtain ⟨q2, h⟩ := h
  refine x_iald B K.2.1 hH (hS.ar (k := 68) (kd := 100) (n := 4000) (by decide)) (by decide) q2 dX16_matchRow_111 ?_
  refine lv_iconst (v := i32 2) B.1 B.2.1 dX16_matchRow_112 (by decide) ?_
  refine lv_icmp_ne (tgt := 302) B.1 B.2.1 dX16_matchRow_113 (by decide) (fun h9 => ?_) (fun h9 => ?_)
  · rw [if_pos (fun q => h9 ((i32_eq (hGσ _ _) (by unfold rng; omega)).mpr q))] at h
    exact a_X16_matchRow_302 K hQ hX hK90 _ _ _ _ _ _ _ g1 g2 g7 (hGσ _ _) h hGσ hS _ _ _ hH (lv_sub (l' := [(0, .ref rm), (1, .int (i32 v1)), (2, .int (i32 v2)), (3, .long v3), (5, .long v5), (7, .int (i32 v7)), (9, .int (i32 (gI σ (ra 75) v8.toNat)))]) hl [1, 2, 3, 4, 5, 6, 0] rfl) hc
  · rw [if_neg (fun q => q ((i32_eq (hGσ _ _) (by unfold rng; omega)).mp h9))] at h
    exact a_X16_matchRow_116 K hQ hX hK90 _ _ _ _ _ _ _ _ g1 g2 g7 g8 (hGσ _ _) h hGσ hS _ _ _ hH (lv_sub (l' := [(0, .ref rm), (1, .int (i32 v1)), (2, .int (i32 v2)), (3, .long v3), (5, .long v5), (7, .int (i32 v7)), (8, .int (i32 v8)), (9, .int (i32 (gI σ (ra 75) v8.toNat)))]) hl [1, 2, 3, 4, 5, 6, 7, 0] rfl) hc
set_option maxRecDepth 20000 in
theorem a_X16_matchRow_90 {Q : Sg → Unit → Prop} {X : Sg → String → Prop} (K : MC R p s m args c cX16_matchRow 11 RX16 D cA tys A n0 s0 3 79 []) (hQ : HQV p l e R s m args below meth c cX16_matchRow D cA A n0 s0 QM dm ra jx rm Q) (hX : HX p l e R s m args below meth c 11 D cA A n0 s0 QM dm ra jx rm X) {K90 : Sg → Int → Int → Int64 → Int64 → Int → Int → Prop} (hK90 : ∀ (σ : Sg) (v1 : Int) (v2 : Int) (v3 : Int64) (v5 : Int64) (v7 : Int) (v8 : Int) (g1 : rng v1) (g2 : rng v2) (g7 : rng v7) (g8 : rng v8), K90 σ v1 v2 v3 v5 v7 v8 → RG σ → Shp dm ra jx rm σ → JJ p l e R s m args below meth c 11 D cA A n0 s0 QM σ 90 [(0, .ref rm), (1, .int (i32 v1)), (2, .int (i32 v2)), (3, .long v3), (5, .long v5), (7, .int (i32 v7)), (8, .int (i32 v8))] []) : ∀ (σ : Sg) (v1 : Int) (v2 : Int) (v3 : Int64) (v5 : Int64) (v7 : Int) (v8 : Int) (g1 : rng v1) (g2 : rng v2) (g7 : rng v7) (g8 : rng v8), w_X16_matchRow_90 ra jx rm K90 Q X σ v1 v2 v3 v5 v7 v8 → RG σ → Shp dm ra jx rm σ → JJ p l e R s m args below meth c 11 D cA A n0 s0 QM σ 90 [(0, .ref rm), (1, .int (i32 v1)), (2, .int (i32 v2)), (3, .long v3), (5, .long v5), (7, .int (i32 v7)), (8, .int (i32 v8))] [] := by
  intro σ v1 v2 v3 v5 v7 v8 g1 g2 g7 g8 h hGσ hS H locs ls hH hl hc
  have B := K.1
  unfold w_X16_matchRow_90 at h
  refine lv_iload B.1 B.2.1 dX16_matchRow_90 (lv_at hl 6 rfl) ?_
  refine lv_iconst (v := i32 (-1)) B.1 B.2.1 dX16_matchRow_92 (by decide) ?_
  refine lv_icmp_eq (tgt := 309) B.1 B.2.1 dX16_matchRow_93 (by decide) (fun h9 => ?_) (fun h9 => ?_)
  · rw [if_pos ((i32_eq g8 (by unfold rng; omega)).mp h9)] at h
    exact a_X16_matchRow_309 K hQ hX _ _ _ _ _ _ g1 g2 g7 h hGσ hS _ _ _ hH (lv_sub (l' := [(0, .ref rm), (1, .int (i32 v1)), (2, .int (i32 v2)), (3, .long v3), (5, .long v5), (7, .int (i32 v7))]) hl [0, 1, 2, 3, 4, 5] rfl) hc
  · rw [if_neg (fun q => h9 ((i32_eq g8 (by unfold rng; omega)).mpr q))] at h
    exact a_X16_matchRow_96 K hQ hX hK90 _ _ _ _ _ _ _ g1 g2 g7 g8 h hGσ hS _ _ _ hH (lv_sub (l' := [(0, .ref rm), (1, .int (i32 v1)), (2, .int (i32 v2)), (3, .long v3), (5, .long v5), (7, .int (i32 v7)), (8, .int (i32 v8))]) hl [0, 1, 2, 3, 4, 5, 6] rfl) hc
theorem al_X16_matchRow_90 {Q : Sg → Unit → Prop} {X : Sg → String → Prop} (K : MC R p s m args c cX16_matchRow 11 RX16 D cA tys A n0 s0 3 79 []) (hQ : HQV p l e R s m args below meth c cX16_matchRow D cA A n0 s0 QM dm ra jx rm Q) (hX : HX p l e R s m args below meth c 11 D cA A n0 s0 QM dm ra jx rm X) : ∀ (n : Nat), ∀ (σ : Sg) (v1 : Int) (v2 : Int) (v3 : Int64) (v5 : Int64) (v7 : Int) (v8 : Int) (g1 : rng v1) (g2 : rng v2) (g7 : rng v7) (g8 : rng v8), wl_X16_matchRow_90 ra jx rm Q X n σ v1 v2 v3 v5 v7 v8 → RG σ → Shp dm ra jx rm σ → JJ p l e R s m args below meth c 11 D cA A n0 s0 QM σ 90 [(0, .ref rm), (1, .int (i32 v1)), (2, .int (i32 v2)), (3, .long v3), (5, .long v5), (7, .int (i32 v7)), (8, .int (i32 v8))] [] := by
  intro n
  induction n with
  | zero => intro σ v1 v2 v3 v5 v7 v8 g1 g2 g7 g8 h; exact h.elim
  | succ n ih => exact fun σ v1 v2 v3 v5 v7 v8 g1 g2 g7 g8 h => a_X16_matchRow_90 K hQ hX ih σ v1 v2 v3 v5 v7 v8 g1 g2 g7 g8 h
set_option maxRecDepth 20000 in
theorem a_X16_matchRow_82 {Q : Sg → Unit → Prop} {X : Sg → String → Prop} (K : MC R p s m args c cX16_matchRow 11 RX16 D cA tys A n0 s0 3 79 []) (hQ : HQV p l e R s m args below meth c cX16_matchRow D cA A n0 s0 QM dm ra jx rm Q) (hX : HX p l e R s m args below meth c 11 D cA A n0 s0 QM dm ra jx rm X) : ∀ (σ : Sg) (v1 : Int) (v2 : Int) (v3 : Int64) (v5 : Int64) (v7 : Int) (g1 : rng v1) (g2 : rng v2) (g7 : rng v7), w_X16_matchRow_82 ra jx rm Q X σ v1 v2 v3 v5 v7 → RG σ → Shp dm ra jx rm σ → JJ p l e R s m args below meth c 11 D cA A n0 s0 QM σ 82 [(0, .ref rm), (1, .int (i32 v1)), (2, .int (i32 v2)), (3, .long v3), (5, .long v5), (7, .int (i32 v7))] [] := by
  intro σ v1 v2 v3 v5 v7 g1 g2 g7 h hGσ hS H locs ls hH hl hc
  have B := K.1
  unfold w_X16_matchRow_82 at h
  refine lv_aload_n B.1 B.2.1 dX16_matchRow_82 rfl (lv_at hl 0 rfl) ?_
  refine r_arr B hH hS 76 (kd := 100) (n := 64) (by decide) (by decide) wf_X16_504 rfl rfl dX16_matchRow_83 ?_
  refine lv_iload_n B.1 B.2.1 dX16_matchRow_86 rfl (lv_at hl 1 rfl) ?_
  obtain ⟨q1, h⟩ := h
  refine x_iald B K.2.1 hH (hS.ar (k := 76) (kd := 100) (n := 64) (by decide)) (by decide) q1 dX16_matchRow_87 ?_
  refine lv_istore (lv' := [(8, .int (i32 (gI σ (ra 76) v1.toNat))), (0, .ref rm), (1, .int (i32 v1)), (2, .int (i32 v2)), (3, .long v3), (5, .long v5), (7, .int (i32 v7))]) B.1 B.2.1 dX16_matchRow_88 hl (by decide) rfl (fun ls hl => ?_)
  obtain ⟨n9, h⟩ := h
  exact al_X16_matchRow_90 K hQ hX n9 _ _ _ _ _ _ _ g1 g2 g7 (hGσ _ _) h hGσ hS _ _ _ hH (lv_sub (l' := [(0, .ref rm), (1, .int (i32 v1)), (2, .int (i32 v2)), (3, .long v3), (5, .long v5), (7, .int (i32 v7)), (8, .int (i32 (gI σ (ra 76) v1.toNat)))]) hl [1, 2, 3, 4, 5, 6, 0] rfl) hc
set_option maxRecDepth 20000 in
theorem a_X16_matchRow_75 {Q : Sg → Unit → Prop} {X : Sg → String → Prop} (K : MC R p s m args c cX16_matchRow 11 RX16 D cA tys A n0 s0 3 79 []) (hQ : HQV p l e R s m args below meth c cX16_matchRow D cA A n0 s0 QM dm ra jx rm Q) (hX : HX p l e R s m args below meth c 11 D cA A n0 s0 QM dm ra jx rm X) {K8 : Sg → Int → Int → Int64 → Int64 → Int → Int → Prop} (hK8 : ∀ (σ : Sg) (v1 : Int) (v2 : Int) (v3 : Int64) (v5 : Int64) (v7 : Int) (v8 : Int) (g1 : rng v1) (g2 : rng v2) (g7 : rng v7) (g8 : rng v8), K8 σ v1 v2 v3 v5 v7 v8 → RG σ → Shp dm ra jx rm σ → JJ p l e R s m args below meth c 11 D cA A n0 s0 QM σ 8 [(0, .ref rm), (1, .int (i32 v1)), (2, .int (i32 v2)), (3, .long v3), (5, .long v5), (7, .int (i32 v7)), (8, .int (i32 v8))] []) : ∀ (σ : Sg) (v1 : Int) (v2 : Int) (v3 : Int64) (v5 : Int64) (v7 : Int) (v9 : Int) (g1 : rng v1) (g2 : rng v2) (g7 : rng v7) (g9 : rng v9), w_X16_matchRow_75 ra jx rm K8 Q X σ v1 v2 v3 v5 v7 v9 → RG σ → Shp dm ra jx rm σ → JJ p l e R s m args below meth c 11 D cA A n0 s0 QM σ 75 [(0, .ref rm), (1, .int (i32 v1)), (2, .int (i32 v2)), (3, .long v3), (5, .long v5), (7, .int (i32 v7)), (9, .int (i32 v9))] [] := by
  intro σ v1 v2 v3 v5 v7 v9 g1 g2 g7 g9 h hGσ hS H locs ls hH hl hc
  have B := K.1
  unfold w_X16_matchRow_75 at h
  refine lv_iload B.1 B.2.1 dX16_matchRow_75 (lv_at hl 6 rfl) ?_
  refine lv_istore (lv' := [(8, .int (i32 v9)), (0, .ref rm), (1, .int (i32 v1)), (2, .int (i32 v2)), (3, .long v3), (5, .long v5), (7, .int (i32 v7)), (9, .int (i32 v9))]) B.1 B.2.1 dX16_matchRow_77 hl (by decide) rfl (fun ls hl => ?_)
  refine lv_goto (tgt := 8) B.1 B.2.1 dX16_matchRow_79 (by decide) ?_
  exact hK8 _ _ _ _ _ _ _ g1 g2 g7 g9 h hGσ hS _ _ _ hH (lv_sub (l' := [(0, .ref rm), (1, .int (i32 v1)), (2, .int (i32 v2)), (3, .long v3), (5, .long v5), (7, .int (i32 v7)), (8, .int (i32 v9))]) hl [1, 2, 3, 4, 5, 6, 0] rfl) hc
set_option maxRecDepth 20000 in
theorem a_X16_matchRow_69 {Q : Sg → Unit → Prop} {X : Sg → String → Prop} (K : MC R p s m args c cX16_matchRow 11 RX16 D cA tys A n0 s0 3 79 []) (hQ : HQV p l e R s m args below meth c cX16_matchRow D cA A n0 s0 QM dm ra jx rm Q) (hX : HX p l e R s m args below meth c 11 D cA A n0 s0 QM dm ra jx rm X) {K8 : Sg → Int → Int → Int64 → Int64 → Int → Int → Prop} (hK8 : ∀ (σ : Sg) (v1 : Int) (v2 : Int) (v3 : Int64) (v5 : Int64) (v7 : Int) (v8 : Int) (g1 : rng v1) (g2 : rng v2) (g7 : rng v7) (g8 : rng v8), K8 σ v1 v2 v3 v5 v7 v8 → RG σ → Shp dm ra jx rm σ → JJ p l e R s m args below meth c 11 D cA A n0 s0 QM σ 8 [(0, .ref rm), (1, .int (i32 v1)), (2, .int (i32 v2)), (3, .long v3), (5, .long v5), (7, .int (i32 v7)), (8, .int (i32 v8))] []) : ∀ (σ : Sg) (v1 : Int) (v2 : Int) (v3 : Int64) (v5 : Int64) (v7 : Int) (v8 : Int) (v9 : Int) (g1 : rng v1) (g2 : rng v2) (g7 : rng v7) (g8 : rng v8) (g9 : rng v9), w_X16_matchRow_69 ra jx rm K8 Q X σ v1 v2 v3 v5 v7 v8 v9 → RG σ → Shp dm ra jx rm σ → JJ p l e R s m args below meth c 11 D cA A n0 s0 QM σ 69 [(0, .ref rm), (1, .int (i32 v1)), (2, .int (i32 v2)), (3, .long v3), (5, .long v5), (7, .int (i32 v7)), (8, .int (i32 v8)), (9, .int (i32 v9))] [] := by
  intro σ v1 v2 v3 v5 v7 v8 v9 g1 g2 g7 g8 g9 h hGσ hS H locs ls hH hl hc
  have B := K.1
  unfold w_X16_matchRow_69 at h
  refine lv_aload_n B.1 B.2.1 dX16_matchRow_69 rfl (lv_at hl 0 rfl) ?_
  refine lv_iload B.1 B.2.1 dX16_matchRow_70 (lv_at hl 6 rfl) ?_
  refine c_V B hH hl hc K.2.2.1 (C := RX16) (T := TX16) (N := 123) (ci := 16) (As := [.int (i32 v8)]) (ok_X16_drop K.2.1 σ v8 g8 hGσ hS h) wc_X16_607 1 hd_X16_drop ⟨Nat.le_trans (Nat.le_of_ble_eq_true rfl) K.2.2.2.1, Nat.le_trans (Nat.le_of_ble_eq_true rfl) K.2.2.2.2.1⟩ hS.1.1 hS.1.2 (by decide) rfl rfl (rest := []) rfl (Nat.le_of_ble_eq_true rfl) dX16_matchRow_72 (fun σ62 w hq => ?_) (fun σ9 E9 hx9 => hX σ9 E9 _ _ _ (tb_out K.2.2.2.2.2 rfl) hx9.1 hx9.2.1 hx9.2.2)
  obtain ⟨rfl, h, hGσ62, hS⟩ := hq
  intro H locs ls hH hl hc
  refine W.eq (g2 := F0 m 75 ls []) (rfl) ?_
  try dsimp only at h
  exact a_X16_matchRow_75 K hQ hX hK8 _ _ _ _ _ _ _ g1 g2 g7 g9 h hGσ62 hS _ _ _ hH (lv_sub (l' := [(0, .ref rm), (1, .int (i32 v1)), (2, .int (i32 v2)), (3, .long v3), (5, .long v5), (7, .int (i32 v7)), (9, .int (i32 v9))]) hl [0, 1, 2, 3, 4, 5, 7] rfl) hc
set_option maxRecDepth 20000 in
theorem a_X16_matchRow_46 {Q : Sg → Unit → Prop} {X : Sg → String → Prop} (K : MC R p s m args c cX16_matchRow 11 RX16 D cA tys A n0 s0 3 79 []) (hQ : HQV p l e R s m args below meth c cX16_matchRow D cA A n0 s0 QM dm ra jx rm Q) (hX : HX p l e R s m args below meth c 11 D cA A n0 s0 QM dm ra jx rm X) {K8 : Sg → Int → Int → Int64 → Int64 → Int → Int → Prop} (hK8 : ∀ (σ : Sg) (v1 : Int) (v2 : Int) (v3 : Int64) (v5 : Int64) (v7 : Int) (v8 : Int) (g1 : rng v1) (g2 : rng v2) (g7 : rng v7) (g8 : rng v8), K8 σ v1 v2 v3 v5 v7 v8 → RG σ → Shp dm ra jx rm σ → JJ p l e R s m args below meth c 11 D cA A n0 s0 QM σ 8 [(0, .ref rm), (1, .int (i32 v1)), (2, .int (i32 v2)), (3, .long v3), (5, .long v5), (7, .int (i32 v7)), (8, .int (i32 v8))] []) : ∀ (σ : Sg) (v1 : Int) (v2 : Int) (v3 : Int64) (v5 : Int64) (v7 : Int) (v8 : Int) (v9 : Int) (g1 : rng v1) (g2 : rng v2) (g7 : rng v7) (g8 : rng v8) (g9 : rng v9), w_X16_matchRow_46 ra jx rm K8 Q X σ v1 v2 v3 v5 v7 v8 v9 → RG σ → Shp dm ra jx rm σ → JJ p l e R s m args below meth c 11 D cA A n0 s0 QM σ 46 [(0, .ref rm), (1, .int (i32 v1)), (2, .int (i32 v2)), (3, .long v3), (5, .long v5), (7, .int (i32 v7)), (8, .int (i32 v8)), (9, .int (i32 v9))] [] := by
  intro σ v1 v2 v3 v5 v7 v8 v9 g1 g2 g7 g8 g9 h hGσ hS H locs ls hH hl hc
  have B := K.1
  unfold w_X16_matchRow_46 at h
  refine lv_lload B.1 B.2.1 dX16_matchRow_46 (lv_at hl 4 rfl) ?_
  refine lv_aload_n B.1 B.2.1 dX16_matchRow_48 rfl (lv_at hl 0 rfl) ?_
  refine r_arr B hH hS 71 (kd := 101) (n := 4000) (by decide) (by decide) wf_X16_522 rfl rfl dX16_matchRow_49 ?_
  refine lv_iload B.1 B.2.1 dX16_matchRow_52 (lv_at hl 6 rfl) ?_
  obtain ⟨q1, h⟩ := h
  refine x_lald B K.2.1 hH (hS.ar (k := 71) (kd := 101) (n := 4000) (by decide)) (by decide) q1 dX16_matchRow_54 ?_
  refine lv_lsub B.1 B.2.1 dX16_matchRow_55 ?_
  refine lv_aload_n B.1 B.2.1 dX16_matchRow_56 rfl (lv_at hl 0 rfl) ?_
  refine r_getp B hH hS 17 (by decide) wf_X16_356 rfl rfl dX16_matchRow_57 ?_
  obtain ⟨a63, ea63, ja63, h⟩ := h
  refine W.eq (g2 := F0 m 60 ls [.ref a63, .long (v5 - (gJ σ (ra 71) v8.toNat))]) (by rw [ea63]; rfl) ?_
  refine n_arr B hH hS ja63 8 (kd := 101) (n := 16) (by decide) (by decide) (List.mem_of_getElem? (i := 8) rfl) rfl dX16_matchRow_60 ?_
  refine lv_iload_n B.1 B.2.1 dX16_matchRow_63 rfl (lv_at hl 2 rfl) ?_
  obtain ⟨q3, h⟩ := h
  refine x_lald B K.2.1 hH (hS.ja ja63 (k := 8) (kd := 101) (n := 16) (by decide)) (by decide) q3 dX16_matchRow_64 ?_
  refine W.lcmp B.1 B.2.1 dX16_matchRow_65 ?_
  refine lv_if_le (tgt := 75) B.1 B.2.1 dX16_matchRow_66 (by decide) (fun h9 => ?_) (fun h9 => ?_)
  · rw [if_pos ((lg_cmp_le _ _).mp h9)] at h
    exact a_X16_matchRow_75 K hQ hX hK8 _ _ _ _ _ _ _ g1 g2 g7 g9 h hGσ hS _ _ _ hH (lv_sub (l' := [(0, .ref rm), (1, .int (i32 v1)), (2, .int (i32 v2)), (3, .long v3), (5, .long v5), (7, .int (i32 v7)), (9, .int (i32 v9))]) hl [0, 1, 2, 3, 4, 5, 7] rfl) hc
  · rw [if_neg (fun q => h9 ((lg_cmp_le _ _).mpr q))] at h
    exact a_X16_matchRow_69 K hQ hX hK8 _ _ _ _ _ _ _ _ g1 g2 g7 g8 g9 h hGσ hS _ _ _ hH (lv_sub (l' := [(0, .ref rm), (1, .int (i32 v1)), (2, .int (i32 v2)), (3, .long v3), (5, .long v5), (7, .int (i32 v7)), (8, .int (i32 v8)), (9, .int (i32 v9))]) hl [0, 1, 2, 3, 4, 5, 6, 7] rfl) hc
set_option maxRecDepth 20000 in
theorem a_X16_matchRow_34 {Q : Sg → Unit → Prop} {X : Sg → String → Prop} (K : MC R p s m args c cX16_matchRow 11 RX16 D cA tys A n0 s0 3 79 []) (hQ : HQV p l e R s m args below meth c cX16_matchRow D cA A n0 s0 QM dm ra jx rm Q) (hX : HX p l e R s m args below meth c 11 D cA A n0 s0 QM dm ra jx rm X) {K8 : Sg → Int → Int → Int64 → Int64 → Int → Int → Prop} (hK8 : ∀ (σ : Sg) (v1 : Int) (v2 : Int) (v3 : Int64) (v5 : Int64) (v7 : Int) (v8 : Int) (g1 : rng v1) (g2 : rng v2) (g7 : rng v7) (g8 : rng v8), K8 σ v1 v2 v3 v5 v7 v8 → RG σ → Shp dm ra jx rm σ → JJ p l e R s m args below meth c 11 D cA A n0 s0 QM σ 8 [(0, .ref rm), (1, .int (i32 v1)), (2, .int (i32 v2)), (3, .long v3), (5, .long v5), (7, .int (i32 v7)), (8, .int (i32 v8))] []) : ∀ (σ : Sg) (v1 : Int) (v2 : Int) (v3 : Int64) (v5 : Int64) (v7 : Int) (v8 : Int) (v9 : Int) (g1 : rng v1) (g2 : rng v2) (g7 : rng v7) (g8 : rng v8) (g9 : rng v9), w_X16_matchRow_34 ra jx rm K8 Q X σ v1 v2 v3 v5 v7 v8 v9 → RG σ → Shp dm ra jx rm σ → JJ p l e R s m args below meth c 11 D cA A n0 s0 QM σ 34 [(0, .ref rm), (1, .int (i32 v1)), (2, .int (i32 v2)), (3, .long v3), (5, .long v5), (7, .int (i32 v7)), (8, .int (i32 v8)), (9, .int (i32 v9))] [] := by
  intro σ v1 v2 v3 v5 v7 v8 v9 g1 g2 g7 g8 g9 h hGσ hS H locs ls hH hl hc
  have B := K.1
  unfold w_X16_matchRow_34 at h
  refine lv_aload_n B.1 B.2.1 dX16_matchRow_34 rfl (lv_at hl 0 rfl) ?_
  refine r_arr B hH hS 70 (kd := 101) (n := 4000) (by decide) (by decide) wf_X16_519 rfl rfl dX16_matchRow_35 ?_
  refine lv_iload B.1 B.2.1 dX16_matchRow_38 (lv_at hl 6 rfl) ?_
  obtain ⟨q1, h⟩ := h
  refine x_lald B K.2.1 hH (hS.ar (k := 70) (kd := 101) (n := 4000) (by decide)) (by decide) q1 dX16_matchRow_40 ?_
  refine lv_lload_n B.1 B.2.1 dX16_matchRow_41 rfl (lv_at hl 3 rfl) ?_
  refine W.lcmp B.1 B.2.1 dX16_matchRow_42 ?_
  refine lv_if_ne (tgt := 75) B.1 B.2.1 dX16_matchRow_43 (by decide) (fun h9 => ?_) (fun h9 => ?_)
  · rw [if_pos (fun q => h9 ((lg_cmp_eq _ _).mpr q))] at h
    exact a_X16_matchRow_75 K hQ hX hK8 _ _ _ _ _ _ _ g1 g2 g7 g9 h hGσ hS _ _ _ hH (lv_sub (l' := [(0, .ref rm), (1, .int (i32 v1)), (2, .int (i32 v2)), (3, .long v3), (5, .long v5), (7, .int (i32 v7)), (9, .int (i32 v9))]) hl [0, 1, 2, 3, 4, 5, 7] rfl) hc
  · rw [if_neg (fun q => q ((lg_cmp_eq _ _).mp h9))] at h
    exact a_X16_matchRow_46 K hQ hX hK8 _ _ _ _ _ _ _ _ g1 g2 g7 g8 g9 h hGσ hS _ _ _ hH (lv_sub (l' := [(0, .ref rm), (1, .int (i32 v1)), (2, .int (i32 v2)), (3, .long v3), (5, .long v5), (7, .int (i32 v7)), (8, .int (i32 v8)), (9, .int (i32 v9))]) hl [0, 1, 2, 3, 4, 5, 6, 7] rfl) hc
set_option maxRecDepth 20000 in
theorem a_X16_matchRow_14 {Q : Sg → Unit → Prop} {X : Sg → String → Prop} (K : MC R p s m args c cX16_matchRow 11 RX16 D cA tys A n0 s0 3 79 []) (hQ : HQV p l e R s m args below meth c cX16_matchRow D cA A n0 s0 QM dm ra jx rm Q) (hX : HX p l e R s m args below meth c 11 D cA A n0 s0 QM dm ra jx rm X) {K8 : Sg → Int → Int → Int64 → Int64 → Int → Int → Prop} (hK8 : ∀ (σ : Sg) (v1 : Int) (v2 : Int) (v3 : Int64) (v5 : Int64) (v7 : Int) (v8 : Int) (g1 : rng v1) (g2 : rng v2) (g7 : rng v7) (g8 : rng v8), K8 σ v1 v2 v3 v5 v7 v8 → RG σ → Shp dm ra jx rm σ → JJ p l e R s m args below meth c 11 D cA A n0 s0 QM σ 8 [(0, .ref rm), (1, .int (i32 v1)), (2, .int (i32 v2)), (3, .long v3), (5, .long v5), (7, .int (i32 v7)), (8, .int (i32 v8))] []) : ∀ (σ : Sg) (v1 : Int) (v2 : Int) (v3 : Int64) (v5 : Int64) (v7 : Int) (v8 : Int) (g1 : rng v1) (g2 : rng v2) (g7 : rng v7) (g8 : rng v8), w_X16_matchRow_14 ra jx rm K8 Q X σ v1 v2 v3 v5 v7 v8 → RG σ → Shp dm ra jx rm σ → JJ p l e R s m args below meth c 11 D cA A n0 s0 QM σ 14 [(0, .ref rm), (1, .int (i32 v1)), (2, .int (i32 v2)), (3, .long v3), (5, .long v5), (7, .int (i32 v7)), (8, .int (i32 v8))] [] := by
  intro σ v1 v2 v3 v5 v7 v8 g1 g2 g7 g8 h hGσ hS H locs ls hH hl hc
  have B := K.1
  unfold w_X16_matchRow_14 at h
  refine lv_aload_n B.1 B.2.1 dX16_matchRow_14 rfl (lv_at hl 0 rfl) ?_
  refine r_arr B hH hS 75 (kd := 100) (n := 4000) (by decide) (by decide) wf_X16_495 rfl rfl dX16_matchRow_15 ?_
  refine lv_iload B.1 B.2.1 dX16_matchRow_18 (lv_at hl 6 rfl) ?_
  obtain ⟨q1, h⟩ := h
  refine x_iald B K.2.1 hH (hS.ar (k := 75) (kd := 100) (n := 4000) (by decide)) (by decide) q1 dX16_matchRow_20 ?_
  refine lv_istore (lv' := [(9, .int (i32 (gI σ (ra 75) v8.toNat))), (0, .ref rm), (1, .int (i32 v1)), (2, .int (i32 v2)), (3, .long v3), (5, .long v5), (7, .int (i32 v7)), (8, .int (i32 v8))]) B.1 B.2.1 dX16_matchRow_21 hl (by decide) rfl (fun ls hl => ?_)
  refine lv_aload_n B.1 B.2.1 dX16_matchRow_23 rfl (lv_at hl 1 rfl) ?_
  refine r_arr B hH hS 68 (kd := 100) (n := 4000) (by decide) (by decide) wf_X16_513 rfl rfl dX16_matchRow_24 ?_
  refine lv_iload B.1 B.2.1 dX16_matchRow_27 (lv_at hl 7 rfl) ?_
  obtain ⟨q2, h⟩ := h
  refine x_iald B K.2.1 hH (hS.ar (k := 68) (kd := 100) (n := 4000) (by decide)) (by decide) q2 dX16_matchRow_29 ?_
  refine lv_iconst (v := i32 2) B.1 B.2.1 dX16_matchRow_30 (by decide) ?_
  refine lv_icmp_ne (tgt := 75) B.1 B.2.1 dX16_matchRow_31 (by decide) (fun h9 => ?_) (fun h9 => ?_)
  · rw [if_pos (fun q => h9 ((i32_eq (hGσ _ _) (by unfold rng; omega)).mpr q))] at h
    exact a_X16_matchRow_75 K hQ hX hK8 _ _ _ _ _ _ _ g1 g2 g7 (hGσ _ _) h hGσ hS _ _ _ hH (lv_sub (l' := [(0, .ref rm), (1, .int (i32 v1)), (2, .int (i32 v2)), (3, .long v3), (5, .long v5), (7, .int (i32 v7)), (9, .int (i32 (gI σ (ra 75) v8.toNat)))]) hl [1, 2, 3, 4, 5, 6, 0] rfl) hc
  · rw [if_neg (fun q => q ((i32_eq (hGσ _ _) (by unfold rng; omega)).mp h9))] at h
    exact a_X16_matchRow_34 K hQ hX hK8 _ _ _ _ _ _ _ _ g1 g2 g7 g8 (hGσ _ _) h hGσ hS _ _ _ hH (lv_sub (l' := [(0, .ref rm), (1, .int (i32 v1)), (2, .int (i32 v2)), (3, .long v3), (5, .long v5), (7, .int (i32 v7)), (8, .int (i32 v8)), (9, .int (i32 (gI σ (ra 75) v8.toNat)))]) hl [1, 2, 3, 4, 5, 6, 7, 0] rfl) hc
set_option maxRecDepth 20000 in
theorem a_X16_matchRow_8 {Q : Sg → Unit → Prop} {X : Sg → String → Prop} (K : MC R p s m args c cX16_matchRow 11 RX16 D cA tys A n0 s0 3 79 []) (hQ : HQV p l e R s m args below meth c cX16_matchRow D cA A n0 s0 QM dm ra jx rm Q) (hX : HX p l e R s m args below meth c 11 D cA A n0 s0 QM dm ra jx rm X) {K8 : Sg → Int → Int → Int64 → Int64 → Int → Int → Prop} (hK8 : ∀ (σ : Sg) (v1 : Int) (v2 : Int) (v3 : Int64) (v5 : Int64) (v7 : Int) (v8 : Int) (g1 : rng v1) (g2 : rng v2) (g7 : rng v7) (g8 : rng v8), K8 σ v1 v2 v3 v5 v7 v8 → RG σ → Shp dm ra jx rm σ → JJ p l e R s m args below meth c 11 D cA A n0 s0 QM σ 8 [(0, .ref rm), (1, .int (i32 v1)), (2, .int (i32 v2)), (3, .long v3), (5, .long v5), (7, .int (i32 v7)), (8, .int (i32 v8))] []) : ∀ (σ : Sg) (v1 : Int) (v2 : Int) (v3 : Int64) (v5 : Int64) (v7 : Int) (v8 : Int) (g1 : rng v1) (g2 : rng v2) (g7 : rng v7) (g8 : rng v8), w_X16_matchRow_8 ra jx rm K8 Q X σ v1 v2 v3 v5 v7 v8 → RG σ → Shp dm ra jx rm σ → JJ p l e R s m args below meth c 11 D cA A n0 s0 QM σ 8 [(0, .ref rm), (1, .int (i32 v1)), (2, .int (i32 v2)), (3, .long v3), (5, .long v5), (7, .int (i32 v7)), (8, .int (i32 v8))] [] := by
  intro σ v1 v2 v3 v5 v7 v8 g1 g2 g7 g8 h hGσ hS H locs ls hH hl hc
  have B := K.1
  unfold w_X16_matchRow_8 at h
  refine lv_iload B.1 B.2.1 dX16_matchRow_8 (lv_at hl 6 rfl) ?_
  refine lv_iconst (v := i32 (-1)) B.1 B.2.1 dX16_matchRow_10 (by decide) ?_
  refine lv_icmp_eq (tgt := 82) B.1 B.2.1 dX16_matchRow_11 (by decide) (fun h9 => ?_) (fun h9 => ?_)
  · rw [if_pos ((i32_eq g8 (by unfold rng; omega)).mp h9)] at h
    exact a_X16_matchRow_82 K hQ hX _ _ _ _ _ _ g1 g2 g7 h hGσ hS _ _ _ hH (lv_sub (l' := [(0, .ref rm), (1, .int (i32 v1)), (2, .int (i32 v2)), (3, .long v3), (5, .long v5), (7, .int (i32 v7))]) hl [0, 1, 2, 3, 4, 5] rfl) hc
  · rw [if_neg (fun q => h9 ((i32_eq g8 (by unfold rng; omega)).mpr q))] at h
    exact a_X16_matchRow_14 K hQ hX hK8 _ _ _ _ _ _ _ g1 g2 g7 g8 h hGσ hS _ _ _ hH (lv_sub (l' := [(0, .ref rm), (1, .int (i32 v1)), (2, .int (i32 v2)), (3, .long v3), (5, .long v5), (7, .int (i32 v7)), (8, .int (i32 v8))]) hl [0, 1, 2, 3, 4, 5, 6] rfl) hc
theorem al_X16_matchRow_8 {Q : Sg → Unit → Prop} {X : Sg → String → Prop} (K : MC R p s m args c cX16_matchRow 11 RX16 D cA tys A n0 s0 3 79 []) (hQ : HQV p l e R s m args below meth c cX16_matchRow D cA A n0 s0 QM dm ra jx rm Q) (hX : HX p l e R s m args below meth c 11 D cA A n0 s0 QM dm ra jx rm X) : ∀ (n : Nat), ∀ (σ : Sg) (v1 : Int) (v2 : Int) (v3 : Int64) (v5 : Int64) (v7 : Int) (v8 : Int) (g1 : rng v1) (g2 : rng v2) (g7 : rng v7) (g8 : rng v8), wl_X16_matchRow_8 ra jx rm Q X n σ v1 v2 v3 v5 v7 v8 → RG σ → Shp dm ra jx rm σ → JJ p l e R s m args below meth c 11 D cA A n0 s0 QM σ 8 [(0, .ref rm), (1, .int (i32 v1)), (2, .int (i32 v2)), (3, .long v3), (5, .long v5), (7, .int (i32 v7)), (8, .int (i32 v8))] [] := by
  intro n
  induction n with
  | zero => intro σ v1 v2 v3 v5 v7 v8 g1 g2 g7 g8 h; exact h.elim
  | succ n ih => exact fun σ v1 v2 v3 v5 v7 v8 g1 g2 g7 g8 h => a_X16_matchRow_8 K hQ hX ih σ v1 v2 v3 v5 v7 v8 g1 g2 g7 g8 h
set_option maxRecDepth 20000 in
theorem a_X16_matchRow_0 {Q : Sg → Unit → Prop} {X : Sg → String → Prop} (K : MC R p s m args c cX16_matchRow 11 RX16 D cA tys A n0 s0 3 79 []) (hQ : HQV p l e R s m args below meth c cX16_matchRow D cA A n0 s0 QM dm ra jx rm Q) (hX : HX p l e R s m args below meth c 11 D cA A n0 s0 QM dm ra jx rm X) : ∀ (σ : Sg) (v1 : Int) (v2 : Int) (v3 : Int64) (v5 : Int64) (v7 : Int) (g1 : rng v1) (g2 : rng v2) (g7 : rng v7), w_X16_matchRow_0 ra jx rm Q X σ v1 v2 v3 v5 v7 → RG σ → Shp dm ra jx rm σ → JJ p l e R s m args below meth c 11 D cA A n0 s0 QM σ 0 [(0, .ref rm), (1, .int (i32 v1)), (2, .int (i32 v2)), (3, .long v3), (5, .long v5), (7, .int (i32 v7))] [] := by
  intro σ v1 v2 v3 v5 v7 g1 g2 g7 h hGσ hS H locs ls hH hl hc
  have B := K.1
  unfold w_X16_matchRow_0 at h
  refine lv_aload_n B.1 B.2.1 dX16_matchRow_0 rfl (lv_at hl 0 rfl) ?_
  refine r_arr B hH hS 76 (kd := 100) (n := 64) (by decide) (by decide) wf_X16_504 rfl rfl dX16_matchRow_1 ?_
  refine lv_iload_n B.1 B.2.1 dX16_matchRow_4 rfl (lv_at hl 1 rfl) ?_
  obtain ⟨q1, h⟩ := h
  refine x_iald B K.2.1 hH (hS.ar (k := 76) (kd := 100) (n := 64) (by decide)) (by decide) q1 dX16_matchRow_5 ?_
  refine lv_istore (lv' := [(8, .int (i32 (gI σ (ra 76) v1.toNat))), (0, .ref rm), (1, .int (i32 v1)), (2, .int (i32 v2)), (3, .long v3), (5, .long v5), (7, .int (i32 v7))]) B.1 B.2.1 dX16_matchRow_6 hl (by decide) rfl (fun ls hl => ?_)
  obtain ⟨n9, h⟩ := h
  exact al_X16_matchRow_8 K hQ hX n9 _ _ _ _ _ _ _ g1 g2 g7 (hGσ _ _) h hGσ hS _ _ _ hH (lv_sub (l' := [(0, .ref rm), (1, .int (i32 v1)), (2, .int (i32 v2)), (3, .long v3), (5, .long v5), (7, .int (i32 v7)), (8, .int (i32 (gI σ (ra 76) v1.toNat)))]) hl [1, 2, 3, 4, 5, 6, 0] rfl) hc
theorem ok_X16_matchRow (hT : Tys cA tys) {Q : Sg → Unit → Prop} {X : Sg → String → Prop} (σ : Sg) (v1 : Int) (v2 : Int) (v3 : Int64) (v5 : Int64) (v7 : Int) (g1 : rng v1) (g2 : rng v2) (g7 : rng v7) (hG : RG σ) (hS : Shp dm ra jx rm σ) (h : wp_X16_matchRow ra jx rm v1 v2 v3 v5 v7 σ Q X) : Ok l D cA tys A yX16_matchRow (.code yX16_matchRow cX16_matchRow 11 none) 3 79 [.ref rm, .int (i32 v1), .int (i32 v2), .long v3, .long v5, .int (i32 v7)] σ (QnV dm ra jx rm Q) (QxR dm ra jx rm X) := by
  unfold wp_X16_matchRow at h
  exact ok_V (plainFor_of_name (by decide)) (by exact Nat.le_of_ble_eq_true rfl) hT (fun p e R s m args below meth c K hQ hX H locs ls hH hl hc => a_X16_matchRow_0 K hQ hX σ v1 v2 v3 v5 v7 g1 g2 g7 h hG hS H locs ls hH (lv_sub (l' := [(0, .ref rm), (1, .int (i32 v1)), (2, .int (i32 v2)), (3, .long v3), (5, .long v5), (7, .int (i32 v7))]) hl [0, 1, 2, 3, 4, 5] rfl) hc)
theorem dX16_growMatch_0 : decode cX16_growMatch 0 = .ok (.aload_n 0, 1) := by decide +kernel
theorem dX16_growMatch_1 : decode cX16_growMatch 1 = .ok (.getfield 356, 3) := by decide +kernel
theorem dX16_growMatch_4 : decode cX16_growMatch 4 = .ok (.getfield 178, 3) := by decide +kernel
theorem dX16_growMatch_7 : decode cX16_growMatch 7 = .ok (.aload_n 0, 1) := by decide +kernel
theorem dX16_growMatch_8 : decode cX16_growMatch 8 = .ok (.getfield 356, 3) := by decide +kernel
theorem dX16_growMatch_11 : decode cX16_growMatch 11 = .ok (.getfield 216, 3) := by decide +kernel
theorem dX16_growMatch_14 : decode cX16_growMatch 14 = .ok (.iload_n 2, 1) := by decide +kernel
theorem dX16_growMatch_15 : decode cX16_growMatch 15 = .ok (.iaload, 1) := by decide +kernel
theorem dX16_growMatch_16 : decode cX16_growMatch 16 = .ok (.iaload, 1) := by decide +kernel
theorem dX16_growMatch_17 : decode cX16_growMatch 17 = .ok (.istore 5, 2) := by decide +kernel
theorem dX16_growMatch_19 : decode cX16_growMatch 19 = .ok (.aload_n 0, 1) := by decide +kernel
theorem dX16_growMatch_20 : decode cX16_growMatch 20 = .ok (.iload_n 1, 1) := by decide +kernel
theorem dX16_growMatch_21 : decode cX16_growMatch 21 = .ok (.iload 5, 2) := by decide +kernel
theorem dX16_growMatch_23 : decode cX16_growMatch 23 = .ok (.lload_n 3, 1) := by decide +kernel
theorem dX16_growMatch_24 : decode cX16_growMatch 24 = .ok (.invokevirtual 636, 3) := by decide +kernel
theorem dX16_growMatch_27 : decode cX16_growMatch 27 = .ok (.istore 6, 2) := by decide +kernel
theorem dX16_growMatch_29 : decode cX16_growMatch 29 = .ok (.iload 6, 2) := by decide +kernel
theorem dX16_growMatch_31 : decode cX16_growMatch 31 = .ok (.iconst (-1), 1) := by decide +kernel
theorem dX16_growMatch_32 : decode cX16_growMatch 32 = .ok (.if_icmp .eq 97, 3) := by decide +kernel
theorem dX16_growMatch_35 : decode cX16_growMatch 35 = .ok (.aload_n 0, 1) := by decide +kernel
theorem dX16_growMatch_36 : decode cX16_growMatch 36 = .ok (.getfield 519, 3) := by decide +kernel
theorem dX16_growMatch_39 : decode cX16_growMatch 39 = .ok (.iload 6, 2) := by decide +kernel
theorem dX16_growMatch_41 : decode cX16_growMatch 41 = .ok (.laload, 1) := by decide +kernel
theorem dX16_growMatch_42 : decode cX16_growMatch 42 = .ok (.lstore 7, 2) := by decide +kernel
theorem dX16_growMatch_44 : decode cX16_growMatch 44 = .ok (.aload_n 0, 1) := by decide +kernel
theorem dX16_growMatch_45 : decode cX16_growMatch 45 = .ok (.getfield 522, 3) := by decide +kernel
theorem dX16_growMatch_48 : decode cX16_growMatch 48 = .ok (.iload 6, 2) := by decide +kernel
theorem dX16_growMatch_50 : decode cX16_growMatch 50 = .ok (.laload, 1) := by decide +kernel
theorem dX16_growMatch_51 : decode cX16_growMatch 51 = .ok (.lstore 9, 2) := by decide +kernel
theorem dX16_growMatch_53 : decode cX16_growMatch 53 = .ok (.aload_n 0, 1) := by decide +kernel
theorem dX16_growMatch_54 : decode cX16_growMatch 54 = .ok (.getfield 531, 3) := by decide +kernel
theorem dX16_growMatch_57 : decode cX16_growMatch 57 = .ok (.iload 6, 2) := by decide +kernel
theorem dX16_growMatch_59 : decode cX16_growMatch 59 = .ok (.iaload, 1) := by decide +kernel
theorem dX16_growMatch_60 : decode cX16_growMatch 60 = .ok (.istore 11, 2) := by decide +kernel
theorem dX16_growMatch_62 : decode cX16_growMatch 62 = .ok (.iconst 0, 1) := by decide +kernel
theorem dX16_growMatch_63 : decode cX16_growMatch 63 = .ok (.istore 12, 2) := by decide +kernel
theorem dX16_growMatch_65 : decode cX16_growMatch 65 = .ok (.iload 12, 2) := by decide +kernel
theorem dX16_growMatch_67 : decode cX16_growMatch 67 = .ok (.bipush 8, 2) := by decide +kernel
theorem dX16_growMatch_69 : decode cX16_growMatch 69 = .ok (.if_icmp .ge 29, 3) := by decide +kernel
theorem dX16_growMatch_72 : decode cX16_growMatch 72 = .ok (.aload_n 0, 1) := by decide +kernel
theorem dX16_growMatch_73 : decode cX16_growMatch 73 = .ok (.getfield 542, 3) := by decide +kernel
theorem dX16_growMatch_76 : decode cX16_growMatch 76 = .ok (.iload 12, 2) := by decide +kernel
theorem dX16_growMatch_78 : decode cX16_growMatch 78 = .ok (.aload_n 0, 1) := by decide +kernel
theorem dX16_growMatch_79 : decode cX16_growMatch 79 = .ok (.getfield 528, 3) := by decide +kernel
theorem dX16_growMatch_82 : decode cX16_growMatch 82 = .ok (.bipush 8, 2) := by decide +kernel
theorem dX16_growMatch_84 : decode cX16_growMatch 84 = .ok (.iload 6, 2) := by decide +kernel
theorem dX16_growMatch_86 : decode cX16_growMatch 86 = .ok (.imul, 1) := by decide +kernel
theorem dX16_growMatch_87 : decode cX16_growMatch 87 = .ok (.iload 12, 2) := by decide +kernel
theorem dX16_growMatch_89 : decode cX16_growMatch 89 = .ok (.iadd, 1) := by decide +kernel
theorem dX16_growMatch_90 : decode cX16_growMatch 90 = .ok (.laload, 1) := by decide +kernel
theorem dX16_growMatch_91 : decode cX16_growMatch 91 = .ok (.lastore, 1) := by decide +kernel
theorem dX16_growMatch_92 : decode cX16_growMatch 92 = .ok (.iinc 12 1, 3) := by decide +kernel
theorem dX16_growMatch_95 : decode cX16_growMatch 95 = .ok (.goto (-30), 3) := by decide +kernel
theorem dX16_growMatch_98 : decode cX16_growMatch 98 = .ok (.aload_n 0, 1) := by decide +kernel
theorem dX16_growMatch_99 : decode cX16_growMatch 99 = .ok (.iload 6, 2) := by decide +kernel
theorem dX16_growMatch_101 : decode cX16_growMatch 101 = .ok (.invokevirtual 607, 3) := by decide +kernel
theorem dX16_growMatch_104 : decode cX16_growMatch 104 = .ok (.aload_n 0, 1) := by decide +kernel
theorem dX16_growMatch_105 : decode cX16_growMatch 105 = .ok (.iload_n 1, 1) := by decide +kernel
theorem dX16_growMatch_106 : decode cX16_growMatch 106 = .ok (.iload_n 2, 1) := by decide +kernel
theorem dX16_growMatch_107 : decode cX16_growMatch 107 = .ok (.lload 7, 2) := by decide +kernel
theorem dX16_growMatch_109 : decode cX16_growMatch 109 = .ok (.lload 9, 2) := by decide +kernel
theorem dX16_growMatch_111 : decode cX16_growMatch 111 = .ok (.iload 11, 2) := by decide +kernel
theorem dX16_growMatch_113 : decode cX16_growMatch 113 = .ok (.invokevirtual 644, 3) := by decide +kernel
theorem dX16_growMatch_116 : decode cX16_growMatch 116 = .ok (.aload_n 0, 1) := by decide +kernel
theorem dX16_growMatch_117 : decode cX16_growMatch 117 = .ok (.iload_n 1, 1) := by decide +kernel
theorem dX16_growMatch_118 : decode cX16_growMatch 118 = .ok (.iload 5, 2) := by decide +kernel
theorem dX16_growMatch_120 : decode cX16_growMatch 120 = .ok (.lload_n 3, 1) := by decide +kernel
theorem dX16_growMatch_121 : decode cX16_growMatch 121 = .ok (.invokevirtual 636, 3) := by decide +kernel
theorem dX16_growMatch_124 : decode cX16_growMatch 124 = .ok (.istore 6, 2) := by decide +kernel
theorem dX16_growMatch_126 : decode cX16_growMatch 126 = .ok (.goto (-97), 3) := by decide +kernel
theorem dX16_growMatch_129 : decode cX16_growMatch 129 = .ok (.aload_n 0, 1) := by decide +kernel
theorem dX16_growMatch_130 : decode cX16_growMatch 130 = .ok (.getfield 504, 3) := by decide +kernel
theorem dX16_growMatch_133 : decode cX16_growMatch 133 = .ok (.iload_n 1, 1) := by decide +kernel
theorem dX16_growMatch_134 : decode cX16_growMatch 134 = .ok (.iaload, 1) := by decide +kernel
theorem dX16_growMatch_135 : decode cX16_growMatch 135 = .ok (.istore 6, 2) := by decide +kernel
theorem dX16_growMatch_137 : decode cX16_growMatch 137 = .ok (.iload 6, 2) := by decide +kernel
theorem dX16_growMatch_139 : decode cX16_growMatch 139 = .ok (.iconst (-1), 1) := by decide +kernel
theorem dX16_growMatch_140 : decode cX16_growMatch 140 = .ok (.if_icmp .eq 60, 3) := by decide +kernel
theorem dX16_growMatch_143 : decode cX16_growMatch 143 = .ok (.aload_n 0, 1) := by decide +kernel
theorem dX16_growMatch_144 : decode cX16_growMatch 144 = .ok (.getfield 495, 3) := by decide +kernel
theorem dX16_growMatch_147 : decode cX16_growMatch 147 = .ok (.iload 6, 2) := by decide +kernel
theorem dX16_growMatch_149 : decode cX16_growMatch 149 = .ok (.iaload, 1) := by decide +kernel
theorem dX16_growMatch_150 : decode cX16_growMatch 150 = .ok (.istore 7, 2) := by decide +kernel
theorem dX16_growMatch_152 : decode cX16_growMatch 152 = .ok (.aload_n 0, 1) := by decide +kernel
theorem dX16_growMatch_153 : decode cX16_growMatch 153 = .ok (.getfield 513, 3) := by decide +kernel
theorem dX16_growMatch_156 : decode cX16_growMatch 156 = .ok (.iload 6, 2) := by decide +kernel
theorem dX16_growMatch_158 : decode cX16_growMatch 158 = .ok (.iaload, 1) := by decide +kernel
theorem dX16_growMatch_159 : decode cX16_growMatch 159 = .ok (.iconst 2, 1) := by decide +kernel
theorem dX16_growMatch_160 : decode cX16_growMatch 160 = .ok (.if_icmp .ne 33, 3) := by decide +kernel
theorem dX16_growMatch_163 : decode cX16_growMatch 163 = .ok (.lload_n 3, 1) := by decide +kernel
theorem dX16_growMatch_164 : decode cX16_growMatch 164 = .ok (.lconst 1, 1) := by decide +kernel
theorem dX16_growMatch_165 : decode cX16_growMatch 165 = .ok (.ladd, 1) := by decide +kernel
theorem dX16_growMatch_166 : decode cX16_growMatch 166 = .ok (.aload_n 0, 1) := by decide +kernel
theorem dX16_growMatch_167 : decode cX16_growMatch 167 = .ok (.getfield 522, 3) := by decide +kernel
theorem dX16_growMatch_170 : decode cX16_growMatch 170 = .ok (.iload 6, 2) := by decide +kernel
theorem dX16_growMatch_172 : decode cX16_growMatch 172 = .ok (.laload, 1) := by decide +kernel
theorem dX16_growMatch_173 : decode cX16_growMatch 173 = .ok (.lsub, 1) := by decide +kernel
theorem dX16_growMatch_174 : decode cX16_growMatch 174 = .ok (.aload_n 0, 1) := by decide +kernel
theorem dX16_growMatch_175 : decode cX16_growMatch 175 = .ok (.getfield 356, 3) := by decide +kernel
theorem dX16_growMatch_178 : decode cX16_growMatch 178 = .ok (.getfield 191, 3) := by decide +kernel
theorem dX16_growMatch_181 : decode cX16_growMatch 181 = .ok (.iload_n 2, 1) := by decide +kernel
theorem dX16_growMatch_182 : decode cX16_growMatch 182 = .ok (.laload, 1) := by decide +kernel
theorem dX16_growMatch_183 : decode cX16_growMatch 183 = .ok (.lcmp, 1) := by decide +kernel
theorem dX16_growMatch_184 : decode cX16_growMatch 184 = .ok (.ifCond .le 9, 3) := by decide +kernel
theorem dX16_growMatch_187 : decode cX16_growMatch 187 = .ok (.aload_n 0, 1) := by decide +kernel
theorem dX16_growMatch_188 : decode cX16_growMatch 188 = .ok (.iload 6, 2) := by decide +kernel
theorem dX16_growMatch_190 : decode cX16_growMatch 190 = .ok (.invokevirtual 607, 3) := by decide +kernel
theorem dX16_growMatch_193 : decode cX16_growMatch 193 = .ok (.iload 7, 2) := by decide +kernel
theorem dX16_growMatch_195 : decode cX16_growMatch 195 = .ok (.istore 6, 2) := by decide +kernel
theorem dX16_growMatch_197 : decode cX16_growMatch 197 = .ok (.goto (-60), 3) := by decide +kernel
theorem dX16_growMatch_200 : decode cX16_growMatch 200 = .ok (.return_, 1) := by decide +kernel
set_option maxRecDepth 20000 in
theorem a_X16_growMatch_200 {Q : Sg → Unit → Prop} {X : Sg → String → Prop} (K : MC R p s m args c cX16_growMatch 13 RX16 D cA tys A n0 s0 4 109 []) (hQ : HQV p l e R s m args below meth c cX16_growMatch D cA A n0 s0 QM dm ra jx rm Q) (hX : HX p l e R s m args below meth c 13 D cA A n0 s0 QM dm ra jx rm X) : ∀ (σ : Sg), w_X16_growMatch_200 ra jx rm Q X σ → RG σ → Shp dm ra jx rm σ → JJ p l e R s m args below meth c 13 D cA A n0 s0 QM σ 200 [(0, .ref rm)] [] := by
  intro σ h hGσ hS H locs ls hH hl hc
  have B := K.1
  unfold w_X16_growMatch_200 at h
  exact hQ _ _ _ _ _ dX16_growMatch_200 hH hc h hGσ hS
set_option maxRecDepth 20000 in
theorem a_X16_growMatch_193 {Q : Sg → Unit → Prop} {X : Sg → String → Prop} (K : MC R p s m args c cX16_growMatch 13 RX16 D cA tys A n0 s0 4 109 []) (hQ : HQV p l e R s m args below meth c cX16_growMatch D cA A n0 s0 QM dm ra jx rm Q) (hX : HX p l e R s m args below meth c 13 D cA A n0 s0 QM dm ra jx rm X) {K137 : Sg → Int → Int64 → Int → Prop} (hK137 : ∀ (σ : Sg) (v2 : Int) (v3 : Int64) (v6 : Int) (g2 : rng v2) (g6 : rng v6), K137 σ v2 v3 v6 → RG σ → Shp dm ra jx rm σ → JJ p l e R s m args below meth c 13 D cA A n0 s0 QM σ 137 [(0, .ref rm), (2, .int (i32 v2)), (3, .long v3), (6, .int (i32 v6))] []) : ∀ (σ : Sg) (v2 : Int) (v3 : Int64) (v7 : Int) (g2 : rng v2) (g7 : rng v7), w_X16_growMatch_193 ra jx rm K137 Q X σ v2 v3 v7 → RG σ → Shp dm ra jx rm σ → JJ p l e R s m args below meth c 13 D cA A n0 s0 QM σ 193 [(0, .ref rm), (2, .int (i32 v2)), (3, .long v3), (7, .int (i32 v7))] [] := by
  intro σ v2 v3 v7 g2 g7 h hGσ hS H locs ls hH hl hc
  have B := K.1
  unfold w_X16_growMatch_193 at h
  refine lv_iload B.1 B.2.1 dX16_growMatch_193 (lv_at hl 3 rfl) ?_
  refine lv_istore (lv' := [(6, .int (i32 v7)), (0, .ref rm), (2, .int (i32 v2)), (3, .long v3), (7, .int (i32 v7))]) B.1 B.2.1 dX16_growMatch_195 hl (by decide) rfl (fun ls hl => ?_)
  refine lv_goto (tgt := 137) B.1 B.2.1 dX16_growMatch_197 (by decide) ?_
  exact hK137 _ _ _ _ g2 g7 h hGσ hS _ _ _ hH (lv_sub (l' := [(0, .ref rm), (2, .int (i32 v2)), (3, .long v3), (6, .int (i32 v7))]) hl [1, 2, 3, 0] rfl) hc
set_option maxRecDepth 20000 in
theorem a_X16_growMatch_187 {Q : Sg → Unit → Prop} {X : Sg → String → Prop} (K : MC R p s m args c cX16_growMatch 13 RX16 D cA tys A n0 s0 4 109 []) (hQ : HQV p l e R s m args below meth c cX16_growMatch D cA A n0 s0 QM dm ra jx rm Q) (hX : HX p l e R s m args below meth c 13 D cA A n0 s0 QM dm ra jx rm X) {K137 : Sg → Int → Int64 → Int → Prop} (hK137 : ∀ (σ : Sg) (v2 : Int) (v3 : Int64) (v6 : Int) (g2 : rng v2) (g6 : rng v6), K137 σ v2 v3 v6 → RG σ → Shp dm ra jx rm σ → JJ p l e R s m args below meth c 13 D cA A n0 s0 QM σ 137 [(0, .ref rm), (2, .int (i32 v2)), (3, .long v3), (6, .int (i32 v6))] []) : ∀ (σ : Sg) (v2 : Int) (v3 : Int64) (v6 : Int) (v7 : Int) (g2 : rng v2) (g6 : rng v6) (g7 : rng v7), w_X16_growMatch_187 ra jx rm K137 Q X σ v2 v3 v6 v7 → RG σ → Shp dm ra jx rm σ → JJ p l e R s m args below meth c 13 D cA A n0 s0 QM σ 187 [(0, .ref rm), (2, .int (i32 v2)), (3, .long v3), (6, .int (i32 v6)), (7, .int (i32 v7))] [] := by
  intro σ v2 v3 v6 v7 g2 g6 g7 h hGσ hS H locs ls hH hl hc
  have B := K.1
  unfold w_X16_growMatch_187 at h
  refine lv_aload_n B.1 B.2.1 dX16_growMatch_187 rfl (lv_at hl 0 rfl) ?_
  refine lv_iload B.1 B.2.1 dX16_growMatch_188 (lv_at hl 3 rfl) ?_
  refine c_V B hH hl hc K.2.2.1 (C := RX16) (T := TX16) (N := 123) (ci := 16) (As := [.int (i32 v6)]) (ok_X16_drop K.2.1 σ v6 g6 hGσ hS h) wc_X16_607 1 hd_X16_drop ⟨Nat.le_trans (Nat.le_of_ble_eq_true rfl) K.2.2.2.1, Nat.le_trans (Nat.le_of_ble_eq_true rfl) K.2.2.2.2.1⟩ hS.1.1 hS.1.2 (by decide) rfl rfl (rest := []) rfl (Nat.le_of_ble_eq_true rfl) dX16_growMatch_190 (fun σ23 w hq => ?_) (fun σ9 E9 hx9 => hX σ9 E9 _ _ _ (tb_out K.2.2.2.2.2 rfl) hx9.1 hx9.2.1 hx9.2.2)
  obtain ⟨rfl, h, hGσ23, hS⟩ := hq
  intro H locs ls hH hl hc
  refine W.eq (g2 := F0 m 193 ls []) (rfl) ?_
  try dsimp only at h
  exact a_X16_growMatch_193 K hQ hX hK137 _ _ _ _ g2 g7 h hGσ23 hS _ _ _ hH (lv_sub (l' := [(0, .ref rm), (2, .int (i32 v2)), (3, .long v3), (7, .int (i32 v7))]) hl [0, 1, 2, 4] rfl) hc
set_option maxRecDepth 20000 in
theorem a_X16_growMatch_163 {Q : Sg → Unit → Prop} {X : Sg → String → Prop} (K : MC R p s m args c cX16_growMatch 13 RX16 D cA tys A n0 s0 4 109 []) (hQ : HQV p l e R s m args below meth c cX16_growMatch D cA A n0 s0 QM dm ra jx rm Q) (hX : HX p l e R s m args below meth c 13 D cA A n0 s0 QM dm ra jx rm X) {K137 : Sg → Int → Int64 → Int → Prop} (hK137 : ∀ (σ : Sg) (v2 : Int) (v3 : Int64) (v6 : Int) (g2 : rng v2) (g6 : rng v6), K137 σ v2 v3 v6 → RG σ → Shp dm ra jx rm σ → JJ p l e R s m args below meth c 13 D cA A n0 s0 QM σ 137 [(0, .ref rm), (2, .int (i32 v2)), (3, .long v3), (6, .int (i32 v6))] []) : ∀ (σ : Sg) (v2 : Int) (v3 : Int64) (v6 : Int) (v7 : Int) (g2 : rng v2) (g6 : rng v6) (g7 : rng v7), w_X16_growMatch_163 ra jx rm K137 Q X σ v2 v3 v6 v7 → RG σ → Shp dm ra jx rm σ → JJ p l e R s m args below meth c 13 D cA A n0 s0 QM σ 163 [(0, .ref rm), (2, .int (i32 v2)), (3, .long v3), (6, .int (i32 v6)), (7, .int (i32 v7))] [] := by
  intro σ v2 v3 v6 v7 g2 g6 g7 h hGσ hS H locs ls hH hl hc
  have B := K.1
  unfold w_X16_growMatch_163 at h
  refine lv_lload_n B.1 B.2.1 dX16_growMatch_163 rfl (lv_at hl 2 rfl) ?_
  refine lv_lconst (v := 1) B.1 B.2.1 dX16_growMatch_164 (by decide) ?_
  refine lv_ladd B.1 B.2.1 dX16_growMatch_165 ?_
  refine lv_aload_n B.1 B.2.1 dX16_growMatch_166 rfl (lv_at hl 0 rfl) ?_
  refine r_arr B hH hS 71 (kd := 101) (n := 4000) (by decide) (by decide) wf_X16_522 rfl rfl dX16_growMatch_167 ?_
  refine lv_iload B.1 B.2.1 dX16_growMatch_170 (lv_at hl 3 rfl) ?_
  obtain ⟨q1, h⟩ := h
  refine x_lald B K.2.1 hH (hS.ar (k := 71) (kd := 101) (n := 4000) (by decide)) (by decide) q1 dX16_growMatch_172 ?_
  refine lv_lsub B.1 B.2.1 dX16_growMatch_173 ?_
  refine lv_aload_n B.1 B.2.1 dX16_growMatch_174 rfl (lv_at hl 0 rfl) ?_
  refine r_getp B hH hS 17 (by decide) wf_X16_356 rfl rfl dX16_growMatch_175 ?_
  obtain ⟨a24, ea24, ja24, h⟩ := h
  refine W.eq (g2 := F0 m 178 ls [.ref a24, .long ((v3 + 1) - (gJ σ (ra 71) v6.toNat))]) (by rw [ea24]; rfl) ?_
  refine n_arr B hH hS ja24 8 (kd := 101) (n := 16) (by decide) (by decide) (List.mem_of_getElem? (i := 8) rfl) rfl dX16_growMatch_178 ?_
  refine lv_iload_n B.1 B.2.1 dX16_growMatch_181 rfl (lv_at hl 1 rfl) ?_
  obtain ⟨q3, h⟩ := h
  refine x_lald B K.2.1 hH (hS.ja ja24 (k := 8) (kd := 101) (n := 16) (by decide)) (by decide) q3 dX16_growMatch_182 ?_
  refine W.lcmp B.1 B.2.1 dX16_growMatch_183 ?_
  refine lv_if_le (tgt := 193) B.1 B.2.1 dX16_growMatch_184 (by decide) (fun h9 => ?_) (fun h9 => ?_)
  · rw [if_pos ((lg_cmp_le _ _).mp h9)] at h
    exact a_X16_growMatch_193 K hQ hX hK137 _ _ _ _ g2 g7 h hGσ hS _ _ _ hH (lv_sub (l' := [(0, .ref rm), (2, .int (i32 v2)), (3, .long v3), (7, .int (i32 v7))]) hl [0, 1, 2, 4] rfl) hc
  · rw [if_neg (fun q => h9 ((lg_cmp_le _ _).mpr q))] at h
    exact a_X16_growMatch_187 K hQ hX hK137 _ _ _ _ _ g2 g6 g7 h hGσ hS _ _ _ hH (lv_sub (l' := [(0, .ref rm), (2, .int (i32 v2)), (3, .long v3), (6, .int (i32 v6)), (7, .int (i32 v7))]) hl [0, 1, 2, 3, 4] rfl) hc
set_option maxRecDepth 20000 in
theorem a_X16_growMatch_143 {Q : Sg → Unit → Prop} {X : Sg → String → Prop} (K : MC R p s m args c cX16_growMatch 13 RX16 D cA tys A n0 s0 4 109 []) (hQ : HQV p l e R s m args below meth c cX16_growMatch D cA A n0 s0 QM dm ra jx rm Q) (hX : HX p l e R s m args below meth c 13 D cA A n0 s0 QM dm ra jx rm X) {K137 : Sg → Int → Int64 → Int → Prop} (hK137 : ∀ (σ : Sg) (v2 : Int) (v3 : Int64) (v6 : Int) (g2 : rng v2) (g6 : rng v6), K137 σ v2 v3 v6 → RG σ → Shp dm ra jx rm σ → JJ p l e R s m args below meth c 13 D cA A n0 s0 QM σ 137 [(0, .ref rm), (2, .int (i32 v2)), (3, .long v3), (6, .int (i32 v6))] []) : ∀ (σ : Sg) (v2 : Int) (v3 : Int64) (v6 : Int) (g2 : rng v2) (g6 : rng v6), w_X16_growMatch_143 ra jx rm K137 Q X σ v2 v3 v6 → RG σ → Shp dm ra jx rm σ → JJ p l e R s m args below meth c 13 D cA A n0 s0 QM σ 143 [(0, .ref rm), (2, .int (i32 v2)), (3, .long v3), (6, .int (i32 v6))] [] := by
  intro σ v2 v3 v6 g2 g6 h hGσ hS H locs ls hH hl hc
  have B := K.1
  unfold w_X16_growMatch_143 at h
  refine lv_aload_n B.1 B.2.1 dX16_growMatch_143 rfl (lv_at hl 0 rfl) ?_
  refine r_arr B hH hS 75 (kd := 100) (n := 4000) (by decide) (by decide) wf_X16_495 rfl rfl dX16_growMatch_144 ?_
  refine lv_iload B.1 B.2.1 dX16_growMatch_147 (lv_at hl 3 rfl) ?_
  obtain ⟨q1, h⟩ := h
  refine x_iald B K.2.1 hH (hS.ar (k := 75) (kd := 100) (n := 4000) (by decide)) (by decide) q1 dX16_growMatch_149 ?_
  refine lv_istore (lv' := [(7, .int (i32 (gI σ (ra 75) v6.toNat))), (0, .ref rm), (2, .int (i32 v2)), (3, .long v3), (6, .int (i32 v6))]) B.1 B.2.1 dX16_growMatch_150 hl (by decide) rfl (fun ls hl => ?_)
  refine lv_aload_n B.1 B.2.1 dX16_growMatch_152 rfl (lv_at hl 1 rfl) ?_
  refine r_arr B hH hS 68 (kd := 100) (n := 4000) (by decide) (by decide) wf_X16_513 rfl rfl dX16_growMatch_153 ?_
  refine lv_iload B.1 B.2.1 dX16_growMatch_156 (lv_at hl 4 rfl) ?_
  obtain ⟨q2, h⟩ := h
  refine x_iald B K.2.1 hH (hS.ar (k := 68) (kd := 100) (n := 4000) (by decide)) (by decide) q2 dX16_growMatch_158 ?_
  refine lv_iconst (v := i32 2) B.1 B.2.1 dX16_growMatch_159 (by decide) ?_
  refine lv_icmp_ne (tgt := 193) B.1 B.2.1 dX16_growMatch_160 (by decide) (fun h9 => ?_) (fun h9 => ?_)
  · rw [if_pos (fun q => h9 ((i32_eq (hGσ _ _) (by unfold rng; omega)).mpr q))] at h
    exact a_X16_growMatch_193 K hQ hX hK137 _ _ _ _ g2 (hGσ _ _) h hGσ hS _ _ _ hH (lv_sub (l' := [(0, .ref rm), (2, .int (i32 v2)), (3, .long v3), (7, .int (i32 (gI σ (ra 75) v6.toNat)))]) hl [1, 2, 3, 0] rfl) hc
  · rw [if_neg (fun q => q ((i32_eq (hGσ _ _) (by unfold rng; omega)).mp h9))] at h
    exact a_X16_growMatch_163 K hQ hX hK137 _ _ _ _ _ g2 g6 (hGσ _ _) h hGσ hS _ _ _ hH (lv_sub (l' := [(0, .ref rm), (2, .int (i32 v2)), (3, .long v3), (6, .int (i32 v6)), (7, .int (i32 (gI σ (ra 75) v6.toNat)))]) hl [1, 2, 3, 4, 0] rfl) hc
set_option maxRecDepth 20000 in
theorem a_X16_growMatch_137 {Q : Sg → Unit → Prop} {X : Sg → String → Prop} (K : MC R p s m args c cX16_growMatch 13 RX16 D cA tys A n0 s0 4 109 []) (hQ : HQV p l e R s m args below meth c cX16_growMatch D cA A n0 s0 QM dm ra jx rm Q) (hX : HX p l e R s m args below meth c 13 D cA A n0 s0 QM dm ra jx rm X) {K137 : Sg → Int → Int64 → Int → Prop} (hK137 : ∀ (σ : Sg) (v2 : Int) (v3 : Int64) (v6 : Int) (g2 : rng v2) (g6 : rng v6), K137 σ v2 v3 v6 → RG σ → Shp dm ra jx rm σ → JJ p l e R s m args below meth c 13 D cA A n0 s0 QM σ 137 [(0, .ref rm), (2, .int (i32 v2)), (3, .long v3), (6, .int (i32 v6))] []) : ∀ (σ : Sg) (v2 : Int) (v3 : Int64) (v6 : Int) (g2 : rng v2) (g6 : rng v6), w_X16_growMatch_137 ra jx rm K137 Q X σ v2 v3 v6 → RG σ → Shp dm ra jx rm σ → JJ p l e R s m args below meth c 13 D cA A n0 s0 QM σ 137 [(0, .ref rm), (2, .int (i32 v2)), (3, .long v3), (6, .int (i32 v6))] [] := by
  intro σ v2 v3 v6 g2 g6 h hGσ hS H locs ls hH hl hc
  have B := K.1
  unfold w_X16_growMatch_137 at h
  refine lv_iload B.1 B.2.1 dX16_growMatch_137 (lv_at hl 3 rfl) ?_
  refine lv_iconst (v := i32 (-1)) B.1 B.2.1 dX16_growMatch_139 (by decide) ?_
  refine lv_icmp_eq (tgt := 200) B.1 B.2.1 dX16_growMatch_140 (by decide) (fun h9 => ?_) (fun h9 => ?_)
  · rw [if_pos ((i32_eq g6 (by unfold rng; omega)).mp h9)] at h
    exact a_X16_growMatch_200 K hQ hX _ h hGσ hS _ _ _ hH (lv_sub (l' := [(0, .ref rm)]) hl [0] rfl) hc
  · rw [if_neg (fun q => h9 ((i32_eq g6 (by unfold rng; omega)).mpr q))] at h
    exact a_X16_growMatch_143 K hQ hX hK137 _ _ _ _ g2 g6 h hGσ hS _ _ _ hH (lv_sub (l' := [(0, .ref rm), (2, .int (i32 v2)), (3, .long v3), (6, .int (i32 v6))]) hl [0, 1, 2, 3] rfl) hc
theorem al_X16_growMatch_137 {Q : Sg → Unit → Prop} {X : Sg → String → Prop} (K : MC R p s m args c cX16_growMatch 13 RX16 D cA tys A n0 s0 4 109 []) (hQ : HQV p l e R s m args below meth c cX16_growMatch D cA A n0 s0 QM dm ra jx rm Q) (hX : HX p l e R s m args below meth c 13 D cA A n0 s0 QM dm ra jx rm X) : ∀ (n : Nat), ∀ (σ : Sg) (v2 : Int) (v3 : Int64) (v6 : Int) (g2 : rng v2) (g6 : rng v6), wl_X16_growMatch_137 ra jx rm Q X n σ v2 v3 v6 → RG σ → Shp dm ra jx rm σ → JJ p l e R s m args below meth c 13 D cA A n0 s0 QM σ 137 [(0, .ref rm), (2, .int (i32 v2)), (3, .long v3), (6, .int (i32 v6))] [] := by
  intro n
  induction n with
  | zero => intro σ v2 v3 v6 g2 g6 h; exact h.elim
  | succ n ih => exact fun σ v2 v3 v6 g2 g6 h => a_X16_growMatch_137 K hQ hX ih σ v2 v3 v6 g2 g6 h
set_option maxRecDepth 20000 in
theorem a_X16_growMatch_129 {Q : Sg → Unit → Prop} {X : Sg → String → Prop} (K : MC R p s m args c cX16_growMatch 13 RX16 D cA tys A n0 s0 4 109 []) (hQ : HQV p l e R s m args below meth c cX16_growMatch D cA A n0 s0 QM dm ra jx rm Q) (hX : HX p l e R s m args below meth c 13 D cA A n0 s0 QM dm ra jx rm X) : ∀ (σ : Sg) (v1 : Int) (v2 : Int) (v3 : Int64) (g1 : rng v1) (g2 : rng v2), w_X16_growMatch_129 ra jx rm Q X σ v1 v2 v3 → RG σ → Shp dm ra jx rm σ → JJ p l e R s m args below meth c 13 D cA A n0 s0 QM σ 129 [(0, .ref rm), (1, .int (i32 v1)), (2, .int (i32 v2)), (3, .long v3)] [] := by
  intro σ v1 v2 v3 g1 g2 h hGσ hS H locs ls hH hl hc
  have B := K.1
  unfold w_X16_growMatch_129 at h
  refine lv_aload_n B.1 B.2.1 dX16_growMatch_129 rfl (lv_at hl 0 rfl) ?_
  refine r_arr B hH hS 76 (kd := 100) (n := 64) (by decide) (by decide) wf_X16_504 rfl rfl dX16_growMatch_130 ?_
  refine lv_iload_n B.1 B.2.1 dX16_growMatch_133 rfl (lv_at hl 1 rfl) ?_
  obtain ⟨q1, h⟩ := h
  refine x_iald B K.2.1 hH (hS.ar (k := 76) (kd := 100) (n := 64) (by decide)) (by decide) q1 dX16_growMatch_134 ?_
  refine lv_istore (lv' := [(6, .int (i32 (gI σ (ra 76) v1.toNat))), (0, .ref rm), (1, .int (i32 v1)), (2, .int (i32 v2)), (3, .long v3)]) B.1 B.2.1 dX16_growMatch_135 hl (by decide) rfl (fun ls hl => ?_)
  obtain ⟨n9, h⟩ := h
  exact al_X16_growMatch_137 K hQ hX n9 _ _ _ _ g2 (hGσ _ _) h hGσ hS _ _ _ hH (lv_sub (l' := [(0, .ref rm), (2, .int (i32 v2)), (3, .long v3), (6, .int (i32 (gI σ (ra 76) v1.toNat)))]) hl [1, 3, 4, 0] rfl) hc
set_option maxRecDepth 20000 in
theorem a_X16_growMatch_98 {Q : Sg → Unit → Prop} {X : Sg → String → Prop} (K : MC R p s m args c cX16_growMatch 13 RX16 D cA tys A n0 s0 4 109 []) (hQ : HQV p l e R s m args below meth c cX16_growMatch D cA A n0 s0 QM dm ra jx rm Q) (hX : HX p l e R s m args below meth c 13 D cA A n0 s0 QM dm ra jx rm X) {K29 : Sg → Int → Int → Int64 → Int → Int → Prop} (hK29 : ∀ (σ : Sg) (v1 : Int) (v2 : Int) (v3 : Int64) (v5 : Int) (v6 : Int) (g1 : rng v1) (g2 : rng v2) (g5 : rng v5) (g6 : rng v6), K29 σ v1 v2 v3 v5 v6 → RG σ → Shp dm ra jx rm σ → JJ p l e R s m args below meth c 13 D cA A n0 s0 QM σ 29 [(0, .ref rm), (1, .int (i32 v1)), (2, .int (i32 v2)), (3, .long v3), (5, .int (i32 v5)), (6, .int (i32 v6))] []) : ∀ (σ : Sg) (v1 : Int) (v2 : Int) (v3 : Int64) (v5 : Int) (v6 : Int) (v7 : Int64) (v9 : Int64) (v11 : Int) (g1 : rng v1) (g2 : rng v2) (g5 : rng v5) (g6 : rng v6) (g11 : rng v11), w_X16_growMatch_98 ra jx rm K29 Q X σ v1 v2 v3 v5 v6 v7 v9 v11 → RG σ → Shp dm ra jx rm σ → JJ p l e R s m args below meth c 13 D cA A n0 s0 QM σ 98 [(0, .ref rm), (1, .int (i32 v1)), (2, .int (i32 v2)), (3, .long v3), (5, .int (i32 v5)), (6, .int (i32 v6)), (7, .long v7), (9, .long v9), (11, .int (i32 v11))] [] := by
  intro σ v1 v2 v3 v5 v6 v7 v9 v11 g1 g2 g5 g6 g11 h hGσ hS H locs ls hH hl hc
  have B := K.1
  unfold w_X16_growMatch_98 at h
  refine lv_aload_n B.1 B.2.1 dX16_growMatch_98 rfl (lv_at hl 0 rfl) ?_
  refine lv_iload B.1 B.2.1 dX16_growMatch_99 (lv_at hl 5 rfl) ?_
  refine c_V B hH hl hc K.2.2.1 (C := RX16) (T := TX16) (N := 123) (ci := 16) (As := [.int (i32 v6)]) (ok_X16_drop K.2.1 σ v6 g6 hGσ hS h) wc_X16_607 1 hd_X16_drop ⟨Nat.le_trans (Nat.le_of_ble_eq_true rfl) K.2.2.2.1, Nat.le_trans (Nat.le_of_ble_eq_true rfl) K.2.2.2.2.1⟩ hS.1.1 hS.1.2 (by decide) rfl rfl (rest := []) rfl (Nat.le_of_ble_eq_true rfl) dX16_growMatch_101 (fun σ25 w hq => ?_) (fun σ9 E9 hx9 => hX σ9 E9 _ _ _ (tb_out K.2.2.2.2.2 rfl) hx9.1 hx9.2.1 hx9.2.2)
  obtain ⟨rfl, h, hGσ25, hS⟩ := hq
  intro H locs ls hH hl hc
  refine W.eq (g2 := F0 m 104 ls []) (rfl) ?_
  try dsimp only at h
  refine lv_aload_n B.1 B.2.1 dX16_growMatch_104 rfl (lv_at hl 0 rfl) ?_
  refine lv_iload_n B.1 B.2.1 dX16_growMatch_105 rfl (lv_at hl 1 rfl) ?_
  refine lv_iload_n B.1 B.2.1 dX16_growMatch_106 rfl (lv_at hl 2 rfl) ?_
  refine lv_lload B.1 B.2.1 dX16_growMatch_107 (lv_at hl 6 rfl) ?_
  refine lv_lload B.1 B.2.1 dX16_growMatch_109 (lv_at hl 7 rfl) ?_
  refine lv_iload B.1 B.2.1 dX16_growMatch_111 (lv_at hl 8 rfl) ?_
  refine c_V B hH hl hc K.2.2.1 (C := RX16) (T := TX16) (N := 123) (ci := 16) (As := [.int (i32 v1), .int (i32 v2), .long v7, .long v9, .int (i32 v11)]) (ok_X16_matchRow K.2.1 σ25 v1 v2 v7 v9 v11 g1 g2 g11 hGσ25 hS h) wc_X16_644 5 hd_X16_matchRow ⟨Nat.le_trans (Nat.le_of_ble_eq_true rfl) K.2.2.2.1, Nat.le_trans (Nat.le_of_ble_eq_true rfl) K.2.2.2.2.1⟩ hS.1.1 hS.1.2 (by decide) rfl rfl (rest := []) rfl (Nat.le_of_ble_eq_true rfl) dX16_growMatch_113 (fun σ26 w hq => ?_) (fun σ9 E9 hx9 => hX σ9 E9 _ _ _ (tb_out K.2.2.2.2.2 rfl) hx9.1 hx9.2.1 hx9.2.2)
  obtain ⟨rfl, h, hGσ26, hS⟩ := hq
  intro H locs ls hH hl hc
  refine W.eq (g2 := F0 m 116 ls []) (rfl) ?_
  try dsimp only at h
  refine lv_aload_n B.1 B.2.1 dX16_growMatch_116 rfl (lv_at hl 0 rfl) ?_
  refine lv_iload_n B.1 B.2.1 dX16_growMatch_117 rfl (lv_at hl 1 rfl) ?_
  refine lv_iload B.1 B.2.1 dX16_growMatch_118 (lv_at hl 4 rfl) ?_
  refine lv_lload_n B.1 B.2.1 dX16_growMatch_120 rfl (lv_at hl 3 rfl) ?_
  refine c_V B hH hl hc K.2.2.1 (C := RX16) (T := TX16) (N := 123) (ci := 16) (As := [.int (i32 v1), .int (i32 v5), .long v3]) (ok_X16_leastWaiting K.2.1 σ26 v1 v5 v3 g1 g5 hGσ26 hS h) wc_X16_636 3 hd_X16_leastWaiting ⟨Nat.le_trans (Nat.le_of_ble_eq_true rfl) K.2.2.2.1, Nat.le_trans (Nat.le_of_ble_eq_true rfl) K.2.2.2.2.1⟩ hS.1.1 hS.1.2 (by decide) rfl rfl (rest := []) rfl (Nat.le_of_ble_eq_true rfl) dX16_growMatch_121 (fun σ27 w hq => ?_) (fun σ9 E9 hx9 => hX σ9 E9 _ _ _ (tb_out K.2.2.2.2.2 rfl) hx9.1 hx9.2.1 hx9.2.2)
  obtain ⟨r28, rfl, gr28, h, hGσ27, hS⟩ := hq
  intro H locs ls hH hl hc
  refine W.eq (g2 := F0 m 124 ls [.int (i32 r28)]) (rfl) ?_
  try dsimp only at h
  refine lv_istore (lv' := [(6, .int (i32 r28)), (0, .ref rm), (1, .int (i32 v1)), (2, .int (i32 v2)), (3, .long v3), (5, .int (i32 v5)), (7, .long v7), (9, .long v9), (11, .int (i32 v11))]) B.1 B.2.1 dX16_growMatch_124 hl (by decide) rfl (fun ls hl => ?_)
  refine lv_goto (tgt := 29) B.1 B.2.1 dX16_growMatch_126 (by decide) ?_
  exact hK29 _ _ _ _ _ _ g1 g2 g5 gr28 h hGσ27 hS _ _ _ hH (lv_sub (l' := [(0, .ref rm), (1, .int (i32 v1)), (2, .int (i32 v2)), (3, .long v3), (5, .int (i32 v5)), (6, .int (i32 r28))]) hl [1, 2, 3, 4, 5, 0] rfl) hc
set_option maxRecDepth 20000 in
theorem a_X16_growMatch_72 {Q : Sg → Unit → Prop} {X : Sg → String → Prop} (K : MC R p s m args c cX16_growMatch 13 RX16 D cA tys A n0 s0 4 109 []) (hQ : HQV p l e R s m args below meth c cX16_growMatch D cA A n0 s0 QM dm ra jx rm Q) (hX : HX p l e R s m args below meth c 13 D cA A n0 s0 QM dm ra jx rm X) {K29 : Sg → Int → Int → Int64 → Int → Int → Prop} (hK29 : ∀ (σ : Sg) (v1 : Int) (v2 : Int) (v3 : Int64) (v5 : Int) (v6 : Int) (g1 : rng v1) (g2 : rng v2) (g5 : rng v5) (g6 : rng v6), K29 σ v1 v2 v3 v5 v6 → RG σ → Shp dm ra jx rm σ → JJ p l e R s m args below meth c 13 D cA A n0 s0 QM σ 29 [(0, .ref rm), (1, .int (i32 v1)), (2, .int (i32 v2)), (3, .long v3), (5, .int (i32 v5)), (6, .int (i32 v6))] []) {K65 : Sg → Int → Int → Int64 → Int → Int → Int64 → Int64 → Int → Int → Prop} (hK65 : ∀ (σ : Sg) (v1 : Int) (v2 : Int) (v3 : Int64) (v5 : Int) (v6 : Int) (v7 : Int64) (v9 : Int64) (v11 : Int) (v12 : Int) (g1 : rng v1) (g2 : rng v2) (g5 : rng v5) (g6 : rng v6) (g11 : rng v11) (g12 : rng v12), K65 σ v1 v2 v3 v5 v6 v7 v9 v11 v12 → RG σ → Shp dm ra jx rm σ → JJ p l e R s m args below meth c 13 D cA A n0 s0 QM σ 65 [(0, .ref rm), (1, .int (i32 v1)), (2, .int (i32 v2)), (3, .long v3), (5, .int (i32 v5)), (6, .int (i32 v6)), (7, .long v7), (9, .long v9), (11, .int (i32 v11)), (12, .int (i32 v12))] []) : ∀ (σ : Sg) (v1 : Int) (v2 : Int) (v3 : Int64) (v5 : Int) (v6 : Int) (v7 : Int64) (v9 : Int64) (v11 : Int) (v12 : Int) (g1 : rng v1) (g2 : rng v2) (g5 : rng v5) (g6 : rng v6) (g11 : rng v11) (g12 : rng v12), w_X16_growMatch_72 ra jx rm K29 K65 Q X σ v1 v2 v3 v5 v6 v7 v9 v11 v12 → RG σ → Shp dm ra jx rm σ → JJ p l e R s m args below meth c 13 D cA A n0 s0 QM σ 72 [(0, .ref rm), (1, .int (i32 v1)), (2, .int (i32 v2)), (3, .long v3), (5, .int (i32 v5)), (6, .int (i32 v6)), (7, .long v7), (9, .long v9), (11, .int (i32 v11)), (12, .int (i32 v12))] [] := by
  intro σ v1 v2 v3 v5 v6 v7 v9 v11 v12 g1 g2 g5 g6 g11 g12 h hGσ hS H locs ls hH hl hc
  have B := K.1
  unfold w_X16_growMatch_72 at h
  refine lv_aload_n B.1 B.2.1 dX16_growMatch_72 rfl (lv_at hl 0 rfl) ?_
  refine r_arr B hH hS 81 (kd := 101) (n := 8) (by decide) (by decide) wf_X16_542 rfl rfl dX16_growMatch_73 ?_
  refine lv_iload B.1 B.2.1 dX16_growMatch_76 (lv_at hl 9 rfl) ?_
  refine lv_aload_n B.1 B.2.1 dX16_growMatch_78 rfl (lv_at hl 0 rfl) ?_
  refine r_arr B hH hS 73 (kd := 101) (n := 32000) (by decide) (by decide) wf_X16_528 rfl rfl dX16_growMatch_79 ?_
  refine lv_bipush (v := i32 8) B.1 B.2.1 dX16_growMatch_82 (by decide) ?_
  refine lv_iload B.1 B.2.1 dX16_growMatch_84 (lv_at hl 5 rfl) ?_
  obtain ⟨q1, h⟩ := h
  refine lv_imul B.1 B.2.1 dX16_growMatch_86 ?_
  rw [i32_mul]
  refine lv_iload B.1 B.2.1 dX16_growMatch_87 (lv_at hl 9 rfl) ?_
  obtain ⟨q2, h⟩ := h
  refine lv_iadd B.1 B.2.1 dX16_growMatch_89 ?_
  rw [i32_add]
  obtain ⟨q3, h⟩ := h
  refine x_lald B K.2.1 hH (hS.ar (k := 73) (kd := 101) (n := 32000) (by decide)) (by decide) q3 dX16_growMatch_90 ?_
  obtain ⟨q4, h⟩ := h
  obtain ⟨σ29, eσ29⟩ : ∃ z, z = pJ σ (ra 81) v12.toNat (gJ σ (ra 73) ((8 * v6) + v12).toNat) := ⟨_, rfl⟩
  have h := h σ29 eσ29
  refine x_last B K.2.1 hH (hS.ar (k := 81) (kd := 101) (n := 8) (by decide)) (by decide) q4 dX16_growMatch_91 (fun H locs hH => ?_)
  have hH : Hd D cA A s (pJ σ (ra 81) v12.toNat (gJ σ (ra 73) ((8 * v6) + v12).toNat)) H locs := hH
  rw [← eσ29] at hH
  have hGσ29 : RG σ29 := by rw [eσ29]; exact hGσ.pJ
  have hS : Shp dm ra jx rm σ29 := by rw [eσ29]; exact hS
  have hc : CB n0 s0 σ29 := by rw [eσ29]; exact hc
  rw [show gc σ = gc σ29 by rw [eσ29], show gs σ = gs σ29 by rw [eσ29]]
  obtain ⟨q6, h⟩ := h
  refine lv_iinc (k := 9) (v := i32 (v12 + 1)) (lv' := [(12, .int (i32 (v12 + 1))), (0, .ref rm), (1, .int (i32 v1)), (2, .int (i32 v2)), (3, .long v3), (5, .int (i32 v5)), (6, .int (i32 v6)), (7, .long v7), (9, .long v9), (11, .int (i32 v11))]) B.1 B.2.1 dX16_growMatch_92 hl rfl (i32_add _ _) (by decide) rfl (fun ls hl => ?_)
  refine lv_goto (tgt := 65) B.1 B.2.1 dX16_growMatch_95 (by decide) ?_
  exact hK65 _ _ _ _ _ _ _ _ _ _ g1 g2 g5 g6 g11 q6 h hGσ29 hS _ _ _ hH (lv_sub (l' := [(0, .ref rm), (1, .int (i32 v1)), (2, .int (i32 v2)), (3, .long v3), (5, .int (i32 v5)), (6, .int (i32 v6)), (7, .long v7), (9, .long v9), (11, .int (i32 v11)), (12, .int (i32 (v12 + 1)))]) hl [1, 2, 3, 4, 5, 6, 7, 8, 9, 0] rfl) hc
set_option maxRecDepth 20000 in
theorem a_X16_growMatch_65 {Q : Sg → Unit → Prop} {X : Sg → String → Prop} (K : MC R p s m args c cX16_growMatch 13 RX16 D cA tys A n0 s0 4 109 []) (hQ : HQV p l e R s m args below meth c cX16_growMatch D cA A n0 s0 QM dm ra jx rm Q) (hX : HX p l e R s m args below meth c 13 D cA A n0 s0 QM dm ra jx rm X) {K29 : Sg → Int → Int → Int64 → Int → Int → Prop} (hK29 : ∀ (σ : Sg) (v1 : Int) (v2 : Int) (v3 : Int64) (v5 : Int) (v6 : Int) (g1 : rng v1) (g2 : rng v2) (g5 : rng v5) (g6 : rng v6), K29 σ v1 v2 v3 v5 v6 → RG σ → Shp dm ra jx rm σ → JJ p l e R s m args below meth c 13 D cA A n0 s0 QM σ 29 [(0, .ref rm), (1, .int (i32 v1)), (2, .int (i32 v2)), (3, .long v3), (5, .int (i32 v5)), (6, .int (i32 v6))] []) {K65 : Sg → Int → Int → Int64 → Int → Int → Int64 → Int64 → Int → Int → Prop} (hK65 : ∀ (σ : Sg) (v1 : Int) (v2 : Int) (v3 : Int64) (v5 : Int) (v6 : Int) (v7 : Int64) (v9 : Int64) (v11 : Int) (v12 : Int) (g1 : rng v1) (g2 : rng v2) (g5 : rng v5) (g6 : rng v6) (g11 : rng v11) (g12 : rng v12), K65 σ v1 v2 v3 v5 v6 v7 v9 v11 v12 → RG σ → Shp dm ra jx rm σ → JJ p l e R s m args below meth c 13 D cA A n0 s0 QM σ 65 [(0, .ref rm), (1, .int (i32 v1)), (2, .int (i32 v2)), (3, .long v3), (5, .int (i32 v5)), (6, .int (i32 v6)), (7, .long v7), (9, .long v9), (11, .int (i32 v11)), (12, .int (i32 v12))] []) : ∀ (σ : Sg) (v1 : Int) (v2 : Int) (v3 : Int64) (v5 : Int) (v6 : Int) (v7 : Int64) (v9 : Int64) (v11 : Int) (v12 : Int) (g1 : rng v1) (g2 : rng v2) (g5 : rng v5) (g6 : rng v6) (g11 : rng v11) (g12 : rng v12), w_X16_growMatch_65 ra jx rm K29 K65 Q X σ v1 v2 v3 v5 v6 v7 v9 v11 v12 → RG σ → Shp dm ra jx rm σ → JJ p l e R s m args below meth c 13 D cA A n0 s0 QM σ 65 [(0, .ref rm), (1, .int (i32 v1)), (2, .int (i32 v2)), (3, .long v3), (5, .int (i32 v5)), (6, .int (i32 v6)), (7, .long v7), (9, .long v9), (11, .int (i32 v11)), (12, .int (i32 v12))] [] := by
  intro σ v1 v2 v3 v5 v6 v7 v9 v11 v12 g1 g2 g5 g6 g11 g12 h hGσ hS H locs ls hH hl hc
  have B := K.1
  unfold w_X16_growMatch_65 at h
  refine lv_iload B.1 B.2.1 dX16_growMatch_65 (lv_at hl 9 rfl) ?_
  refine lv_bipush (v := i32 8) B.1 B.2.1 dX16_growMatch_67 (by decide) ?_
  refine lv_icmp_ge (tgt := 98) B.1 B.2.1 dX16_growMatch_69 (by decide) (fun h9 => ?_) (fun h9 => ?_)
  · rw [if_pos ((i32_le (by unfold rng; omega) g12).mp h9)] at h
    exact a_X16_growMatch_98 K hQ hX hK29 _ _ _ _ _ _ _ _ _ g1 g2 g5 g6 g11 h hGσ hS _ _ _ hH (lv_sub (l' := [(0, .ref rm), (1, .int (i32 v1)), (2, .int (i32 v2)), (3, .long v3), (5, .int (i32 v5)), (6, .int (i32 v6)), (7, .long v7), (9, .long v9), (11, .int (i32 v11))]) hl [0, 1, 2, 3, 4, 5, 6, 7, 8] rfl) hc
  · rw [if_neg (fun q => h9 ((i32_le (by unfold rng; omega) g12).mpr q))] at h
    exact a_X16_growMatch_72 K hQ hX hK29 hK65 _ _ _ _ _ _ _ _ _ _ g1 g2 g5 g6 g11 g12 h hGσ hS _ _ _ hH (lv_sub (l' := [(0, .ref rm), (1, .int (i32 v1)), (2, .int (i32 v2)), (3, .long v3), (5, .int (i32 v5)), (6, .int (i32 v6)), (7, .long v7), (9, .long v9), (11, .int (i32 v11)), (12, .int (i32 v12))]) hl [0, 1, 2, 3, 4, 5, 6, 7, 8, 9] rfl) hc
theorem al_X16_growMatch_65 {Q : Sg → Unit → Prop} {X : Sg → String → Prop} (K : MC R p s m args c cX16_growMatch 13 RX16 D cA tys A n0 s0 4 109 []) (hQ : HQV p l e R s m args below meth c cX16_growMatch D cA A n0 s0 QM dm ra jx rm Q) (hX : HX p l e R s m args below meth c 13 D cA A n0 s0 QM dm ra jx rm X) {K29 : Sg → Int → Int → Int64 → Int → Int → Prop} (hK29 : ∀ (σ : Sg) (v1 : Int) (v2 : Int) (v3 : Int64) (v5 : Int) (v6 : Int) (g1 : rng v1) (g2 : rng v2) (g5 : rng v5) (g6 : rng v6), K29 σ v1 v2 v3 v5 v6 → RG σ → Shp dm ra jx rm σ → JJ p l e R s m args below meth c 13 D cA A n0 s0 QM σ 29 [(0, .ref rm), (1, .int (i32 v1)), (2, .int (i32 v2)), (3, .long v3), (5, .int (i32 v5)), (6, .int (i32 v6))] []) : ∀ (n : Nat), ∀ (σ : Sg) (v1 : Int) (v2 : Int) (v3 : Int64) (v5 : Int) (v6 : Int) (v7 : Int64) (v9 : Int64) (v11 : Int) (v12 : Int) (g1 : rng v1) (g2 : rng v2) (g5 : rng v5) (g6 : rng v6) (g11 : rng v11) (g12 : rng v12), wl_X16_growMatch_65 ra jx rm K29 Q X n σ v1 v2 v3 v5 v6 v7 v9 v11 v12 → RG σ → Shp dm ra jx rm σ → JJ p l e R s m args below meth c 13 D cA A n0 s0 QM σ 65 [(0, .ref rm), (1, .int (i32 v1)), (2, .int (i32 v2)), (3, .long v3), (5, .int (i32 v5)), (6, .int (i32 v6)), (7, .long v7), (9, .long v9), (11, .int (i32 v11)), (12, .int (i32 v12))] [] := by
  intro n
  induction n with
  | zero => intro σ v1 v2 v3 v5 v6 v7 v9 v11 v12 g1 g2 g5 g6 g11 g12 h; exact h.elim
  | succ n ih => exact fun σ v1 v2 v3 v5 v6 v7 v9 v11 v12 g1 g2 g5 g6 g11 g12 h => a_X16_growMatch_65 K hQ hX hK29 ih σ v1 v2 v3 v5 v6 v7 v9 v11 v12 g1 g2 g5 g6 g11 g12 h
set_option maxRecDepth 20000 in
theorem a_X16_growMatch_35 {Q : Sg → Unit → Prop} {X : Sg → String → Prop} (K : MC R p s m args c cX16_growMatch 13 RX16 D cA tys A n0 s0 4 109 []) (hQ : HQV p l e R s m args below meth c cX16_growMatch D cA A n0 s0 QM dm ra jx rm Q) (hX : HX p l e R s m args below meth c 13 D cA A n0 s0 QM dm ra jx rm X) {K29 : Sg → Int → Int → Int64 → Int → Int → Prop} (hK29 : ∀ (σ : Sg) (v1 : Int) (v2 : Int) (v3 : Int64) (v5 : Int) (v6 : Int) (g1 : rng v1) (g2 : rng v2) (g5 : rng v5) (g6 : rng v6), K29 σ v1 v2 v3 v5 v6 → RG σ → Shp dm ra jx rm σ → JJ p l e R s m args below meth c 13 D cA A n0 s0 QM σ 29 [(0, .ref rm), (1, .int (i32 v1)), (2, .int (i32 v2)), (3, .long v3), (5, .int (i32 v5)), (6, .int (i32 v6))] []) : ∀ (σ : Sg) (v1 : Int) (v2 : Int) (v3 : Int64) (v5 : Int) (v6 : Int) (g1 : rng v1) (g2 : rng v2) (g5 : rng v5) (g6 : rng v6), w_X16_growMatch_35 ra jx rm K29 Q X σ v1 v2 v3 v5 v6 → RG σ → Shp dm ra jx rm σ → JJ p l e R s m args below meth c 13 D cA A n0 s0 QM σ 35 [(0, .ref rm), (1, .int (i32 v1)), (2, .int (i32 v2)), (3, .long v3), (5, .int (i32 v5)), (6, .int (i32 v6))] [] := by
  intro σ v1 v2 v3 v5 v6 g1 g2 g5 g6 h hGσ hS H locs ls hH hl hc
  have B := K.1
  unfold w_X16_growMatch_35 at h
  refine lv_aload_n B.1 B.2.1 dX16_growMatch_35 rfl (lv_at hl 0 rfl) ?_
  refine r_arr B hH hS 70 (kd := 101) (n := 4000) (by decide) (by decide) wf_X16_519 rfl rfl dX16_growMatch_36 ?_
  refine lv_iload B.1 B.2.1 dX16_growMatch_39 (lv_at hl 5 rfl) ?_
  obtain ⟨q1, h⟩ := h
  refine x_lald B K.2.1 hH (hS.ar (k := 70) (kd := 101) (n := 4000) (by decide)) (by decide) q1 dX16_growMatch_41 ?_
  refine lv_lstore (lv' := [(7, .long (gJ σ (ra 70) v6.toNat)), (0, .ref rm), (1, .int (i32 v1)), (2, .int (i32 v2)), (3, .long v3), (5, .int (i32 v5)), (6, .int (i32 v6))]) B.1 B.2.1 dX16_growMatch_42 hl (by decide) rfl (fun ls hl => ?_)
  refine lv_aload_n B.1 B.2.1 dX16_growMatch_44 rfl (lv_at hl 1 rfl) ?_
  refine r_arr B hH hS 71 (kd := 101) (n := 4000) (by decide) (by decide) wf_X16_522 rfl rfl dX16_growMatch_45 ?_
  refine lv_iload B.1 B.2.1 dX16_growMatch_48 (lv_at hl 6 rfl) ?_
  obtain ⟨q2, h⟩ := h
  refine x_lald B K.2.1 hH (hS.ar (k := 71) (kd := 101) (n := 4000) (by decide)) (by decide) q2 dX16_growMatch_50 ?_
  refine lv_lstore (lv' := [(9, .long (gJ σ (ra 71) v6.toNat)), (7, .long (gJ σ (ra 70) v6.toNat)), (0, .ref rm), (1, .int (i32 v1)), (2, .int (i32 v2)), (3, .long v3), (5, .int (i32 v5)), (6, .int (i32 v6))]) B.1 B.2.1 dX16_growMatch_51 hl (by decide) rfl (fun ls hl => ?_)
  refine lv_aload_n B.1 B.2.1 dX16_growMatch_53 rfl (lv_at hl 2 rfl) ?_
  refine r_arr B hH hS 74 (kd := 100) (n := 4000) (by decide) (by decide) wf_X16_531 rfl rfl dX16_growMatch_54 ?_
  refine lv_iload B.1 B.2.1 dX16_growMatch_57 (lv_at hl 7 rfl) ?_
  obtain ⟨q3, h⟩ := h
  refine x_iald B K.2.1 hH (hS.ar (k := 74) (kd := 100) (n := 4000) (by decide)) (by decide) q3 dX16_growMatch_59 ?_
  refine lv_istore (lv' := [(11, .int (i32 (gI σ (ra 74) v6.toNat))), (9, .long (gJ σ (ra 71) v6.toNat)), (7, .long (gJ σ (ra 70) v6.toNat)), (0, .ref rm), (1, .int (i32 v1)), (2, .int (i32 v2)), (3, .long v3), (5, .int (i32 v5)), (6, .int (i32 v6))]) B.1 B.2.1 dX16_growMatch_60 hl (by decide) rfl (fun ls hl => ?_)
  refine lv_iconst (v := i32 0) B.1 B.2.1 dX16_growMatch_62 (by decide) ?_
  refine lv_istore (lv' := [(12, .int (i32 0)), (11, .int (i32 (gI σ (ra 74) v6.toNat))), (9, .long (gJ σ (ra 71) v6.toNat)), (7, .long (gJ σ (ra 70) v6.toNat)), (0, .ref rm), (1, .int (i32 v1)), (2, .int (i32 v2)), (3, .long v3), (5, .int (i32 v5)), (6, .int (i32 v6))]) B.1 B.2.1 dX16_growMatch_63 hl (by decide) rfl (fun ls hl => ?_)
  obtain ⟨n9, h⟩ := h
  exact al_X16_growMatch_65 K hQ hX hK29 n9 _ _ _ _ _ _ _ _ _ _ g1 g2 g5 g6 (hGσ _ _) (by unfold rng; omega) h hGσ hS _ _ _ hH (lv_sub (l' := [(0, .ref rm), (1, .int (i32 v1)), (2, .int (i32 v2)), (3, .long v3), (5, .int (i32 v5)), (6, .int (i32 v6)), (7, .long (gJ σ (ra 70) v6.toNat)), (9, .long (gJ σ (ra 71) v6.toNat)), (11, .int (i32 (gI σ (ra 74) v6.toNat))), (12, .int (i32 0))]) hl [4, 5, 6, 7, 8, 9, 3, 2, 1, 0] rfl) hc
set_option maxRecDepth 20000 in
theorem a_X16_growMatch_29 {Q : Sg → Unit → Prop} {X : Sg → String → Prop} (K : MC R p s m args c cX16_growMatch 13 RX16 D cA tys A n0 s0 4 109 []) (hQ : HQV p l e R s m args below meth c cX16_growMatch D cA A n0 s0 QM dm ra jx rm Q) (hX : HX p l e R s m args below meth c 13 D cA A n0 s0 QM dm ra jx rm X) {K29 : Sg → Int → Int → Int64 → Int → Int → Prop} (hK29 : ∀ (σ : Sg) (v1 : Int) (v2 : Int) (v3 : Int64) (v5 : Int) (v6 : Int) (g1 : rng v1) (g2 : rng v2) (g5 : rng v5) (g6 : rng v6), K29 σ v1 v2 v3 v5 v6 → RG σ → Shp dm ra jx rm σ → JJ p l e R s m args below meth c 13 D cA A n0 s0 QM σ 29 [(0, .ref rm), (1, .int (i32 v1)), (2, .int (i32 v2)), (3, .long v3), (5, .int (i32 v5)), (6, .int (i32 v6))] []) : ∀ (σ : Sg) (v1 : Int) (v2 : Int) (v3 : Int64) (v5 : Int) (v6 : Int) (g1 : rng v1) (g2 : rng v2) (g5 : rng v5) (g6 : rng v6), w_X16_growMatch_29 ra jx rm K29 Q X σ v1 v2 v3 v5 v6 → RG σ → Shp dm ra jx rm σ → JJ p l e R s m args below meth c 13 D cA A n0 s0 QM σ 29 [(0, .ref rm), (1, .int (i32 v1)), (2, .int (i32 v2)), (3, .long v3), (5, .int (i32 v5)), (6, .int (i32 v6))] [] := by
  intro σ v1 v2 v3 v5 v6 g1 g2 g5 g6 h hGσ hS H locs ls hH hl hc
  have B := K.1
  unfold w_X16_growMatch_29 at h
  refine lv_iload B.1 B.2.1 dX16_growMatch_29 (lv_at hl 5 rfl) ?_
  refine lv_iconst (v := i32 (-1)) B.1 B.2.1 dX16_growMatch_31 (by decide) ?_
  refine lv_icmp_eq (tgt := 129) B.1 B.2.1 dX16_growMatch_32 (by decide) (fun h9 => ?_) (fun h9 => ?_)
  · rw [if_pos ((i32_eq g6 (by unfold rng; omega)).mp h9)] at h
    exact a_X16_growMatch_129 K hQ hX _ _ _ _ g1 g2 h hGσ hS _ _ _ hH (lv_sub (l' := [(0, .ref rm), (1, .int (i32 v1)), (2, .int (i32 v2)), (3, .long v3)]) hl [0, 1, 2, 3] rfl) hc
  · rw [if_neg (fun q => h9 ((i32_eq g6 (by unfold rng; omega)).mpr q))] at h
    exact a_X16_growMatch_35 K hQ hX hK29 _ _ _ _ _ _ g1 g2 g5 g6 h hGσ hS _ _ _ hH (lv_sub (l' := [(0, .ref rm), (1, .int (i32 v1)), (2, .int (i32 v2)), (3, .long v3), (5, .int (i32 v5)), (6, .int (i32 v6))]) hl [0, 1, 2, 3, 4, 5] rfl) hc
theorem al_X16_growMatch_29 {Q : Sg → Unit → Prop} {X : Sg → String → Prop} (K : MC R p s m args c cX16_growMatch 13 RX16 D cA tys A n0 s0 4 109 []) (hQ : HQV p l e R s m args below meth c cX16_growMatch D cA A n0 s0 QM dm ra jx rm Q) (hX : HX p l e R s m args below meth c 13 D cA A n0 s0 QM dm ra jx rm X) : ∀ (n : Nat), ∀ (σ : Sg) (v1 : Int) (v2 : Int) (v3 : Int64) (v5 : Int) (v6 : Int) (g1 : rng v1) (g2 : rng v2) (g5 : rng v5) (g6 : rng v6), wl_X16_growMatch_29 ra jx rm Q X n σ v1 v2 v3 v5 v6 → RG σ → Shp dm ra jx rm σ → JJ p l e R s m args below meth c 13 D cA A n0 s0 QM σ 29 [(0, .ref rm), (1, .int (i32 v1)), (2, .int (i32 v2)), (3, .long v3), (5, .int (i32 v5)), (6, .int (i32 v6))] [] := by
  intro n
  induction n with
  | zero => intro σ v1 v2 v3 v5 v6 g1 g2 g5 g6 h; exact h.elim
  | succ n ih => exact fun σ v1 v2 v3 v5 v6 g1 g2 g5 g6 h => a_X16_growMatch_29 K hQ hX ih σ v1 v2 v3 v5 v6 g1 g2 g5 g6 h
set_option maxRecDepth 20000 in
theorem a_X16_growMatch_0 {Q : Sg → Unit → Prop} {X : Sg → String → Prop} (K : MC R p s m args c cX16_growMatch 13 RX16 D cA tys A n0 s0 4 109 []) (hQ : HQV p l e R s m args below meth c cX16_growMatch D cA A n0 s0 QM dm ra jx rm Q) (hX : HX p l e R s m args below meth c 13 D cA A n0 s0 QM dm ra jx rm X) : ∀ (σ : Sg) (v1 : Int) (v2 : Int) (v3 : Int64) (g1 : rng v1) (g2 : rng v2), w_X16_growMatch_0 ra jx rm Q X σ v1 v2 v3 → RG σ → Shp dm ra jx rm σ → JJ p l e R s m args below meth c 13 D cA A n0 s0 QM σ 0 [(0, .ref rm), (1, .int (i32 v1)), (2, .int (i32 v2)), (3, .long v3)] [] := by
  intro σ v1 v2 v3 g1 g2 h hGσ hS H locs ls hH hl hc
  have B := K.1
  unfold w_X16_growMatch_0 at h
  refine lv_aload_n B.1 B.2.1 dX16_growMatch_0 rfl (lv_at hl 0 rfl) ?_
  refine r_getp B hH hS 17 (by decide) wf_X16_356 rfl rfl dX16_growMatch_1 ?_
  obtain ⟨a30, ea30, ja30, h⟩ := h
  refine W.eq (g2 := F0 m 4 ls [.ref a30]) (by rw [ea30]; rfl) ?_
  refine n_arr B hH hS ja30 6 (kd := 100) (n := 16) (by decide) (by decide) (List.mem_of_getElem? (i := 6) rfl) rfl dX16_growMatch_4 ?_
  refine lv_aload_n B.1 B.2.1 dX16_growMatch_7 rfl (lv_at hl 0 rfl) ?_
  refine r_getp B hH hS 17 (by decide) wf_X16_356 rfl rfl dX16_growMatch_8 ?_
  obtain ⟨a31, ea31, ja31, h⟩ := h
  refine W.eq (g2 := F0 m 11 ls [.ref a31, .ref (jx a30 6)]) (by rw [ea31]; rfl) ?_
  refine n_arr B hH hS ja31 4 (kd := 100) (n := 16) (by decide) (by decide) (List.mem_of_getElem? (i := 4) rfl) rfl dX16_growMatch_11 ?_
  refine lv_iload_n B.1 B.2.1 dX16_growMatch_14 rfl (lv_at hl 2 rfl) ?_
  obtain ⟨q3, h⟩ := h
  refine x_iald B K.2.1 hH (hS.ja ja31 (k := 4) (kd := 100) (n := 16) (by decide)) (by decide) q3 dX16_growMatch_15 ?_
  obtain ⟨q4, h⟩ := h
  refine x_iald B K.2.1 hH (hS.ja ja30 (k := 6) (kd := 100) (n := 16) (by decide)) (by decide) q4 dX16_growMatch_16 ?_
  refine lv_istore (lv' := [(5, .int (i32 (gI σ (jx a30 6) (gI σ (jx a31 4) v2.toNat).toNat))), (0, .ref rm), (1, .int (i32 v1)), (2, .int (i32 v2)), (3, .long v3)]) B.1 B.2.1 dX16_growMatch_17 hl (by decide) rfl (fun ls hl => ?_)
  refine lv_aload_n B.1 B.2.1 dX16_growMatch_19 rfl (lv_at hl 1 rfl) ?_
  refine lv_iload_n B.1 B.2.1 dX16_growMatch_20 rfl (lv_at hl 2 rfl) ?_
  refine lv_iload B.1 B.2.1 dX16_growMatch_21 (lv_at hl 0 rfl) ?_
  refine lv_lload_n B.1 B.2.1 dX16_growMatch_23 rfl (lv_at hl 4 rfl) ?_
  refine c_V B hH hl hc K.2.2.1 (C := RX16) (T := TX16) (N := 123) (ci := 16) (As := [.int (i32 v1), .int (i32 (gI σ (jx a30 6) (gI σ (jx a31 4) v2.toNat).toNat)), .long v3]) (ok_X16_leastWaiting K.2.1 σ v1 (gI σ (jx a30 6) (gI σ (jx a31 4) v2.toNat).toNat) v3 g1 (hGσ _ _) hGσ hS h) wc_X16_636 3 hd_X16_leastWaiting ⟨Nat.le_trans (Nat.le_of_ble_eq_true rfl) K.2.2.2.1, Nat.le_trans (Nat.le_of_ble_eq_true rfl) K.2.2.2.2.1⟩ hS.1.1 hS.1.2 (by decide) rfl rfl (rest := []) rfl (Nat.le_of_ble_eq_true rfl) dX16_growMatch_24 (fun σ32 w hq => ?_) (fun σ9 E9 hx9 => hX σ9 E9 _ _ _ (tb_out K.2.2.2.2.2 rfl) hx9.1 hx9.2.1 hx9.2.2)
  obtain ⟨r33, rfl, gr33, h, hGσ32, hS⟩ := hq
  intro H locs ls hH hl hc
  refine W.eq (g2 := F0 m 27 ls [.int (i32 r33)]) (rfl) ?_
  try dsimp only at h
  refine lv_istore (lv' := [(6, .int (i32 r33)), (5, .int (i32 (gI σ (jx a30 6) (gI σ (jx a31 4) v2.toNat).toNat))), (0, .ref rm), (1, .int (i32 v1)), (2, .int (i32 v2)), (3, .long v3)]) B.1 B.2.1 dX16_growMatch_27 hl (by decide) rfl (fun ls hl => ?_)
  obtain ⟨n9, h⟩ := h
  exact al_X16_growMatch_29 K hQ hX n9 _ _ _ _ _ _ g1 g2 (hGσ _ _) gr33 h hGσ32 hS _ _ _ hH (lv_sub (l' := [(0, .ref rm), (1, .int (i32 v1)), (2, .int (i32 v2)), (3, .long v3), (5, .int (i32 (gI σ (jx a30 6) (gI σ (jx a31 4) v2.toNat).toNat))), (6, .int (i32 r33))]) hl [2, 3, 4, 5, 1, 0] rfl) hc
theorem ok_X16_growMatch (hT : Tys cA tys) {Q : Sg → Unit → Prop} {X : Sg → String → Prop} (σ : Sg) (v1 : Int) (v2 : Int) (v3 : Int64) (g1 : rng v1) (g2 : rng v2) (hG : RG σ) (hS : Shp dm ra jx rm σ) (h : wp_X16_growMatch ra jx rm v1 v2 v3 σ Q X) : Ok l D cA tys A yX16_growMatch (.code yX16_growMatch cX16_growMatch 13 none) 4 109 [.ref rm, .int (i32 v1), .int (i32 v2), .long v3] σ (QnV dm ra jx rm Q) (QxR dm ra jx rm X) := by
  unfold wp_X16_growMatch at h
  exact ok_V (plainFor_of_name (by decide)) (by exact Nat.le_of_ble_eq_true rfl) hT (fun p e R s m args below meth c K hQ hX H locs ls hH hl hc => a_X16_growMatch_0 K hQ hX σ v1 v2 v3 g1 g2 h hG hS H locs ls hH (lv_sub (l' := [(0, .ref rm), (1, .int (i32 v1)), (2, .int (i32 v2)), (3, .long v3)]) hl [0, 1, 2, 3] rfl) hc)
theorem dX16_growSpans_0 : decode cX16_growSpans 0 = .ok (.iconst (-1), 1) := by decide +kernel
theorem dX16_growSpans_1 : decode cX16_growSpans 1 = .ok (.istore 5, 2) := by decide +kernel
theorem dX16_growSpans_3 : decode cX16_growSpans 3 = .ok (.aload_n 0, 1) := by decide +kernel
theorem dX16_growSpans_4 : decode cX16_growSpans 4 = .ok (.getfield 504, 3) := by decide +kernel
theorem dX16_growSpans_7 : decode cX16_growSpans 7 = .ok (.iload_n 1, 1) := by decide +kernel
theorem dX16_growSpans_8 : decode cX16_growSpans 8 = .ok (.iaload, 1) := by decide +kernel
theorem dX16_growSpans_9 : decode cX16_growSpans 9 = .ok (.istore 6, 2) := by decide +kernel
theorem dX16_growSpans_11 : decode cX16_growSpans 11 = .ok (.iload 6, 2) := by decide +kernel
theorem dX16_growSpans_13 : decode cX16_growSpans 13 = .ok (.iconst (-1), 1) := by decide +kernel
theorem dX16_growSpans_14 : decode cX16_growSpans 14 = .ok (.if_icmp .eq 125, 3) := by decide +kernel
theorem dX16_growSpans_17 : decode cX16_growSpans 17 = .ok (.aload_n 0, 1) := by decide +kernel
theorem dX16_growSpans_18 : decode cX16_growSpans 18 = .ok (.getfield 522, 3) := by decide +kernel
theorem dX16_growSpans_21 : decode cX16_growSpans 21 = .ok (.iload 6, 2) := by decide +kernel
theorem dX16_growSpans_23 : decode cX16_growSpans 23 = .ok (.laload, 1) := by decide +kernel
theorem dX16_growSpans_24 : decode cX16_growSpans 24 = .ok (.aload_n 0, 1) := by decide +kernel
theorem dX16_growSpans_25 : decode cX16_growSpans 25 = .ok (.getfield 356, 3) := by decide +kernel
theorem dX16_growSpans_28 : decode cX16_growSpans 28 = .ok (.getfield 204, 3) := by decide +kernel
theorem dX16_growSpans_31 : decode cX16_growSpans 31 = .ok (.iload_n 2, 1) := by decide +kernel
theorem dX16_growSpans_32 : decode cX16_growSpans 32 = .ok (.laload, 1) := by decide +kernel
theorem dX16_growSpans_33 : decode cX16_growSpans 33 = .ok (.lmul, 1) := by decide +kernel
theorem dX16_growSpans_34 : decode cX16_growSpans 34 = .ok (.aload_n 0, 1) := by decide +kernel
theorem dX16_growSpans_35 : decode cX16_growSpans 35 = .ok (.getfield 356, 3) := by decide +kernel
theorem dX16_growSpans_38 : decode cX16_growSpans 38 = .ok (.getfield 191, 3) := by decide +kernel
theorem dX16_growSpans_41 : decode cX16_growSpans 41 = .ok (.iload_n 2, 1) := by decide +kernel
theorem dX16_growSpans_42 : decode cX16_growSpans 42 = .ok (.laload, 1) := by decide +kernel
theorem dX16_growSpans_43 : decode cX16_growSpans 43 = .ok (.ladd, 1) := by decide +kernel
theorem dX16_growSpans_44 : decode cX16_growSpans 44 = .ok (.lconst 1, 1) := by decide +kernel
theorem dX16_growSpans_45 : decode cX16_growSpans 45 = .ok (.lsub, 1) := by decide +kernel
theorem dX16_growSpans_46 : decode cX16_growSpans 46 = .ok (.lload_n 3, 1) := by decide +kernel
theorem dX16_growSpans_47 : decode cX16_growSpans 47 = .ok (.lcmp, 1) := by decide +kernel
theorem dX16_growSpans_48 : decode cX16_growSpans 48 = .ok (.ifCond .gt 7, 3) := by decide +kernel
theorem dX16_growSpans_51 : decode cX16_growSpans 51 = .ok (.iconst 1, 1) := by decide +kernel
theorem dX16_growSpans_52 : decode cX16_growSpans 52 = .ok (.goto 4, 3) := by decide +kernel
theorem dX16_growSpans_55 : decode cX16_growSpans 55 = .ok (.iconst 0, 1) := by decide +kernel
theorem dX16_growSpans_56 : decode cX16_growSpans 56 = .ok (.istore 7, 2) := by decide +kernel
theorem dX16_growSpans_58 : decode cX16_growSpans 58 = .ok (.iload 7, 2) := by decide +kernel
theorem dX16_growSpans_60 : decode cX16_growSpans 60 = .ok (.ifCond .eq 67, 3) := by decide +kernel
theorem dX16_growSpans_63 : decode cX16_growSpans 63 = .ok (.iload 5, 2) := by decide +kernel
theorem dX16_growSpans_65 : decode cX16_growSpans 65 = .ok (.iconst (-1), 1) := by decide +kernel
theorem dX16_growSpans_66 : decode cX16_growSpans 66 = .ok (.if_icmp .eq 57, 3) := by decide +kernel
theorem dX16_growSpans_69 : decode cX16_growSpans 69 = .ok (.aload_n 0, 1) := by decide +kernel
theorem dX16_growSpans_70 : decode cX16_growSpans 70 = .ok (.getfield 522, 3) := by decide +kernel
theorem dX16_growSpans_73 : decode cX16_growSpans 73 = .ok (.iload 6, 2) := by decide +kernel
theorem dX16_growSpans_75 : decode cX16_growSpans 75 = .ok (.laload, 1) := by decide +kernel
theorem dX16_growSpans_76 : decode cX16_growSpans 76 = .ok (.aload_n 0, 1) := by decide +kernel
theorem dX16_growSpans_77 : decode cX16_growSpans 77 = .ok (.getfield 522, 3) := by decide +kernel
theorem dX16_growSpans_80 : decode cX16_growSpans 80 = .ok (.iload 5, 2) := by decide +kernel
theorem dX16_growSpans_82 : decode cX16_growSpans 82 = .ok (.laload, 1) := by decide +kernel
theorem dX16_growSpans_83 : decode cX16_growSpans 83 = .ok (.lcmp, 1) := by decide +kernel
theorem dX16_growSpans_84 : decode cX16_growSpans 84 = .ok (.ifCond .lt 39, 3) := by decide +kernel
theorem dX16_growSpans_87 : decode cX16_growSpans 87 = .ok (.aload_n 0, 1) := by decide +kernel
theorem dX16_growSpans_88 : decode cX16_growSpans 88 = .ok (.getfield 522, 3) := by decide +kernel
theorem dX16_growSpans_91 : decode cX16_growSpans 91 = .ok (.iload 6, 2) := by decide +kernel
theorem dX16_growSpans_93 : decode cX16_growSpans 93 = .ok (.laload, 1) := by decide +kernel
theorem dX16_growSpans_94 : decode cX16_growSpans 94 = .ok (.aload_n 0, 1) := by decide +kernel
theorem dX16_growSpans_95 : decode cX16_growSpans 95 = .ok (.getfield 522, 3) := by decide +kernel
theorem dX16_growSpans_98 : decode cX16_growSpans 98 = .ok (.iload 5, 2) := by decide +kernel
theorem dX16_growSpans_100 : decode cX16_growSpans 100 = .ok (.laload, 1) := by decide +kernel
theorem dX16_growSpans_101 : decode cX16_growSpans 101 = .ok (.lcmp, 1) := by decide +kernel
theorem dX16_growSpans_102 : decode cX16_growSpans 102 = .ok (.ifCond .ne 25, 3) := by decide +kernel
theorem dX16_growSpans_105 : decode cX16_growSpans 105 = .ok (.aload_n 0, 1) := by decide +kernel
theorem dX16_growSpans_106 : decode cX16_growSpans 106 = .ok (.getfield 519, 3) := by decide +kernel
theorem dX16_growSpans_109 : decode cX16_growSpans 109 = .ok (.iload 6, 2) := by decide +kernel
theorem dX16_growSpans_111 : decode cX16_growSpans 111 = .ok (.laload, 1) := by decide +kernel
theorem dX16_growSpans_112 : decode cX16_growSpans 112 = .ok (.aload_n 0, 1) := by decide +kernel
theorem dX16_growSpans_113 : decode cX16_growSpans 113 = .ok (.getfield 519, 3) := by decide +kernel
theorem dX16_growSpans_116 : decode cX16_growSpans 116 = .ok (.iload 5, 2) := by decide +kernel
theorem dX16_growSpans_118 : decode cX16_growSpans 118 = .ok (.laload, 1) := by decide +kernel
theorem dX16_growSpans_119 : decode cX16_growSpans 119 = .ok (.lcmp, 1) := by decide +kernel
theorem dX16_growSpans_120 : decode cX16_growSpans 120 = .ok (.ifCond .ge 7, 3) := by decide +kernel
theorem dX16_growSpans_123 : decode cX16_growSpans 123 = .ok (.iload 6, 2) := by decide +kernel
theorem dX16_growSpans_125 : decode cX16_growSpans 125 = .ok (.istore 5, 2) := by decide +kernel
theorem dX16_growSpans_127 : decode cX16_growSpans 127 = .ok (.aload_n 0, 1) := by decide +kernel
theorem dX16_growSpans_128 : decode cX16_growSpans 128 = .ok (.getfield 495, 3) := by decide +kernel
theorem dX16_growSpans_131 : decode cX16_growSpans 131 = .ok (.iload 6, 2) := by decide +kernel
theorem dX16_growSpans_133 : decode cX16_growSpans 133 = .ok (.iaload, 1) := by decide +kernel
theorem dX16_growSpans_134 : decode cX16_growSpans 134 = .ok (.istore 6, 2) := by decide +kernel
theorem dX16_growSpans_136 : decode cX16_growSpans 136 = .ok (.goto (-125), 3) := by decide +kernel
theorem dX16_growSpans_139 : decode cX16_growSpans 139 = .ok (.iload 5, 2) := by decide +kernel
theorem dX16_growSpans_141 : decode cX16_growSpans 141 = .ok (.iconst (-1), 1) := by decide +kernel
theorem dX16_growSpans_142 : decode cX16_growSpans 142 = .ok (.if_icmp .eq 40, 3) := by decide +kernel
theorem dX16_growSpans_145 : decode cX16_growSpans 145 = .ok (.aload_n 0, 1) := by decide +kernel
theorem dX16_growSpans_146 : decode cX16_growSpans 146 = .ok (.iload_n 1, 1) := by decide +kernel
theorem dX16_growSpans_147 : decode cX16_growSpans 147 = .ok (.iload_n 2, 1) := by decide +kernel
theorem dX16_growSpans_148 : decode cX16_growSpans 148 = .ok (.iload 5, 2) := by decide +kernel
theorem dX16_growSpans_150 : decode cX16_growSpans 150 = .ok (.aload_n 0, 1) := by decide +kernel
theorem dX16_growSpans_151 : decode cX16_growSpans 151 = .ok (.getfield 522, 3) := by decide +kernel
theorem dX16_growSpans_154 : decode cX16_growSpans 154 = .ok (.iload 5, 2) := by decide +kernel
theorem dX16_growSpans_156 : decode cX16_growSpans 156 = .ok (.laload, 1) := by decide +kernel
theorem dX16_growSpans_157 : decode cX16_growSpans 157 = .ok (.aload_n 0, 1) := by decide +kernel
theorem dX16_growSpans_158 : decode cX16_growSpans 158 = .ok (.getfield 356, 3) := by decide +kernel
theorem dX16_growSpans_161 : decode cX16_growSpans 161 = .ok (.getfield 204, 3) := by decide +kernel
theorem dX16_growSpans_164 : decode cX16_growSpans 164 = .ok (.iload_n 2, 1) := by decide +kernel
theorem dX16_growSpans_165 : decode cX16_growSpans 165 = .ok (.laload, 1) := by decide +kernel
theorem dX16_growSpans_166 : decode cX16_growSpans 166 = .ok (.lmul, 1) := by decide +kernel
theorem dX16_growSpans_167 : decode cX16_growSpans 167 = .ok (.aload_n 0, 1) := by decide +kernel
theorem dX16_growSpans_168 : decode cX16_growSpans 168 = .ok (.getfield 356, 3) := by decide +kernel
theorem dX16_growSpans_171 : decode cX16_growSpans 171 = .ok (.getfield 191, 3) := by decide +kernel
theorem dX16_growSpans_174 : decode cX16_growSpans 174 = .ok (.iload_n 2, 1) := by decide +kernel
theorem dX16_growSpans_175 : decode cX16_growSpans 175 = .ok (.laload, 1) := by decide +kernel
theorem dX16_growSpans_176 : decode cX16_growSpans 176 = .ok (.ladd, 1) := by decide +kernel
theorem dX16_growSpans_177 : decode cX16_growSpans 177 = .ok (.lconst 1, 1) := by decide +kernel
theorem dX16_growSpans_178 : decode cX16_growSpans 178 = .ok (.lsub, 1) := by decide +kernel
theorem dX16_growSpans_179 : decode cX16_growSpans 179 = .ok (.invokevirtual 632, 3) := by decide +kernel
theorem dX16_growSpans_182 : decode cX16_growSpans 182 = .ok (.iload 5, 2) := by decide +kernel
theorem dX16_growSpans_184 : decode cX16_growSpans 184 = .ok (.iconst (-1), 1) := by decide +kernel
theorem dX16_growSpans_185 : decode cX16_growSpans 185 = .ok (.if_icmp .ne (-185), 3) := by decide +kernel
theorem dX16_growSpans_188 : decode cX16_growSpans 188 = .ok (.return_, 1) := by decide +kernel
set_option maxRecDepth 20000 in
theorem a_X16_growSpans_188 {Q : Sg → Unit → Prop} {X : Sg → String → Prop} (K : MC R p s m args c cX16_growSpans 8 RX16 D cA tys A n0 s0 4 105 []) (hQ : HQV p l e R s m args below meth c cX16_growSpans D cA A n0 s0 QM dm ra jx rm Q) (hX : HX p l e R s m args below meth c 8 D cA A n0 s0 QM dm ra jx rm X) : ∀ (σ : Sg), w_X16_growSpans_188 ra jx rm Q X σ → RG σ → Shp dm ra jx rm σ → JJ p l e R s m args below meth c 8 D cA A n0 s0 QM σ 188 [(0, .ref rm)] [] := by
  intro σ h hGσ hS H locs ls hH hl hc
  have B := K.1
  unfold w_X16_growSpans_188 at h
  exact hQ _ _ _ _ _ dX16_growSpans_188 hH hc h hGσ hS
set_option maxRecDepth 20000 in
theorem a_X16_growSpans_182 {Q : Sg → Unit → Prop} {X : Sg → String → Prop} (K : MC R p s m args c cX16_growSpans 8 RX16 D cA tys A n0 s0 4 105 []) (hQ : HQV p l e R s m args below meth c cX16_growSpans D cA A n0 s0 QM dm ra jx rm Q) (hX : HX p l e R s m args below meth c 8 D cA A n0 s0 QM dm ra jx rm X) {K0 : Sg → Int → Int → Int64 → Prop} (hK0 : ∀ (σ : Sg) (v1 : Int) (v2 : Int) (v3 : Int64) (g1 : rng v1) (g2 : rng v2), K0 σ v1 v2 v3 → RG σ → Shp dm ra jx rm σ → JJ p l e R s m args below meth c 8 D cA A n0 s0 QM σ 0 [(0, .ref rm), (1, .int (i32 v1)), (2, .int (i32 v2)), (3, .long v3)] []) : ∀ (σ : Sg) (v1 : Int) (v2 : Int) (v3 : Int64) (v5 : Int) (g1 : rng v1) (g2 : rng v2) (g5 : rng v5), w_X16_growSpans_182 ra jx rm K0 Q X σ v1 v2 v3 v5 → RG σ → Shp dm ra jx rm σ → JJ p l e R s m args below meth c 8 D cA A n0 s0 QM σ 182 [(0, .ref rm), (1, .int (i32 v1)), (2, .int (i32 v2)), (3, .long v3), (5, .int (i32 v5))] [] := by
  intro σ v1 v2 v3 v5 g1 g2 g5 h hGσ hS H locs ls hH hl hc
  have B := K.1
  unfold w_X16_growSpans_182 at h
  refine lv_iload B.1 B.2.1 dX16_growSpans_182 (lv_at hl 4 rfl) ?_
  refine lv_iconst (v := i32 (-1)) B.1 B.2.1 dX16_growSpans_184 (by decide) ?_
  refine lv_icmp_ne (tgt := 0) B.1 B.2.1 dX16_growSpans_185 (by decide) (fun h9 => ?_) (fun h9 => ?_)
  · rw [if_pos (fun q => h9 ((i32_eq g5 (by unfold rng; omega)).mpr q))] at h
    exact hK0 _ _ _ _ g1 g2 h hGσ hS _ _ _ hH (lv_sub (l' := [(0, .ref rm), (1, .int (i32 v1)), (2, .int (i32 v2)), (3, .long v3)]) hl [0, 1, 2, 3] rfl) hc
  · rw [if_neg (fun q => q ((i32_eq g5 (by unfold rng; omega)).mp h9))] at h
    exact a_X16_growSpans_188 K hQ hX _ h hGσ hS _ _ _ hH (lv_sub (l' := [(0, .ref rm)]) hl [0] rfl) hc
set_option maxRecDepth 20000 in
theorem a_X16_growSpans_145 {Q : Sg → Unit → Prop} {X : Sg → String → Prop} (K : MC R p s m args c cX16_growSpans 8 RX16 D cA tys A n0 s0 4 105 []) (hQ : HQV p l e R s m args below meth c cX16_growSpans D cA A n0 s0 QM dm ra jx rm Q) (hX : HX p l e R s m args below meth c 8 D cA A n0 s0 QM dm ra jx rm X) {K0 : Sg → Int → Int → Int64 → Prop} (hK0 : ∀ (σ : Sg) (v1 : Int) (v2 : Int) (v3 : Int64) (g1 : rng v1) (g2 : rng v2), K0 σ v1 v2 v3 → RG σ → Shp dm ra jx rm σ → JJ p l e R s m args below meth c 8 D cA A n0 s0 QM σ 0 [(0, .ref rm), (1, .int (i32 v1)), (2, .int (i32 v2)), (3, .long v3)] []) : ∀ (σ : Sg) (v1 : Int) (v2 : Int) (v3 : Int64) (v5 : Int) (g1 : rng v1) (g2 : rng v2) (g5 : rng v5), w_X16_growSpans_145 ra jx rm K0 Q X σ v1 v2 v3 v5 → RG σ → Shp dm ra jx rm σ → JJ p l e R s m args below meth c 8 D cA A n0 s0 QM σ 145 [(0, .ref rm), (1, .int (i32 v1)), (2, .int (i32 v2)), (3, .long v3), (5, .int (i32 v5))] [] := by
  intro σ v1 v2 v3 v5 g1 g2 g5 h hGσ hS H locs ls hH hl hc
  have B := K.1
  unfold w_X16_growSpans_145 at h
  refine lv_aload_n B.1 B.2.1 dX16_growSpans_145 rfl (lv_at hl 0 rfl) ?_
  refine lv_iload_n B.1 B.2.1 dX16_growSpans_146 rfl (lv_at hl 1 rfl) ?_
  refine lv_iload_n B.1 B.2.1 dX16_growSpans_147 rfl (lv_at hl 2 rfl) ?_
  refine lv_iload B.1 B.2.1 dX16_growSpans_148 (lv_at hl 4 rfl) ?_
  refine lv_aload_n B.1 B.2.1 dX16_growSpans_150 rfl (lv_at hl 0 rfl) ?_
  refine r_arr B hH hS 71 (kd := 101) (n := 4000) (by decide) (by decide) wf_X16_522 rfl rfl dX16_growSpans_151 ?_
  refine lv_iload B.1 B.2.1 dX16_growSpans_154 (lv_at hl 4 rfl) ?_
  obtain ⟨q1, h⟩ := h
  refine x_lald B K.2.1 hH (hS.ar (k := 71) (kd := 101) (n := 4000) (by decide)) (by decide) q1 dX16_growSpans_156 ?_
  refine lv_aload_n B.1 B.2.1 dX16_growSpans_157 rfl (lv_at hl 0 rfl) ?_
  refine r_getp B hH hS 17 (by decide) wf_X16_356 rfl rfl dX16_growSpans_158 ?_
  obtain ⟨a11, ea11, ja11, h⟩ := h
  refine W.eq (g2 := F0 m 161 ls [.ref a11, .long (gJ σ (ra 71) v5.toNat), .int (i32 v5), .int (i32 v2), .int (i32 v1), .ref rm]) (by rw [ea11]; rfl) ?_
  refine n_arr B hH hS ja11 9 (kd := 101) (n := 16) (by decide) (by decide) (List.mem_of_getElem? (i := 9) rfl) rfl dX16_growSpans_161 ?_
  refine lv_iload_n B.1 B.2.1 dX16_growSpans_164 rfl (lv_at hl 2 rfl) ?_
  obtain ⟨q3, h⟩ := h
  refine x_lald B K.2.1 hH (hS.ja ja11 (k := 9) (kd := 101) (n := 16) (by decide)) (by decide) q3 dX16_growSpans_165 ?_
  refine lv_lmul B.1 B.2.1 dX16_growSpans_166 ?_
  refine lv_aload_n B.1 B.2.1 dX16_growSpans_167 rfl (lv_at hl 0 rfl) ?_
  refine r_getp B hH hS 17 (by decide) wf_X16_356 rfl rfl dX16_growSpans_168 ?_
  obtain ⟨a12, ea12, ja12, h⟩ := h
  refine W.eq (g2 := F0 m 171 ls [.ref a12, .long ((gJ σ (ra 71) v5.toNat) * (gJ σ (jx a11 9) v2.toNat)), .int (i32 v5), .int (i32 v2), .int (i32 v1), .ref rm]) (by rw [ea12]; rfl) ?_
  refine n_arr B hH hS ja12 8 (kd := 101) (n := 16) (by decide) (by decide) (List.mem_of_getElem? (i := 8) rfl) rfl dX16_growSpans_171 ?_
  refine lv_iload_n B.1 B.2.1 dX16_growSpans_174 rfl (lv_at hl 2 rfl) ?_
  obtain ⟨q5, h⟩ := h
  refine x_lald B K.2.1 hH (hS.ja ja12 (k := 8) (kd := 101) (n := 16) (by decide)) (by decide) q5 dX16_growSpans_175 ?_
  refine lv_ladd B.1 B.2.1 dX16_growSpans_176 ?_
  refine lv_lconst (v := 1) B.1 B.2.1 dX16_growSpans_177 (by decide) ?_
  refine lv_lsub B.1 B.2.1 dX16_growSpans_178 ?_
  refine c_V B hH hl hc K.2.2.1 (C := RX16) (T := TX16) (N := 123) (ci := 16) (As := [.int (i32 v1), .int (i32 v2), .int (i32 v5), .long ((((gJ σ (ra 71) v5.toNat) * (gJ σ (jx a11 9) v2.toNat)) + (gJ σ (jx a12 8) v2.toNat)) - 1)]) (ok_X16_emitFold K.2.1 σ v1 v2 v5 ((((gJ σ (ra 71) v5.toNat) * (gJ σ (jx a11 9) v2.toNat)) + (gJ σ (jx a12 8) v2.toNat)) - 1) g1 g2 g5 hGσ hS h) wc_X16_632 4 hd_X16_emitFold ⟨Nat.le_trans (Nat.le_of_ble_eq_true rfl) K.2.2.2.1, Nat.le_trans (Nat.le_of_ble_eq_true rfl) K.2.2.2.2.1⟩ hS.1.1 hS.1.2 (by decide) rfl rfl (rest := []) rfl (Nat.le_of_ble_eq_true rfl) dX16_growSpans_179 (fun σ13 w hq => ?_) (fun σ9 E9 hx9 => hX σ9 E9 _ _ _ (tb_out K.2.2.2.2.2 rfl) hx9.1 hx9.2.1 hx9.2.2)
  obtain ⟨rfl, h, hGσ13, hS⟩ := hq
  intro H locs ls hH hl hc
  refine W.eq (g2 := F0 m 182 ls []) (rfl) ?_
  try dsimp only at h
  exact a_X16_growSpans_182 K hQ hX hK0 _ _ _ _ _ g1 g2 g5 h hGσ13 hS _ _ _ hH (lv_sub (l' := [(0, .ref rm), (1, .int (i32 v1)), (2, .int (i32 v2)), (3, .long v3), (5, .int (i32 v5))]) hl [0, 1, 2, 3, 4] rfl) hc
set_option maxRecDepth 20000 in
theorem a_X16_growSpans_139 {Q : Sg → Unit → Prop} {X : Sg → String → Prop} (K : MC R p s m args c cX16_growSpans 8 RX16 D cA tys A n0 s0 4 105 []) (hQ : HQV p l e R s m args below meth c cX16_growSpans D cA A n0 s0 QM dm ra jx rm Q) (hX : HX p l e R s m args below meth c 8 D cA A n0 s0 QM dm ra jx rm X) {K0 : Sg → Int → Int → Int64 → Prop} (hK0 : ∀ (σ : Sg) (v1 : Int) (v2 : Int) (v3 : Int64) (g1 : rng v1) (g2 : rng v2), K0 σ v1 v2 v3 → RG σ → Shp dm ra jx rm σ → JJ p l e R s m args below meth c 8 D cA A n0 s0 QM σ 0 [(0, .ref rm), (1, .int (i32 v1)), (2, .int (i32 v2)), (3, .long v3)] []) : ∀ (σ : Sg) (v1 : Int) (v2 : Int) (v3 : Int64) (v5 : Int) (g1 : rng v1) (g2 : rng v2) (g5 : rng v5), w_X16_growSpans_139 ra jx rm K0 Q X σ v1 v2 v3 v5 → RG σ → Shp dm ra jx rm σ → JJ p l e R s m args below meth c 8 D cA A n0 s0 QM σ 139 [(0, .ref rm), (1, .int (i32 v1)), (2, .int (i32 v2)), (3, .long v3), (5, .int (i32 v5))] [] := by
  intro σ v1 v2 v3 v5 g1 g2 g5 h hGσ hS H locs ls hH hl hc
  have B := K.1
  unfold w_X16_growSpans_139 at h
  refine lv_iload B.1 B.2.1 dX16_growSpans_139 (lv_at hl 4 rfl) ?_
  refine lv_iconst (v := i32 (-1)) B.1 B.2.1 dX16_growSpans_141 (by decide) ?_
  refine lv_icmp_eq (tgt := 182) B.1 B.2.1 dX16_growSpans_142 (by decide) (fun h9 => ?_) (fun h9 => ?_)
  · rw [if_pos ((i32_eq g5 (by unfold rng; omega)).mp h9)] at h
    exact a_X16_growSpans_182 K hQ hX hK0 _ _ _ _ _ g1 g2 g5 h hGσ hS _ _ _ hH (lv_sub (l' := [(0, .ref rm), (1, .int (i32 v1)), (2, .int (i32 v2)), (3, .long v3), (5, .int (i32 v5))]) hl [0, 1, 2, 3, 4] rfl) hc
  · rw [if_neg (fun q => h9 ((i32_eq g5 (by unfold rng; omega)).mpr q))] at h
    exact a_X16_growSpans_145 K hQ hX hK0 _ _ _ _ _ g1 g2 g5 h hGσ hS _ _ _ hH (lv_sub (l' := [(0, .ref rm), (1, .int (i32 v1)), (2, .int (i32 v2)), (3, .long v3), (5, .int (i32 v5))]) hl [0, 1, 2, 3, 4] rfl) hc
set_option maxRecDepth 20000 in
theorem a_X16_growSpans_127 {Q : Sg → Unit → Prop} {X : Sg → String → Prop} (K : MC R p s m args c cX16_growSpans 8 RX16 D cA tys A n0 s0 4 105 []) (hQ : HQV p l e R s m args below meth c cX16_growSpans D cA A n0 s0 QM dm ra jx rm Q) (hX : HX p l e R s m args below meth c 8 D cA A n0 s0 QM dm ra jx rm X) {K0 : Sg → Int → Int → Int64 → Prop} (hK0 : ∀ (σ : Sg) (v1 : Int) (v2 : Int) (v3 : Int64) (g1 : rng v1) (g2 : rng v2), K0 σ v1 v2 v3 → RG σ → Shp dm ra jx rm σ → JJ p l e R s m args below meth c 8 D cA A n0 s0 QM σ 0 [(0, .ref rm), (1, .int (i32 v1)), (2, .int (i32 v2)), (3, .long v3)] []) {K11 : Sg → Int → Int → Int64 → Int → Int → Prop} (hK11 : ∀ (σ : Sg) (v1 : Int) (v2 : Int) (v3 : Int64) (v5 : Int) (v6 : Int) (g1 : rng v1) (g2 : rng v2) (g5 : rng v5) (g6 : rng v6), K11 σ v1 v2 v3 v5 v6 → RG σ → Shp dm ra jx rm σ → JJ p l e R s m args below meth c 8 D cA A n0 s0 QM σ 11 [(0, .ref rm), (1, .int (i32 v1)), (2, .int (i32 v2)), (3, .long v3), (5, .int (i32 v5)), (6, .int (i32 v6))] []) : ∀ (σ : Sg) (v1 : Int) (v2 : Int) (v3 : Int64) (v5 : Int) (v6 : Int) (g1 : rng v1) (g2 : rng v2) (g5 : rng v5) (g6 : rng v6), w_X16_growSpans_127 ra jx rm K0 K11 Q X σ v1 v2 v3 v5 v6 → RG σ → Shp dm ra jx rm σ → JJ p l e R s m args below meth c 8 D cA A n0 s0 QM σ 127 [(0, .ref rm), (1, .int (i32 v1)), (2, .int (i32 v2)), (3, .long v3), (5, .int (i32 v5)), (6, .int (i32 v6))] [] := by
  intro σ v1 v2 v3 v5 v6 g1 g2 g5 g6 h hGσ hS H locs ls hH hl hc
  have B := K.1
  unfold w_X16_growSpans_127 at h
  refine lv_aload_n B.1 B.2.1 dX16_growSpans_127 rfl (lv_at hl 0 rfl) ?_
  refine r_arr B hH hS 75 (kd := 100) (n := 4000) (by decide) (by decide) wf_X16_495 rfl rfl dX16_growSpans_128 ?_
  refine lv_iload B.1 B.2.1 dX16_growSpans_131 (lv_at hl 5 rfl) ?_
  obtain ⟨q1, h⟩ := h
  refine x_iald B K.2.1 hH (hS.ar (k := 75) (kd := 100) (n := 4000) (by decide)) (by decide) q1 dX16_growSpans_133 ?_
  refine lv_istore (lv' := [(6, .int (i32 (gI σ (ra 75) v6.toNat))), (0, .ref rm), (1, .int (i32 v1)), (2, .int (i32 v2)), (3, .long v3), (5, .int (i32 v5))]) B.1 B.2.1 dX16_growSpans_134 hl (by decide) rfl (fun ls hl => ?_)
  refine lv_goto (tgt := 11) B.1 B.2.1 dX16_growSpans_136 (by decide) ?_
  exact hK11 _ _ _ _ _ _ g1 g2 g5 (hGσ _ _) h hGσ hS _ _ _ hH (lv_sub (l' := [(0, .ref rm), (1, .int (i32 v1)), (2, .int (i32 v2)), (3, .long v3), (5, .int (i32 v5)), (6, .int (i32 (gI σ (ra 75) v6.toNat)))]) hl [1, 2, 3, 4, 5, 0] rfl) hc
set_option maxRecDepth 20000 in
theorem a_X16_growSpans_123 {Q : Sg → Unit → Prop} {X : Sg → String → Prop} (K : MC R p s m args c cX16_growSpans 8 RX16 D cA tys A n0 s0 4 105 []) (hQ : HQV p l e R s m args below meth c cX16_growSpans D cA A n0 s0 QM dm ra jx rm Q) (hX : HX p l e R s m args below meth c 8 D cA A n0 s0 QM dm ra jx rm X) {K0 : Sg → Int → Int → Int64 → Prop} (hK0 : ∀ (σ : Sg) (v1 : Int) (v2 : Int) (v3 : Int64) (g1 : rng v1) (g2 : rng v2), K0 σ v1 v2 v3 → RG σ → Shp dm ra jx rm σ → JJ p l e R s m args below meth c 8 D cA A n0 s0 QM σ 0 [(0, .ref rm), (1, .int (i32 v1)), (2, .int (i32 v2)), (3, .long v3)] []) {K11 : Sg → Int → Int → Int64 → Int → Int → Prop} (hK11 : ∀ (σ : Sg) (v1 : Int) (v2 : Int) (v3 : Int64) (v5 : Int) (v6 : Int) (g1 : rng v1) (g2 : rng v2) (g5 : rng v5) (g6 : rng v6), K11 σ v1 v2 v3 v5 v6 → RG σ → Shp dm ra jx rm σ → JJ p l e R s m args below meth c 8 D cA A n0 s0 QM σ 11 [(0, .ref rm), (1, .int (i32 v1)), (2, .int (i32 v2)), (3, .long v3), (5, .int (i32 v5)), (6, .int (i32 v6))] []) : ∀ (σ : Sg) (v1 : Int) (v2 : Int) (v3 : Int64) (v6 : Int) (g1 : rng v1) (g2 : rng v2) (g6 : rng v6), w_X16_growSpans_123 ra jx rm K0 K11 Q X σ v1 v2 v3 v6 → RG σ → Shp dm ra jx rm σ → JJ p l e R s m args below meth c 8 D cA A n0 s0 QM σ 123 [(0, .ref rm), (1, .int (i32 v1)), (2, .int (i32 v2)), (3, .long v3), (6, .int (i32 v6))] [] := by
  intro σ v1 v2 v3 v6 g1 g2 g6 h hGσ hS H locs ls hH hl hc
  have B := K.1
  unfold w_X16_growSpans_123 at h
  refine lv_iload B.1 B.2.1 dX16_growSpans_123 (lv_at hl 4 rfl) ?_
  refine lv_istore (lv' := [(5, .int (i32 v6)), (0, .ref rm), (1, .int (i32 v1)), (2, .int (i32 v2)), (3, .long v3), (6, .int (i32 v6))]) B.1 B.2.1 dX16_growSpans_125 hl (by decide) rfl (fun ls hl => ?_)
  exact a_X16_growSpans_127 K hQ hX hK0 hK11 _ _ _ _ _ _ g1 g2 g6 g6 h hGσ hS _ _ _ hH (lv_sub (l' := [(0, .ref rm), (1, .int (i32 v1)), (2, .int (i32 v2)), (3, .long v3), (5, .int (i32 v6)), (6, .int (i32 v6))]) hl [1, 2, 3, 4, 0, 5] rfl) hc
set_option maxRecDepth 20000 in
theorem a_X16_growSpans_105 {Q : Sg → Unit → Prop} {X : Sg → String → Prop} (K : MC R p s m args c cX16_growSpans 8 RX16 D cA tys A n0 s0 4 105 []) (hQ : HQV p l e R s m args below meth c cX16_growSpans D cA A n0 s0 QM dm ra jx rm Q) (hX : HX p l e R s m args below meth c 8 D cA A n0 s0 QM dm ra jx rm X) {K0 : Sg → Int → Int → Int64 → Prop} (hK0 : ∀ (σ : Sg) (v1 : Int) (v2 : Int) (v3 : Int64) (g1 : rng v1) (g2 : rng v2), K0 σ v1 v2 v3 → RG σ → Shp dm ra jx rm σ → JJ p l e R s m args below meth c 8 D cA A n0 s0 QM σ 0 [(0, .ref rm), (1, .int (i32 v1)), (2, .int (i32 v2)), (3, .long v3)] []) {K11 : Sg → Int → Int → Int64 → Int → Int → Prop} (hK11 : ∀ (σ : Sg) (v1 : Int) (v2 : Int) (v3 : Int64) (v5 : Int) (v6 : Int) (g1 : rng v1) (g2 : rng v2) (g5 : rng v5) (g6 : rng v6), K11 σ v1 v2 v3 v5 v6 → RG σ → Shp dm ra jx rm σ → JJ p l e R s m args below meth c 8 D cA A n0 s0 QM σ 11 [(0, .ref rm), (1, .int (i32 v1)), (2, .int (i32 v2)), (3, .long v3), (5, .int (i32 v5)), (6, .int (i32 v6))] []) : ∀ (σ : Sg) (v1 : Int) (v2 : Int) (v3 : Int64) (v5 : Int) (v6 : Int) (g1 : rng v1) (g2 : rng v2) (g5 : rng v5) (g6 : rng v6), w_X16_growSpans_105 ra jx rm K0 K11 Q X σ v1 v2 v3 v5 v6 → RG σ → Shp dm ra jx rm σ → JJ p l e R s m args below meth c 8 D cA A n0 s0 QM σ 105 [(0, .ref rm), (1, .int (i32 v1)), (2, .int (i32 v2)), (3, .long v3), (5, .int (i32 v5)), (6, .int (i32 v6))] [] := by
  intro σ v1 v2 v3 v5 v6 g1 g2 g5 g6 h hGσ hS H locs ls hH hl hc
  have B := K.1
  unfold w_X16_growSpans_105 at h
  refine lv_aload_n B.1 B.2.1 dX16_growSpans_105 rfl (lv_at hl 0 rfl) ?_
  refine r_arr B hH hS 70 (kd := 101) (n := 4000) (by decide) (by decide) wf_X16_519 rfl rfl dX16_growSpans_106 ?_
  refine lv_iload B.1 B.2.1 dX16_growSpans_109 (lv_at hl 5 rfl) ?_
  obtain ⟨q1, h⟩ := h
  refine x_lald B K.2.1 hH (hS.ar (k := 70) (kd := 101) (n := 4000) (by decide)) (by decide) q1 dX16_growSpans_111 ?_
  refine lv_aload_n B.1 B.2.1 dX16_growSpans_112 rfl (lv_at hl 0 rfl) ?_
  refine r_arr B hH hS 70 (kd := 101) (n := 4000) (by decide) (by decide) wf_X16_519 rfl rfl dX16_growSpans_113 ?_
  refine lv_iload B.1 B.2.1 dX16_growSpans_116 (lv_at hl 4 rfl) ?_
  obtain ⟨q2, h⟩ := h
  refine x_lald B K.2.1 hH (hS.ar (k := 70) (kd := 101) (n := 4000) (by decide)) (by decide) q2 dX16_growSpans_118 ?_
  refine W.lcmp B.1 B.2.1 dX16_growSpans_119 ?_
  refine lv_if_ge (tgt := 127) B.1 B.2.1 dX16_growSpans_120 (by decide) (fun h9 => ?_) (fun h9 => ?_)
  · rw [if_pos ((lg_cmp_ge _ _).mp h9)] at h
    exact a_X16_growSpans_127 K hQ hX hK0 hK11 _ _ _ _ _ _ g1 g2 g5 g6 h hGσ hS _ _ _ hH (lv_sub (l' := [(0, .ref rm), (1, .int (i32 v1)), (2, .int (i32 v2)), (3, .long v3), (5, .int (i32 v5)), (6, .int (i32 v6))]) hl [0, 1, 2, 3, 4, 5] rfl) hc
  · rw [if_neg (fun q => h9 ((lg_cmp_ge _ _).mpr q))] at h
    exact a_X16_growSpans_123 K hQ hX hK0 hK11 _ _ _ _ _ g1 g2 g6 h hGσ hS _ _ _ hH (lv_sub (l' := [(0, .ref rm), (1, .int (i32 v1)), (2, .int (i32 v2)), (3, .long v3), (6, .int (i32 v6))]) hl [0, 1, 2, 3, 5] rfl) hc
set_option maxRecDepth 20000 in
theorem a_X16_growSpans_87 {Q : Sg → Unit → Prop} {X : Sg → String → Prop} (K : MC R p s m args c cX16_growSpans 8 RX16 D cA tys A n0 s0 4 105 []) (hQ : HQV p l e R s m args below meth c cX16_growSpans D cA A n0 s0 QM dm ra jx rm Q) (hX : HX p l e R s m args below meth c 8 D cA A n0 s0 QM dm ra jx rm X) {K0 : Sg → Int → Int → Int64 → Prop} (hK0 : ∀ (σ : Sg) (v1 : Int) (v2 : Int) (v3 : Int64) (g1 : rng v1) (g2 : rng v2), K0 σ v1 v2 v3 → RG σ → Shp dm ra jx rm σ → JJ p l e R s m args below meth c 8 D cA A n0 s0 QM σ 0 [(0, .ref rm), (1, .int (i32 v1)), (2, .int (i32 v2)), (3, .long v3)] []) {K11 : Sg → Int → Int → Int64 → Int → Int → Prop} (hK11 : ∀ (σ : Sg) (v1 : Int) (v2 : Int) (v3 : Int64) (v5 : Int) (v6 : Int) (g1 : rng v1) (g2 : rng v2) (g5 : rng v5) (g6 : rng v6), K11 σ v1 v2 v3 v5 v6 → RG σ → Shp dm ra jx rm σ → JJ p l e R s m args below meth c 8 D cA A n0 s0 QM σ 11 [(0, .ref rm), (1, .int (i32 v1)), (2, .int (i32 v2)), (3, .long v3), (5, .int (i32 v5)), (6, .int (i32 v6))] []) : ∀ (σ : Sg) (v1 : Int) (v2 : Int) (v3 : Int64) (v5 : Int) (v6 : Int) (g1 : rng v1) (g2 : rng v2) (g5 : rng v5) (g6 : rng v6), w_X16_growSpans_87 ra jx rm K0 K11 Q X σ v1 v2 v3 v5 v6 → RG σ → Shp dm ra jx rm σ → JJ p l e R s m args below meth c 8 D cA A n0 s0 QM σ 87 [(0, .ref rm), (1, .int (i32 v1)), (2, .int (i32 v2)), (3, .long v3), (5, .int (i32 v5)), (6, .int (i32 v6))] [] := by
  intro σ v1 v2 v3 v5 v6 g1 g2 g5 g6 h hGσ hS H locs ls hH hl hc
  have B := K.1
  unfold w_X16_growSpans_87 at h
  refine lv_aload_n B.1 B.2.1 dX16_growSpans_87 rfl (lv_at hl 0 rfl) ?_
  refine r_arr B hH hS 71 (kd := 101) (n := 4000) (by decide) (by decide) wf_X16_522 rfl rfl dX16_growSpans_88 ?_
  refine lv_iload B.1 B.2.1 dX16_growSpans_91 (lv_at hl 5 rfl) ?_
  obtain ⟨q1, h⟩ := h
  refine x_lald B K.2.1 hH (hS.ar (k := 71) (kd := 101) (n := 4000) (by decide)) (by decide) q1 dX16_growSpans_93 ?_
  refine lv_aload_n B.1 B.2.1 dX16_growSpans_94 rfl (lv_at hl 0 rfl) ?_
  refine r_arr B hH hS 71 (kd := 101) (n := 4000) (by decide) (by decide) wf_X16_522 rfl rfl dX16_growSpans_95 ?_
  refine lv_iload B.1 B.2.1 dX16_growSpans_98 (lv_at hl 4 rfl) ?_
  obtain ⟨q2, h⟩ := h
  refine x_lald B K.2.1 hH (hS.ar (k := 71) (kd := 101) (n := 4000) (by decide)) (by decide) q2 dX16_growSpans_100 ?_
  refine W.lcmp B.1 B.2.1 dX16_growSpans_101 ?_
  refine lv_if_ne (tgt := 127) B.1 B.2.1 dX16_growSpans_102 (by decide) (fun h9 => ?_) (fun h9 => ?_)
  · rw [if_pos (fun q => h9 ((lg_cmp_eq _ _).mpr q))] at h
    exact a_X16_growSpans_127 K hQ hX hK0 hK11 _ _ _ _ _ _ g1 g2 g5 g6 h hGσ hS _ _ _ hH (lv_sub (l' := [(0, .ref rm), (1, .int (i32 v1)), (2, .int (i32 v2)), (3, .long v3), (5, .int (i32 v5)), (6, .int (i32 v6))]) hl [0, 1, 2, 3, 4, 5] rfl) hc
  · rw [if_neg (fun q => q ((lg_cmp_eq _ _).mp h9))] at h
    exact a_X16_growSpans_105 K hQ hX hK0 hK11 _ _ _ _ _ _ g1 g2 g5 g6 h hGσ hS _ _ _ hH (lv_sub (l' := [(0, .ref rm), (1, .int (i32 v1)), (2, .int (i32 v2)), (3, .long v3), (5, .int (i32 v5)), (6, .int (i32 v6))]) hl [0, 1, 2, 3, 4, 5] rfl) hc
set_option maxRecDepth 20000 in
theorem a_X16_growSpans_69 {Q : Sg → Unit → Prop} {X : Sg → String → Prop} (K : MC R p s m args c cX16_growSpans 8 RX16 D cA tys A n0 s0 4 105 []) (hQ : HQV p l e R s m args below meth c cX16_growSpans D cA A n0 s0 QM dm ra jx rm Q) (hX : HX p l e R s m args below meth c 8 D cA A n0 s0 QM dm ra jx rm X) {K0 : Sg → Int → Int → Int64 → Prop} (hK0 : ∀ (σ : Sg) (v1 : Int) (v2 : Int) (v3 : Int64) (g1 : rng v1) (g2 : rng v2), K0 σ v1 v2 v3 → RG σ → Shp dm ra jx rm σ → JJ p l e R s m args below meth c 8 D cA A n0 s0 QM σ 0 [(0, .ref rm), (1, .int (i32 v1)), (2, .int (i32 v2)), (3, .long v3)] []) {K11 : Sg → Int → Int → Int64 → Int → Int → Prop} (hK11 : ∀ (σ : Sg) (v1 : Int) (v2 : Int) (v3 : Int64) (v5 : Int) (v6 : Int) (g1 : rng v1) (g2 : rng v2) (g5 : rng v5) (g6 : rng v6), K11 σ v1 v2 v3 v5 v6 → RG σ → Shp dm ra jx rm σ → JJ p l e R s m args below meth c 8 D cA A n0 s0 QM σ 11 [(0, .ref rm), (1, .int (i32 v1)), (2, .int (i32 v2)), (3, .long v3), (5, .int (i32 v5)), (6, .int (i32 v6))] []) : ∀ (σ : Sg) (v1 : Int) (v2 : Int) (v3 : Int64) (v5 : Int) (v6 : Int) (g1 : rng v1) (g2 : rng v2) (g5 : rng v5) (g6 : rng v6), w_X16_growSpans_69 ra jx rm K0 K11 Q X σ v1 v2 v3 v5 v6 → RG σ → Shp dm ra jx rm σ → JJ p l e R s m args below meth c 8 D cA A n0 s0 QM σ 69 [(0, .ref rm), (1, .int (i32 v1)), (2, .int (i32 v2)), (3, .long v3), (5, .int (i32 v5)), (6, .int (i32 v6))] [] := by
  intro σ v1 v2 v3 v5 v6 g1 g2 g5 g6 h hGσ hS H locs ls hH hl hc
  have B := K.1
  unfold w_X16_growSpans_69 at h
  refine lv_aload_n B.1 B.2.1 dX16_growSpans_69 rfl (lv_at hl 0 rfl) ?_
  refine r_arr B hH hS 71 (kd := 101) (n := 4000) (by decide) (by decide) wf_X16_522 rfl rfl dX16_growSpans_70 ?_
  refine lv_iload B.1 B.2.1 dX16_growSpans_73 (lv_at hl 5 rfl) ?_
  obtain ⟨q1, h⟩ := h
  refine x_lald B K.2.1 hH (hS.ar (k := 71) (kd := 101) (n := 4000) (by decide)) (by decide) q1 dX16_growSpans_75 ?_
  refine lv_aload_n B.1 B.2.1 dX16_growSpans_76 rfl (lv_at hl 0 rfl) ?_
  refine r_arr B hH hS 71 (kd := 101) (n := 4000) (by decide) (by decide) wf_X16_522 rfl rfl dX16_growSpans_77 ?_
  refine lv_iload B.1 B.2.1 dX16_growSpans_80 (lv_at hl 4 rfl) ?_
  obtain ⟨q2, h⟩ := h
  refine x_lald B K.2.1 hH (hS.ar (k := 71) (kd := 101) (n := 4000) (by decide)) (by decide) q2 dX16_growSpans_82 ?_
  refine W.lcmp B.1 B.2.1 dX16_growSpans_83 ?_
  refine lv_if_lt (tgt := 123) B.1 B.2.1 dX16_growSpans_84 (by decide) (fun h9 => ?_) (fun h9 => ?_)
  · rw [if_pos ((lg_cmp_lt _ _).mp h9)] at h
    exact a_X16_growSpans_123 K hQ hX hK0 hK11 _ _ _ _ _ g1 g2 g6 h hGσ hS _ _ _ hH (lv_sub (l' := [(0, .ref rm), (1, .int (i32 v1)), (2, .int (i32 v2)), (3, .long v3), (6, .int (i32 v6))]) hl [0, 1, 2, 3, 5] rfl) hc
  · rw [if_neg (fun q => h9 ((lg_cmp_lt _ _).mpr q))] at h
    exact a_X16_growSpans_87 K hQ hX hK0 hK11 _ _ _ _ _ _ g1 g2 g5 g6 h hGσ hS _ _ _ hH (lv_sub (l' := [(0, .ref rm), (1, .int (i32 v1)), (2, .int (i32 v2)), (3, .long v3), (5, .int (i32 v5)), (6, .int (i32 v6))]) hl [0, 1, 2, 3, 4, 5] rfl) hc
set_option maxRecDepth 20000 in
theorem a_X16_growSpans_63 {Q : Sg → Unit → Prop} {X : Sg → String → Prop} (K : MC R p s m args c cX16_growSpans 8 RX16 D cA tys A n0 s0 4 105 []) (hQ : HQV p l e R s m args below meth c cX16_growSpans D cA A n0 s0 QM dm ra jx rm Q) (hX : HX p l e R s m args below meth c 8 D cA A n0 s0 QM dm ra jx rm X) {K0 : Sg → Int → Int → Int64 → Prop} (hK0 : ∀ (σ : Sg) (v1 : Int) (v2 : Int) (v3 : Int64) (g1 : rng v1) (g2 : rng v2), K0 σ v1 v2 v3 → RG σ → Shp dm ra jx rm σ → JJ p l e R s m args below meth c 8 D cA A n0 s0 QM σ 0 [(0, .ref rm), (1, .int (i32 v1)), (2, .int (i32 v2)), (3, .long v3)] []) {K11 : Sg → Int → Int → Int64 → Int → Int → Prop} (hK11 : ∀ (σ : Sg) (v1 : Int) (v2 : Int) (v3 : Int64) (v5 : Int) (v6 : Int) (g1 : rng v1) (g2 : rng v2) (g5 : rng v5) (g6 : rng v6), K11 σ v1 v2 v3 v5 v6 → RG σ → Shp dm ra jx rm σ → JJ p l e R s m args below meth c 8 D cA A n0 s0 QM σ 11 [(0, .ref rm), (1, .int (i32 v1)), (2, .int (i32 v2)), (3, .long v3), (5, .int (i32 v5)), (6, .int (i32 v6))] []) : ∀ (σ : Sg) (v1 : Int) (v2 : Int) (v3 : Int64) (v5 : Int) (v6 : Int) (g1 : rng v1) (g2 : rng v2) (g5 : rng v5) (g6 : rng v6), w_X16_growSpans_63 ra jx rm K0 K11 Q X σ v1 v2 v3 v5 v6 → RG σ → Shp dm ra jx rm σ → JJ p l e R s m args below meth c 8 D cA A n0 s0 QM σ 63 [(0, .ref rm), (1, .int (i32 v1)), (2, .int (i32 v2)), (3, .long v3), (5, .int (i32 v5)), (6, .int (i32 v6))] [] := by
  intro σ v1 v2 v3 v5 v6 g1 g2 g5 g6 h hGσ hS H locs ls hH hl hc
  have B := K.1
  unfold w_X16_growSpans_63 at h
  refine lv_iload B.1 B.2.1 dX16_growSpans_63 (lv_at hl 4 rfl) ?_
  refine lv_iconst (v := i32 (-1)) B.1 B.2.1 dX16_growSpans_65 (by decide) ?_
  refine lv_icmp_eq (tgt := 123) B.1 B.2.1 dX16_growSpans_66 (by decide) (fun h9 => ?_) (fun h9 => ?_)
  · rw [if_pos ((i32_eq g5 (by unfold rng; omega)).mp h9)] at h
    exact a_X16_growSpans_123 K hQ hX hK0 hK11 _ _ _ _ _ g1 g2 g6 h hGσ hS _ _ _ hH (lv_sub (l' := [(0, .ref rm), (1, .int (i32 v1)), (2, .int (i32 v2)), (3, .long v3), (6, .int (i32 v6))]) hl [0, 1, 2, 3, 5] rfl) hc
  · rw [if_neg (fun q => h9 ((i32_eq g5 (by unfold rng; omega)).mpr q))] at h
    exact a_X16_growSpans_69 K hQ hX hK0 hK11 _ _ _ _ _ _ g1 g2 g5 g6 h hGσ hS _ _ _ hH (lv_sub (l' := [(0, .ref rm), (1, .int (i32 v1)), (2, .int (i32 v2)), (3, .long v3), (5, .int (i32 v5)), (6, .int (i32 v6))]) hl [0, 1, 2, 3, 4, 5] rfl) hc
set_option maxRecDepth 20000 in
theorem a_X16_growSpans_56 {Q : Sg → Unit → Prop} {X : Sg → String → Prop} (K : MC R p s m args c cX16_growSpans 8 RX16 D cA tys A n0 s0 4 105 []) (hQ : HQV p l e R s m args below meth c cX16_growSpans D cA A n0 s0 QM dm ra jx rm Q) (hX : HX p l e R s m args below meth c 8 D cA A n0 s0 QM dm ra jx rm X) {K0 : Sg → Int → Int → Int64 → Prop} (hK0 : ∀ (σ : Sg) (v1 : Int) (v2 : Int) (v3 : Int64) (g1 : rng v1) (g2 : rng v2), K0 σ v1 v2 v3 → RG σ → Shp dm ra jx rm σ → JJ p l e R s m args below meth c 8 D cA A n0 s0 QM σ 0 [(0, .ref rm), (1, .int (i32 v1)), (2, .int (i32 v2)), (3, .long v3)] []) {K11 : Sg → Int → Int → Int64 → Int → Int → Prop} (hK11 : ∀ (σ : Sg) (v1 : Int) (v2 : Int) (v3 : Int64) (v5 : Int) (v6 : Int) (g1 : rng v1) (g2 : rng v2) (g5 : rng v5) (g6 : rng v6), K11 σ v1 v2 v3 v5 v6 → RG σ → Shp dm ra jx rm σ → JJ p l e R s m args below meth c 8 D cA A n0 s0 QM σ 11 [(0, .ref rm), (1, .int (i32 v1)), (2, .int (i32 v2)), (3, .long v3), (5, .int (i32 v5)), (6, .int (i32 v6))] []) : ∀ (σ : Sg) (v1 : Int) (v2 : Int) (v3 : Int64) (v5 : Int) (v6 : Int) (u0 : Int) (g1 : rng v1) (g2 : rng v2) (g5 : rng v5) (g6 : rng v6) (gu0 : rng u0), w_X16_growSpans_56 ra jx rm K0 K11 Q X σ v1 v2 v3 v5 v6 u0 → RG σ → Shp dm ra jx rm σ → JJ p l e R s m args below meth c 8 D cA A n0 s0 QM σ 56 [(0, .ref rm), (1, .int (i32 v1)), (2, .int (i32 v2)), (3, .long v3), (5, .int (i32 v5)), (6, .int (i32 v6))] [.int (i32 u0)] := by
  intro σ v1 v2 v3 v5 v6 u0 g1 g2 g5 g6 gu0 h hGσ hS H locs ls hH hl hc
  have B := K.1
  unfold w_X16_growSpans_56 at h
  refine lv_istore (lv' := [(7, .int (i32 u0)), (0, .ref rm), (1, .int (i32 v1)), (2, .int (i32 v2)), (3, .long v3), (5, .int (i32 v5)), (6, .int (i32 v6))]) B.1 B.2.1 dX16_growSpans_56 hl (by decide) rfl (fun ls hl => ?_)
  refine lv_iload B.1 B.2.1 dX16_growSpans_58 (lv_at hl 0 rfl) ?_
  refine lv_if_eq (tgt := 127) B.1 B.2.1 dX16_growSpans_60 (by decide) (fun h9 => ?_) (fun h9 => ?_)
  · rw [if_pos ((z_eq gu0).mp h9)] at h
    exact a_X16_growSpans_127 K hQ hX hK0 hK11 _ _ _ _ _ _ g1 g2 g5 g6 h hGσ hS _ _ _ hH (lv_sub (l' := [(0, .ref rm), (1, .int (i32 v1)), (2, .int (i32 v2)), (3, .long v3), (5, .int (i32 v5)), (6, .int (i32 v6))]) hl [1, 2, 3, 4, 5, 6] rfl) hc
  · rw [if_neg (fun q => h9 ((z_eq gu0).mpr q))] at h
    exact a_X16_growSpans_63 K hQ hX hK0 hK11 _ _ _ _ _ _ g1 g2 g5 g6 h hGσ hS _ _ _ hH (lv_sub (l' := [(0, .ref rm), (1, .int (i32 v1)), (2, .int (i32 v2)), (3, .long v3), (5, .int (i32 v5)), (6, .int (i32 v6))]) hl [1, 2, 3, 4, 5, 6] rfl) hc
set_option maxRecDepth 20000 in
theorem a_X16_growSpans_55 {Q : Sg → Unit → Prop} {X : Sg → String → Prop} (K : MC R p s m args c cX16_growSpans 8 RX16 D cA tys A n0 s0 4 105 []) (hQ : HQV p l e R s m args below meth c cX16_growSpans D cA A n0 s0 QM dm ra jx rm Q) (hX : HX p l e R s m args below meth c 8 D cA A n0 s0 QM dm ra jx rm X) {K0 : Sg → Int → Int → Int64 → Prop} (hK0 : ∀ (σ : Sg) (v1 : Int) (v2 : Int) (v3 : Int64) (g1 : rng v1) (g2 : rng v2), K0 σ v1 v2 v3 → RG σ → Shp dm ra jx rm σ → JJ p l e R s m args below meth c 8 D cA A n0 s0 QM σ 0 [(0, .ref rm), (1, .int (i32 v1)), (2, .int (i32 v2)), (3, .long v3)] []) {K11 : Sg → Int → Int → Int64 → Int → Int → Prop} (hK11 : ∀ (σ : Sg) (v1 : Int) (v2 : Int) (v3 : Int64) (v5 : Int) (v6 : Int) (g1 : rng v1) (g2 : rng v2) (g5 : rng v5) (g6 : rng v6), K11 σ v1 v2 v3 v5 v6 → RG σ → Shp dm ra jx rm σ → JJ p l e R s m args below meth c 8 D cA A n0 s0 QM σ 11 [(0, .ref rm), (1, .int (i32 v1)), (2, .int (i32 v2)), (3, .long v3), (5, .int (i32 v5)), (6, .int (i32 v6))] []) : ∀ (σ : Sg) (v1 : Int) (v2 : Int) (v3 : Int64) (v5 : Int) (v6 : Int) (g1 : rng v1) (g2 : rng v2) (g5 : rng v5) (g6 : rng v6), w_X16_growSpans_55 ra jx rm K0 K11 Q X σ v1 v2 v3 v5 v6 → RG σ → Shp dm ra jx rm σ → JJ p l e R s m args below meth c 8 D cA A n0 s0 QM σ 55 [(0, .ref rm), (1, .int (i32 v1)), (2, .int (i32 v2)), (3, .long v3), (5, .int (i32 v5)), (6, .int (i32 v6))] [] := by
  intro σ v1 v2 v3 v5 v6 g1 g2 g5 g6 h hGσ hS H locs ls hH hl hc
  have B := K.1
  unfold w_X16_growSpans_55 at h
  refine lv_iconst (v := i32 0) B.1 B.2.1 dX16_growSpans_55 (by decide) ?_
  exact a_X16_growSpans_56 K hQ hX hK0 hK11 _ _ _ _ _ _ _ g1 g2 g5 g6 (by unfold rng; omega) h hGσ hS _ _ _ hH (lv_sub (l' := [(0, .ref rm), (1, .int (i32 v1)), (2, .int (i32 v2)), (3, .long v3), (5, .int (i32 v5)), (6, .int (i32 v6))]) hl [0, 1, 2, 3, 4, 5] rfl) hc
set_option maxRecDepth 20000 in
theorem a_X16_growSpans_51 {Q : Sg → Unit → Prop} {X : Sg → String → Prop} (K : MC R p s m args c cX16_growSpans 8 RX16 D cA tys A n0 s0 4 105 []) (hQ : HQV p l e R s m args below meth c cX16_growSpans D cA A n0 s0 QM dm ra jx rm Q) (hX : HX p l e R s m args below meth c 8 D cA A n0 s0 QM dm ra jx rm X) {K0 : Sg → Int → Int → Int64 → Prop} (hK0 : ∀ (σ : Sg) (v1 : Int) (v2 : Int) (v3 : Int64) (g1 : rng v1) (g2 : rng v2), K0 σ v1 v2 v3 → RG σ → Shp dm ra jx rm σ → JJ p l e R s m args below meth c 8 D cA A n0 s0 QM σ 0 [(0, .ref rm), (1, .int (i32 v1)), (2, .int (i32 v2)), (3, .long v3)] []) {K11 : Sg → Int → Int → Int64 → Int → Int → Prop} (hK11 : ∀ (σ : Sg) (v1 : Int) (v2 : Int) (v3 : Int64) (v5 : Int) (v6 : Int) (g1 : rng v1) (g2 : rng v2) (g5 : rng v5) (g6 : rng v6), K11 σ v1 v2 v3 v5 v6 → RG σ → Shp dm ra jx rm σ → JJ p l e R s m args below meth c 8 D cA A n0 s0 QM σ 11 [(0, .ref rm), (1, .int (i32 v1)), (2, .int (i32 v2)), (3, .long v3), (5, .int (i32 v5)), (6, .int (i32 v6))] []) : ∀ (σ : Sg) (v1 : Int) (v2 : Int) (v3 : Int64) (v5 : Int) (v6 : Int) (g1 : rng v1) (g2 : rng v2) (g5 : rng v5) (g6 : rng v6), w_X16_growSpans_51 ra jx rm K0 K11 Q X σ v1 v2 v3 v5 v6 → RG σ → Shp dm ra jx rm σ → JJ p l e R s m args below meth c 8 D cA A n0 s0 QM σ 51 [(0, .ref rm), (1, .int (i32 v1)), (2, .int (i32 v2)), (3, .long v3), (5, .int (i32 v5)), (6, .int (i32 v6))] [] := by
  intro σ v1 v2 v3 v5 v6 g1 g2 g5 g6 h hGσ hS H locs ls hH hl hc
  have B := K.1
  unfold w_X16_growSpans_51 at h
  refine lv_iconst (v := i32 1) B.1 B.2.1 dX16_growSpans_51 (by decide) ?_
  refine lv_goto (tgt := 56) B.1 B.2.1 dX16_growSpans_52 (by decide) ?_
  exact a_X16_growSpans_56 K hQ hX hK0 hK11 _ _ _ _ _ _ _ g1 g2 g5 g6 (by unfold rng; omega) h hGσ hS _ _ _ hH (lv_sub (l' := [(0, .ref rm), (1, .int (i32 v1)), (2, .int (i32 v2)), (3, .long v3), (5, .int (i32 v5)), (6, .int (i32 v6))]) hl [0, 1, 2, 3, 4, 5] rfl) hc
set_option maxRecDepth 20000 in
theorem a_X16_growSpans_17 {Q : Sg → Unit → Prop} {X : Sg → String → Prop} (K : MC R p s m args c cX16_growSpans 8 RX16 D cA tys A n0 s0 4 105 []) (hQ : HQV p l e R s m args below meth c cX16_growSpans D cA A n0 s0 QM dm ra jx rm Q) (hX : HX p l e R s m args below meth c 8 D cA A n0 s0 QM dm ra jx rm X) {K0 : Sg → Int → Int → Int64 → Prop} (hK0 : ∀ (σ : Sg) (v1 : Int) (v2 : Int) (v3 : Int64) (g1 : rng v1) (g2 : rng v2), K0 σ v1 v2 v3 → RG σ → Shp dm ra jx rm σ → JJ p l e R s m args below meth c 8 D cA A n0 s0 QM σ 0 [(0, .ref rm), (1, .int (i32 v1)), (2, .int (i32 v2)), (3, .long v3)] []) {K11 : Sg → Int → Int → Int64 → Int → Int → Prop} (hK11 : ∀ (σ : Sg) (v1 : Int) (v2 : Int) (v3 : Int64) (v5 : Int) (v6 : Int) (g1 : rng v1) (g2 : rng v2) (g5 : rng v5) (g6 : rng v6), K11 σ v1 v2 v3 v5 v6 → RG σ → Shp dm ra jx rm σ → JJ p l e R s m args below meth c 8 D cA A n0 s0 QM σ 11 [(0, .ref rm), (1, .int (i32 v1)), (2, .int (i32 v2)), (3, .long v3), (5, .int (i32 v5)), (6, .int (i32 v6))] []) : ∀ (σ : Sg) (v1 : Int) (v2 : Int) (v3 : Int64) (v5 : Int) (v6 : Int) (g1 : rng v1) (g2 : rng v2) (g5 : rng v5) (g6 : rng v6), w_X16_growSpans_17 ra jx rm K0 K11 Q X σ v1 v2 v3 v5 v6 → RG σ → Shp dm ra jx rm σ → JJ p l e R s m args below meth c 8 D cA A n0 s0 QM σ 17 [(0, .ref rm), (1, .int (i32 v1)), (2, .int (i32 v2)), (3, .long v3), (5, .int (i32 v5)), (6, .int (i32 v6))] [] := by
  intro σ v1 v2 v3 v5 v6 g1 g2 g5 g6 h hGσ hS H locs ls hH hl hc
  have B := K.1
  unfold w_X16_growSpans_17 at h
  refine lv_aload_n B.1 B.2.1 dX16_growSpans_17 rfl (lv_at hl 0 rfl) ?_
  refine r_arr B hH hS 71 (kd := 101) (n := 4000) (by decide) (by decide) wf_X16_522 rfl rfl dX16_growSpans_18 ?_
  refine lv_iload B.1 B.2.1 dX16_growSpans_21 (lv_at hl 5 rfl) ?_
  obtain ⟨q1, h⟩ := h
  refine x_lald B K.2.1 hH (hS.ar (k := 71) (kd := 101) (n := 4000) (by decide)) (by decide) q1 dX16_growSpans_23 ?_
  refine lv_aload_n B.1 B.2.1 dX16_growSpans_24 rfl (lv_at hl 0 rfl) ?_
  refine r_getp B hH hS 17 (by decide) wf_X16_356 rfl rfl dX16_growSpans_25 ?_
  obtain ⟨a14, ea14, ja14, h⟩ := h
  refine W.eq (g2 := F0 m 28 ls [.ref a14, .long (gJ σ (ra 71) v6.toNat)]) (by rw [ea14]; rfl) ?_
  refine n_arr B hH hS ja14 9 (kd := 101) (n := 16) (by decide) (by decide) (List.mem_of_getElem? (i := 9) rfl) rfl dX16_growSpans_28 ?_
  refine lv_iload_n B.1 B.2.1 dX16_growSpans_31 rfl (lv_at hl 2 rfl) ?_
  obtain ⟨q3, h⟩ := h
  refine x_lald B K.2.1 hH (hS.ja ja14 (k := 9) (kd := 101) (n := 16) (by decide)) (by decide) q3 dX16_growSpans_32 ?_
  refine lv_lmul B.1 B.2.1 dX16_growSpans_33 ?_
  refine lv_aload_n B.1 B.2.1 dX16_growSpans_34 rfl (lv_at hl 0 rfl) ?_
  refine r_getp B hH hS 17 (by decide) wf_X16_356 rfl rfl dX16_growSpans_35 ?_
  obtain ⟨a15, ea15, ja15, h⟩ := h
  refine W.eq (g2 := F0 m 38 ls [.ref a15, .long ((gJ σ (ra 71) v6.toNat) * (gJ σ (jx a14 9) v2.toNat))]) (by rw [ea15]; rfl) ?_
  refine n_arr B hH hS ja15 8 (kd := 101) (n := 16) (by decide) (by decide) (List.mem_of_getElem? (i := 8) rfl) rfl dX16_growSpans_38 ?_
  refine lv_iload_n B.1 B.2.1 dX16_growSpans_41 rfl (lv_at hl 2 rfl) ?_
  obtain ⟨q5, h⟩ := h
  refine x_lald B K.2.1 hH (hS.ja ja15 (k := 8) (kd := 101) (n := 16) (by decide)) (by decide) q5 dX16_growSpans_42 ?_
  refine lv_ladd B.1 B.2.1 dX16_growSpans_43 ?_
  refine lv_lconst (v := 1) B.1 B.2.1 dX16_growSpans_44 (by decide) ?_
  refine lv_lsub B.1 B.2.1 dX16_growSpans_45 ?_
  refine lv_lload_n B.1 B.2.1 dX16_growSpans_46 rfl (lv_at hl 3 rfl) ?_
  refine W.lcmp B.1 B.2.1 dX16_growSpans_47 ?_
  refine lv_if_gt (tgt := 55) B.1 B.2.1 dX16_growSpans_48 (by decide) (fun h9 => ?_) (fun h9 => ?_)
  · rw [if_pos ((lg_cmp_gt _ _).mp h9)] at h
    exact a_X16_growSpans_55 K hQ hX hK0 hK11 _ _ _ _ _ _ g1 g2 g5 g6 h hGσ hS _ _ _ hH (lv_sub (l' := [(0, .ref rm), (1, .int (i32 v1)), (2, .int (i32 v2)), (3, .long v3), (5, .int (i32 v5)), (6, .int (i32 v6))]) hl [0, 1, 2, 3, 4, 5] rfl) hc
  · rw [if_neg (fun q => h9 ((lg_cmp_gt _ _).mpr q))] at h
    exact a_X16_growSpans_51 K hQ hX hK0 hK11 _ _ _ _ _ _ g1 g2 g5 g6 h hGσ hS _ _ _ hH (lv_sub (l' := [(0, .ref rm), (1, .int (i32 v1)), (2, .int (i32 v2)), (3, .long v3), (5, .int (i32 v5)), (6, .int (i32 v6))]) hl [0, 1, 2, 3, 4, 5] rfl) hc
set_option maxRecDepth 20000 in
theorem a_X16_growSpans_11 {Q : Sg → Unit → Prop} {X : Sg → String → Prop} (K : MC R p s m args c cX16_growSpans 8 RX16 D cA tys A n0 s0 4 105 []) (hQ : HQV p l e R s m args below meth c cX16_growSpans D cA A n0 s0 QM dm ra jx rm Q) (hX : HX p l e R s m args below meth c 8 D cA A n0 s0 QM dm ra jx rm X) {K0 : Sg → Int → Int → Int64 → Prop} (hK0 : ∀ (σ : Sg) (v1 : Int) (v2 : Int) (v3 : Int64) (g1 : rng v1) (g2 : rng v2), K0 σ v1 v2 v3 → RG σ → Shp dm ra jx rm σ → JJ p l e R s m args below meth c 8 D cA A n0 s0 QM σ 0 [(0, .ref rm), (1, .int (i32 v1)), (2, .int (i32 v2)), (3, .long v3)] []) {K11 : Sg → Int → Int → Int64 → Int → Int → Prop} (hK11 : ∀ (σ : Sg) (v1 : Int) (v2 : Int) (v3 : Int64) (v5 : Int) (v6 : Int) (g1 : rng v1) (g2 : rng v2) (g5 : rng v5) (g6 : rng v6), K11 σ v1 v2 v3 v5 v6 → RG σ → Shp dm ra jx rm σ → JJ p l e R s m args below meth c 8 D cA A n0 s0 QM σ 11 [(0, .ref rm), (1, .int (i32 v1)), (2, .int (i32 v2)), (3, .long v3), (5, .int (i32 v5)), (6, .int (i32 v6))] []) : ∀ (σ : Sg) (v1 : Int) (v2 : Int) (v3 : Int64) (v5 : Int) (v6 : Int) (g1 : rng v1) (g2 : rng v2) (g5 : rng v5) (g6 : rng v6), w_X16_growSpans_11 ra jx rm K0 K11 Q X σ v1 v2 v3 v5 v6 → RG σ → Shp dm ra jx rm σ → JJ p l e R s m args below meth c 8 D cA A n0 s0 QM σ 11 [(0, .ref rm), (1, .int (i32 v1)), (2, .int (i32 v2)), (3, .long v3), (5, .int (i32 v5)), (6, .int (i32 v6))] [] := by
  intro σ v1 v2 v3 v5 v6 g1 g2 g5 g6 h hGσ hS H locs ls hH hl hc
  have B := K.1
  unfold w_X16_growSpans_11 at h
  refine lv_iload B.1 B.2.1 dX16_growSpans_11 (lv_at hl 5 rfl) ?_
  refine lv_iconst (v := i32 (-1)) B.1 B.2.1 dX16_growSpans_13 (by decide) ?_
  refine lv_icmp_eq (tgt := 139) B.1 B.2.1 dX16_growSpans_14 (by decide) (fun h9 => ?_) (fun h9 => ?_)
  · rw [if_pos ((i32_eq g6 (by unfold rng; omega)).mp h9)] at h
    exact a_X16_growSpans_139 K hQ hX hK0 _ _ _ _ _ g1 g2 g5 h hGσ hS _ _ _ hH (lv_sub (l' := [(0, .ref rm), (1, .int (i32 v1)), (2, .int (i32 v2)), (3, .long v3), (5, .int (i32 v5))]) hl [0, 1, 2, 3, 4] rfl) hc
  · rw [if_neg (fun q => h9 ((i32_eq g6 (by unfold rng; omega)).mpr q))] at h
    exact a_X16_growSpans_17 K hQ hX hK0 hK11 _ _ _ _ _ _ g1 g2 g5 g6 h hGσ hS _ _ _ hH (lv_sub (l' := [(0, .ref rm), (1, .int (i32 v1)), (2, .int (i32 v2)), (3, .long v3), (5, .int (i32 v5)), (6, .int (i32 v6))]) hl [0, 1, 2, 3, 4, 5] rfl) hc
theorem al_X16_growSpans_11 {Q : Sg → Unit → Prop} {X : Sg → String → Prop} (K : MC R p s m args c cX16_growSpans 8 RX16 D cA tys A n0 s0 4 105 []) (hQ : HQV p l e R s m args below meth c cX16_growSpans D cA A n0 s0 QM dm ra jx rm Q) (hX : HX p l e R s m args below meth c 8 D cA A n0 s0 QM dm ra jx rm X) {K0 : Sg → Int → Int → Int64 → Prop} (hK0 : ∀ (σ : Sg) (v1 : Int) (v2 : Int) (v3 : Int64) (g1 : rng v1) (g2 : rng v2), K0 σ v1 v2 v3 → RG σ → Shp dm ra jx rm σ → JJ p l e R s m args below meth c 8 D cA A n0 s0 QM σ 0 [(0, .ref rm), (1, .int (i32 v1)), (2, .int (i32 v2)), (3, .long v3)] []) : ∀ (n : Nat), ∀ (σ : Sg) (v1 : Int) (v2 : Int) (v3 : Int64) (v5 : Int) (v6 : Int) (g1 : rng v1) (g2 : rng v2) (g5 : rng v5) (g6 : rng v6), wl_X16_growSpans_11 ra jx rm K0 Q X n σ v1 v2 v3 v5 v6 → RG σ → Shp dm ra jx rm σ → JJ p l e R s m args below meth c 8 D cA A n0 s0 QM σ 11 [(0, .ref rm), (1, .int (i32 v1)), (2, .int (i32 v2)), (3, .long v3), (5, .int (i32 v5)), (6, .int (i32 v6))] [] := by
  intro n
  induction n with
  | zero => intro σ v1 v2 v3 v5 v6 g1 g2 g5 g6 h; exact h.elim
  | succ n ih => exact fun σ v1 v2 v3 v5 v6 g1 g2 g5 g6 h => a_X16_growSpans_11 K hQ hX hK0 ih σ v1 v2 v3 v5 v6 g1 g2 g5 g6 h
set_option maxRecDepth 20000 in
theorem a_X16_growSpans_0 {Q : Sg → Unit → Prop} {X : Sg → String → Prop} (K : MC R p s m args c cX16_growSpans 8 RX16 D cA tys A n0 s0 4 105 []) (hQ : HQV p l e R s m args below meth c cX16_growSpans D cA A n0 s0 QM dm ra jx rm Q) (hX : HX p l e R s m args below meth c 8 D cA A n0 s0 QM dm ra jx rm X) {K0 : Sg → Int → Int → Int64 → Prop} (hK0 : ∀ (σ : Sg) (v1 : Int) (v2 : Int) (v3 : Int64) (g1 : rng v1) (g2 : rng v2), K0 σ v1 v2 v3 → RG σ → Shp dm ra jx rm σ → JJ p l e R s m args below meth c 8 D cA A n0 s0 QM σ 0 [(0, .ref rm), (1, .int (i32 v1)), (2, .int (i32 v2)), (3, .long v3)] []) : ∀ (σ : Sg) (v1 : Int) (v2 : Int) (v3 : Int64) (g1 : rng v1) (g2 : rng v2), w_X16_growSpans_0 ra jx rm K0 Q X σ v1 v2 v3 → RG σ → Shp dm ra jx rm σ → JJ p l e R s m args below meth c 8 D cA A n0 s0 QM σ 0 [(0, .ref rm), (1, .int (i32 v1)), (2, .int (i32 v2)), (3, .long v3)] [] := by
  intro σ v1 v2 v3 g1 g2 h hGσ hS H locs ls hH hl hc
  have B := K.1
  unfold w_X16_growSpans_0 at h
  refine lv_iconst (v := i32 (-1)) B.1 B.2.1 dX16_growSpans_0 (by decide) ?_
  refine lv_istore (lv' := [(5, .int (i32 (-1))), (0, .ref rm), (1, .int (i32 v1)), (2, .int (i32 v2)), (3, .long v3)]) B.1 B.2.1 dX16_growSpans_1 hl (by decide) rfl (fun ls hl => ?_)
  refine lv_aload_n B.1 B.2.1 dX16_growSpans_3 rfl (lv_at hl 1 rfl) ?_
  refine r_arr B hH hS 76 (kd := 100) (n := 64) (by decide) (by decide) wf_X16_504 rfl rfl dX16_growSpans_4 ?_
  refine lv_iload_n B.1 B.2.1 dX16_growSpans_7 rfl (lv_at hl 2 rfl) ?_
  obtain ⟨q1, h⟩ := h
  refine x_iald B K.2.1 hH (hS.ar (k := 76) (kd := 100) (n := 64) (by decide)) (by decide) q1 dX16_growSpans_8 ?_
  refine lv_istore (lv' := [(6, .int (i32 (gI σ (ra 76) v1.toNat))), (5, .int (i32 (-1))), (0, .ref rm), (1, .int (i32 v1)), (2, .int (i32 v2)), (3, .long v3)]) B.1 B.2.1 dX16_growSpans_9 hl (by decide) rfl (fun ls hl => ?_)
  obtain ⟨n9, h⟩ := h
  exact al_X16_growSpans_11 K hQ hX hK0 n9 _ _ _ _ _ _ g1 g2 (by unfold rng; omega) (hGσ _ _) h hGσ hS _ _ _ hH (lv_sub (l' := [(0, .ref rm), (1, .int (i32 v1)), (2, .int (i32 v2)), (3, .long v3), (5, .int (i32 (-1))), (6, .int (i32 (gI σ (ra 76) v1.toNat)))]) hl [2, 3, 4, 5, 1, 0] rfl) hc
theorem al_X16_growSpans_0 {Q : Sg → Unit → Prop} {X : Sg → String → Prop} (K : MC R p s m args c cX16_growSpans 8 RX16 D cA tys A n0 s0 4 105 []) (hQ : HQV p l e R s m args below meth c cX16_growSpans D cA A n0 s0 QM dm ra jx rm Q) (hX : HX p l e R s m args below meth c 8 D cA A n0 s0 QM dm ra jx rm X) : ∀ (n : Nat), ∀ (σ : Sg) (v1 : Int) (v2 : Int) (v3 : Int64) (g1 : rng v1) (g2 : rng v2), wl_X16_growSpans_0 ra jx rm Q X n σ v1 v2 v3 → RG σ → Shp dm ra jx rm σ → JJ p l e R s m args below meth c 8 D cA A n0 s0 QM σ 0 [(0, .ref rm), (1, .int (i32 v1)), (2, .int (i32 v2)), (3, .long v3)] [] := by
  intro n
  induction n with
  | zero => intro σ v1 v2 v3 g1 g2 h; exact h.elim
  | succ n ih => exact fun σ v1 v2 v3 g1 g2 h => a_X16_growSpans_0 K hQ hX ih σ v1 v2 v3 g1 g2 h
theorem ok_X16_growSpans (hT : Tys cA tys) {Q : Sg → Unit → Prop} {X : Sg → String → Prop} (σ : Sg) (v1 : Int) (v2 : Int) (v3 : Int64) (g1 : rng v1) (g2 : rng v2) (hG : RG σ) (hS : Shp dm ra jx rm σ) (h : wp_X16_growSpans ra jx rm v1 v2 v3 σ Q X) : Ok l D cA tys A yX16_growSpans (.code yX16_growSpans cX16_growSpans 8 none) 4 105 [.ref rm, .int (i32 v1), .int (i32 v2), .long v3] σ (QnV dm ra jx rm Q) (QxR dm ra jx rm X) := by
  unfold wp_X16_growSpans at h
  obtain ⟨n9, h⟩ := h
  exact ok_V (plainFor_of_name (by decide)) (by exact Nat.le_of_ble_eq_true rfl) hT (fun p e R s m args below meth c K hQ hX H locs ls hH hl hc => al_X16_growSpans_0 K hQ hX n9 σ v1 v2 v3 g1 g2 h hG hS H locs ls hH (lv_sub (l' := [(0, .ref rm), (1, .int (i32 v1)), (2, .int (i32 v2)), (3, .long v3)]) hl [0, 1, 2, 3] rfl) hc)
end M59

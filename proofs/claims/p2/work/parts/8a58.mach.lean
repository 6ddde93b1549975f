section M58
variable {p : Program} {l : Launch} {e : Env} {R : Room} {s : State} {m : MethodId} {args : Array Value} {below : List Frame} {meth : Method} {c : Code} {D : va_G} {cA : Nat → ClassId} {tys : List (ClassId × FieldType)} {A : Nat → Prop} {n0 s0 : Nat} {QM : State → Prop} {dm : List Nat × Nat × Nat} {ra : Nat → Nat} {jx : Nat → Nat → Nat} {rm : Nat}
theorem dX16_seeInput_0 : decode cX16_seeInput 0 = .ok (.aload_n 0, 1) := by decide +kernel
theorem dX16_seeInput_1 : decode cX16_seeInput 1 = .ok (.getfield 118, 3) := by decide +kernel
theorem dX16_seeInput_4 : decode cX16_seeInput 4 = .ok (.aload_n 0, 1) := by decide +kernel
theorem dX16_seeInput_5 : decode cX16_seeInput 5 = .ok (.invokevirtual 164, 3) := by decide +kernel
theorem dX16_seeInput_8 : decode cX16_seeInput 8 = .ok (.invokevirtual 171, 3) := by decide +kernel
theorem dX16_seeInput_11 : decode cX16_seeInput 11 = .ok (.istore_n 1, 1) := by decide +kernel
theorem dX16_seeInput_12 : decode cX16_seeInput 12 = .ok (.iload_n 1, 1) := by decide +kernel
theorem dX16_seeInput_13 : decode cX16_seeInput 13 = .ok (.iconst (-1), 1) := by decide +kernel
theorem dX16_seeInput_14 : decode cX16_seeInput 14 = .ok (.if_icmp .ne 9, 3) := by decide +kernel
theorem dX16_seeInput_17 : decode cX16_seeInput 17 = .ok (.aload_n 0, 1) := by decide +kernel
theorem dX16_seeInput_18 : decode cX16_seeInput 18 = .ok (.iconst 5, 1) := by decide +kernel
theorem dX16_seeInput_19 : decode cX16_seeInput 19 = .ok (.invokevirtual 65, 3) := by decide +kernel
theorem dX16_seeInput_22 : decode cX16_seeInput 22 = .ok (.athrow, 1) := by decide +kernel
theorem dX16_seeInput_23 : decode cX16_seeInput 23 = .ok (.iload_n 1, 1) := by decide +kernel
theorem dX16_seeInput_24 : decode cX16_seeInput 24 = .ok (.ireturn, 1) := by decide +kernel
set_option maxRecDepth 20000 in
theorem a_X16_seeInput_23 {Q : Sg → Int → Prop} {X : Sg → String → Prop} (K : MC R p s m args c cX16_seeInput 2 RX16 D cA tys A n0 s0 7 153 []) (hQ : HQI p l e R s m args below meth c cX16_seeInput D cA A n0 s0 QM dm ra jx rm Q) (hX : HX p l e R s m args below meth c 2 D cA A n0 s0 QM dm ra jx rm X) : ∀ (σ : Sg) (v1 : Int) (g1 : rng v1), w_X16_seeInput_23 ra jx rm Q X σ v1 → RG σ → Shp dm ra jx rm σ → JJ p l e R s m args below meth c 2 D cA A n0 s0 QM σ 23 [(0, .ref rm), (1, .int (i32 v1))] [] := by
  intro σ v1 g1 h hGσ hS H locs ls hH hl hc
  have B := K.1
  unfold w_X16_seeInput_23 at h
  refine lv_iload_n B.1 B.2.1 dX16_seeInput_23 rfl (lv_at hl 1 rfl) ?_
  exact hQ _ _ _ _ _ _ g1 dX16_seeInput_24 hH hc h hGσ hS
set_option maxRecDepth 20000 in
theorem a_X16_seeInput_17 {Q : Sg → Int → Prop} {X : Sg → String → Prop} (K : MC R p s m args c cX16_seeInput 2 RX16 D cA tys A n0 s0 7 153 []) (hQ : HQI p l e R s m args below meth c cX16_seeInput D cA A n0 s0 QM dm ra jx rm Q) (hX : HX p l e R s m args below meth c 2 D cA A n0 s0 QM dm ra jx rm X) : ∀ (σ : Sg), w_X16_seeInput_17 ra jx rm Q X σ → RG σ → Shp dm ra jx rm σ → JJ p l e R s m args below meth c 2 D cA A n0 s0 QM σ 17 [(0, .ref rm)] [] := by
  intro σ h hGσ hS H locs ls hH hl hc
  have B := K.1
  unfold w_X16_seeInput_17 at h
  refine lv_aload_n B.1 B.2.1 dX16_seeInput_17 rfl (lv_at hl 0 rfl) ?_
  refine lv_iconst (v := i32 5) B.1 B.2.1 dX16_seeInput_18 (by decide) ?_
  refine c_V B hH hl hc K.2.2.1 (C := RX16) (T := TX16) (N := 123) (ci := 16) (As := [.int (i32 5)]) (ok_X16_fail K.2.1 σ 5 (by unfold rng; omega) hGσ hS h) wc_X16_65 1 hd_X16_fail ⟨Nat.le_trans (Nat.le_of_ble_eq_true rfl) K.2.2.2.1, Nat.le_trans (Nat.le_of_ble_eq_true rfl) K.2.2.2.2.1⟩ hS.1.1 hS.1.2 (by decide) rfl rfl (rest := []) rfl (Nat.le_of_ble_eq_true rfl) dX16_seeInput_19 (fun σ15 w hq => ?_) (fun σ9 E9 hx9 => hX σ9 E9 _ _ _ (tb_out K.2.2.2.2.2 rfl) hx9.1 hx9.2.1 hx9.2.2)
  obtain ⟨r16, rfl, h, hGσ15, hS⟩ := hq
  intro H locs ls hH hl hc
  refine W.eq (g2 := F0 m 22 ls [va_rf r16]) (rfl) ?_
  try dsimp only at h
  obtain ⟨qt, h⟩ := h
  refine W.eq (g2 := F0 m 22 ls [.ref (ra 1)]) (by rw [qt]; rfl) ?_
  have hx9 := And.intro h (And.intro hGσ15 hS)
  refine h_athrow B hH hl hc (ci := 14) (hS.ob (k := 1) (ci := 14) (by decide)).1 (hS.ob (k := 1) (ci := 14) (by decide)).2 (by decide) rfl dX16_seeInput_22 ?_
  exact hX σ15 _ _ _ _ (tb_out K.2.2.2.2.2 rfl) hx9.1 hx9.2.1 hx9.2.2
set_option maxRecDepth 20000 in
theorem a_X16_seeInput_0 {Q : Sg → Int → Prop} {X : Sg → String → Prop} (K : MC R p s m args c cX16_seeInput 2 RX16 D cA tys A n0 s0 7 153 []) (hQ : HQI p l e R s m args below meth c cX16_seeInput D cA A n0 s0 QM dm ra jx rm Q) (hX : HX p l e R s m args below meth c 2 D cA A n0 s0 QM dm ra jx rm X) : ∀ (σ : Sg), w_X16_seeInput_0 ra jx rm Q X σ → RG σ → Shp dm ra jx rm σ → JJ p l e R s m args below meth c 2 D cA A n0 s0 QM σ 0 [(0, .ref rm)] [] := by
  intro σ h hGσ hS H locs ls hH hl hc
  have B := K.1
  unfold w_X16_seeInput_0 at h
  refine lv_aload_n B.1 B.2.1 dX16_seeInput_0 rfl (lv_at hl 0 rfl) ?_
  refine r_getp B hH hS 18 (by decide) wf_X16_118 rfl rfl dX16_seeInput_1 ?_
  refine lv_aload_n B.1 B.2.1 dX16_seeInput_4 rfl (lv_at hl 0 rfl) ?_
  refine c_V B hH hl hc K.2.2.1 (C := RX16) (T := TX16) (N := 123) (ci := 16) (As := []) (ok_X16_seeName K.2.1 σ hGσ hS h) wc_X16_164 0 hd_X16_seeName ⟨Nat.le_trans (Nat.le_of_ble_eq_true rfl) K.2.2.2.1, Nat.le_trans (Nat.le_of_ble_eq_true rfl) K.2.2.2.2.1⟩ hS.1.1 hS.1.2 (by decide) rfl rfl (rest := [va_rf (gP σ rm 18)]) rfl (by simp only [List.map_cons, List.map_nil, rf_cat]; exact Nat.le_of_ble_eq_true rfl) dX16_seeInput_5 (fun σ17 w hq => ?_) (fun σ9 E9 hx9 => hX σ9 E9 _ _ _ (tb_out K.2.2.2.2.2 rfl) hx9.1 hx9.2.1 hx9.2.2)
  obtain ⟨r18, rfl, h, hGσ17, hS⟩ := hq
  intro H locs ls hH hl hc
  refine W.eq (g2 := F0 m 8 ls [.long r18, va_rf (gP σ rm 18)]) (rfl) ?_
  try dsimp only at h
  obtain ⟨a19, ea19, ja19, h⟩ := h
  refine W.eq (g2 := F0 m 8 ls [.long r18, .ref a19]) (by rw [ea19]; rfl) ?_
  refine c_V B hH hl hc K.2.2.1 (C := RX15) (T := TX15) (N := 20) (ci := 15) (As := [.long r18]) (ok_X15_find ja19 K.2.1 σ17 r18 hGσ17 hS h) wc_X16_171 1 hd_X15_find ⟨Nat.le_trans (Nat.le_of_ble_eq_true rfl) K.2.2.2.1, Nat.le_trans (Nat.le_of_ble_eq_true rfl) K.2.2.2.2.1⟩ (hS.jb ja19).1 (hS.jb ja19).2 (by decide) rfl rfl (rest := []) rfl (Nat.le_of_ble_eq_true rfl) dX16_seeInput_8 (fun σ20 w hq => ?_) (fun σ9 E9 hx9 => hX σ9 E9 _ _ _ (tb_out K.2.2.2.2.2 rfl) hx9.1 hx9.2.1 hx9.2.2)
  obtain ⟨r21, rfl, gr21, h, hGσ20, hS⟩ := hq
  intro H locs ls hH hl hc
  refine W.eq (g2 := F0 m 11 ls [.int (i32 r21)]) (rfl) ?_
  try dsimp only at h
  refine lv_istore_n (lv' := [(1, .int (i32 r21)), (0, .ref rm)]) B.1 B.2.1 dX16_seeInput_11 rfl hl (by decide) rfl (fun ls hl => ?_)
  refine lv_iload_n B.1 B.2.1 dX16_seeInput_12 rfl (lv_at hl 0 rfl) ?_
  refine lv_iconst (v := i32 (-1)) B.1 B.2.1 dX16_seeInput_13 (by decide) ?_
  refine lv_icmp_ne (tgt := 23) B.1 B.2.1 dX16_seeInput_14 (by decide) (fun h9 => ?_) (fun h9 => ?_)
  · rw [if_pos (fun q => h9 ((i32_eq gr21 (by unfold rng; omega)).mpr q))] at h
    exact a_X16_seeInput_23 K hQ hX _ _ gr21 h hGσ20 hS _ _ _ hH (lv_sub (l' := [(0, .ref rm), (1, .int (i32 r21))]) hl [1, 0] rfl) hc
  · rw [if_neg (fun q => q ((i32_eq gr21 (by unfold rng; omega)).mp h9))] at h
    exact a_X16_seeInput_17 K hQ hX _ h hGσ20 hS _ _ _ hH (lv_sub (l' := [(0, .ref rm)]) hl [1] rfl) hc
theorem ok_X16_seeInput (hT : Tys cA tys) {Q : Sg → Int → Prop} {X : Sg → String → Prop} (σ : Sg) (hG : RG σ) (hS : Shp dm ra jx rm σ) (h : wp_X16_seeInput ra jx rm σ Q X) : Ok l D cA tys A yX16_seeInput (.code yX16_seeInput cX16_seeInput 2 (some .int)) 7 153 [.ref rm] σ (QnI dm ra jx rm Q) (QxR dm ra jx rm X) := by
  unfold wp_X16_seeInput at h
  exact ok_I (plainFor_of_name (by decide)) (by exact Nat.le_of_ble_eq_true rfl) hT (fun p e R s m args below meth c K hQ hX H locs ls hH hl hc => a_X16_seeInput_0 K hQ hX σ h hG hS H locs ls hH (lv_sub (l' := [(0, .ref rm)]) hl [0] rfl) hc)
theorem dX16_input_0 : decode cX16_input 0 = .ok (.aload_n 0, 1) := by decide +kernel
theorem dX16_input_1 : decode cX16_input 1 = .ok (.invokevirtual 175, 3) := by decide +kernel
theorem dX16_input_4 : decode cX16_input 4 = .ok (.istore_n 1, 1) := by decide +kernel
theorem dX16_input_5 : decode cX16_input 5 = .ok (.aload_n 0, 1) := by decide +kernel
theorem dX16_input_6 : decode cX16_input 6 = .ok (.invokevirtual 84, 3) := by decide +kernel
theorem dX16_input_9 : decode cX16_input 9 = .ok (.iload_n 1, 1) := by decide +kernel
theorem dX16_input_10 : decode cX16_input 10 = .ok (.ireturn, 1) := by decide +kernel
set_option maxRecDepth 20000 in
theorem a_X16_input_0 {Q : Sg → Int → Prop} {X : Sg → String → Prop} (K : MC R p s m args c cX16_input 2 RX16 D cA tys A n0 s0 8 174 []) (hQ : HQI p l e R s m args below meth c cX16_input D cA A n0 s0 QM dm ra jx rm Q) (hX : HX p l e R s m args below meth c 2 D cA A n0 s0 QM dm ra jx rm X) : ∀ (σ : Sg), w_X16_input_0 ra jx rm Q X σ → RG σ → Shp dm ra jx rm σ → JJ p l e R s m args below meth c 2 D cA A n0 s0 QM σ 0 [(0, .ref rm)] [] := by
  intro σ h hGσ hS H locs ls hH hl hc
  have B := K.1
  unfold w_X16_input_0 at h
  refine lv_aload_n B.1 B.2.1 dX16_input_0 rfl (lv_at hl 0 rfl) ?_
  refine c_V B hH hl hc K.2.2.1 (C := RX16) (T := TX16) (N := 123) (ci := 16) (As := []) (ok_X16_seeInput K.2.1 σ hGσ hS h) wc_X16_175 0 hd_X16_seeInput ⟨Nat.le_trans (Nat.le_of_ble_eq_true rfl) K.2.2.2.1, Nat.le_trans (Nat.le_of_ble_eq_true rfl) K.2.2.2.2.1⟩ hS.1.1 hS.1.2 (by decide) rfl rfl (rest := []) rfl (Nat.le_of_ble_eq_true rfl) dX16_input_1 (fun σ7 w hq => ?_) (fun σ9 E9 hx9 => hX σ9 E9 _ _ _ (tb_out K.2.2.2.2.2 rfl) hx9.1 hx9.2.1 hx9.2.2)
  obtain ⟨r8, rfl, gr8, h, hGσ7, hS⟩ := hq
  intro H locs ls hH hl hc
  refine W.eq (g2 := F0 m 4 ls [.int (i32 r8)]) (rfl) ?_
  try dsimp only at h
  refine lv_istore_n (lv' := [(1, .int (i32 r8)), (0, .ref rm)]) B.1 B.2.1 dX16_input_4 rfl hl (by decide) rfl (fun ls hl => ?_)
  refine lv_aload_n B.1 B.2.1 dX16_input_5 rfl (lv_at hl 1 rfl) ?_
  refine c_V B hH hl hc K.2.2.1 (C := RX16) (T := TX16) (N := 123) (ci := 16) (As := []) (ok_X16_take K.2.1 σ7 hGσ7 hS h) wc_X16_84 0 hd_X16_take ⟨Nat.le_trans (Nat.le_of_ble_eq_true rfl) K.2.2.2.1, Nat.le_trans (Nat.le_of_ble_eq_true rfl) K.2.2.2.2.1⟩ hS.1.1 hS.1.2 (by decide) rfl rfl (rest := []) rfl (Nat.le_of_ble_eq_true rfl) dX16_input_6 (fun σ9 w hq => ?_) (fun σ9 E9 hx9 => hX σ9 E9 _ _ _ (tb_out K.2.2.2.2.2 rfl) hx9.1 hx9.2.1 hx9.2.2)
  obtain ⟨rfl, h, hGσ9, hS⟩ := hq
  intro H locs ls hH hl hc
  refine W.eq (g2 := F0 m 9 ls []) (rfl) ?_
  try dsimp only at h
  refine lv_iload_n B.1 B.2.1 dX16_input_9 rfl (lv_at hl 0 rfl) ?_
  exact hQ _ _ _ _ _ _ gr8 dX16_input_10 hH hc h hGσ9 hS
theorem ok_X16_input (hT : Tys cA tys) {Q : Sg → Int → Prop} {X : Sg → String → Prop} (σ : Sg) (hG : RG σ) (hS : Shp dm ra jx rm σ) (h : wp_X16_input ra jx rm σ Q X) : Ok l D cA tys A yX16_input (.code yX16_input cX16_input 2 (some .int)) 8 174 [.ref rm] σ (QnI dm ra jx rm Q) (QxR dm ra jx rm X) := by
  unfold wp_X16_input at h
  exact ok_I (plainFor_of_name (by decide)) (by exact Nat.le_of_ble_eq_true rfl) hT (fun p e R s m args below meth c K hQ hX H locs ls hH hl hc => a_X16_input_0 K hQ hX σ h hG hS H locs ls hH (lv_sub (l' := [(0, .ref rm)]) hl [0] rfl) hc)
theorem dX16_keyword_0 : decode cX16_keyword 0 = .ok (.aload_n 0, 1) := by decide +kernel
theorem dX16_keyword_1 : decode cX16_keyword 1 = .ok (.aload_n 1, 1) := by decide +kernel
theorem dX16_keyword_2 : decode cX16_keyword 2 = .ok (.invokevirtual 103, 3) := by decide +kernel
theorem dX16_keyword_5 : decode cX16_keyword 5 = .ok (.ifCond .ne 8, 3) := by decide +kernel
theorem dX16_keyword_8 : decode cX16_keyword 8 = .ok (.aload_n 0, 1) := by decide +kernel
theorem dX16_keyword_9 : decode cX16_keyword 9 = .ok (.invokevirtual 80, 3) := by decide +kernel
theorem dX16_keyword_12 : decode cX16_keyword 12 = .ok (.athrow, 1) := by decide +kernel
theorem dX16_keyword_13 : decode cX16_keyword 13 = .ok (.aload_n 0, 1) := by decide +kernel
theorem dX16_keyword_14 : decode cX16_keyword 14 = .ok (.invokevirtual 84, 3) := by decide +kernel
theorem dX16_keyword_17 : decode cX16_keyword 17 = .ok (.return_, 1) := by decide +kernel
set_option maxRecDepth 20000 in
theorem a_X16_keyword_13 {Q : Sg → Unit → Prop} {X : Sg → String → Prop} (K : MC R p s m args c cX16_keyword 2 RX16 D cA tys A n0 s0 6 134 []) (hQ : HQV p l e R s m args below meth c cX16_keyword D cA A n0 s0 QM dm ra jx rm Q) (hX : HX p l e R s m args below meth c 2 D cA A n0 s0 QM dm ra jx rm X) : ∀ (σ : Sg), w_X16_keyword_13 ra jx rm Q X σ → RG σ → Shp dm ra jx rm σ → JJ p l e R s m args below meth c 2 D cA A n0 s0 QM σ 13 [(0, .ref rm)] [] := by
  intro σ h hGσ hS H locs ls hH hl hc
  have B := K.1
  unfold w_X16_keyword_13 at h
  refine lv_aload_n B.1 B.2.1 dX16_keyword_13 rfl (lv_at hl 0 rfl) ?_
  refine c_V B hH hl hc K.2.2.1 (C := RX16) (T := TX16) (N := 123) (ci := 16) (As := []) (ok_X16_take K.2.1 σ hGσ hS h) wc_X16_84 0 hd_X16_take ⟨Nat.le_trans (Nat.le_of_ble_eq_true rfl) K.2.2.2.1, Nat.le_trans (Nat.le_of_ble_eq_true rfl) K.2.2.2.2.1⟩ hS.1.1 hS.1.2 (by decide) rfl rfl (rest := []) rfl (Nat.le_of_ble_eq_true rfl) dX16_keyword_14 (fun σ11 w hq => ?_) (fun σ9 E9 hx9 => hX σ9 E9 _ _ _ (tb_out K.2.2.2.2.2 rfl) hx9.1 hx9.2.1 hx9.2.2)
  obtain ⟨rfl, h, hGσ11, hS⟩ := hq
  intro H locs ls hH hl hc
  refine W.eq (g2 := F0 m 17 ls []) (rfl) ?_
  try dsimp only at h
  exact hQ _ _ _ _ _ dX16_keyword_17 hH hc h hGσ11 hS
set_option maxRecDepth 20000 in
theorem a_X16_keyword_8 {Q : Sg → Unit → Prop} {X : Sg → String → Prop} (K : MC R p s m args c cX16_keyword 2 RX16 D cA tys A n0 s0 6 134 []) (hQ : HQV p l e R s m args below meth c cX16_keyword D cA A n0 s0 QM dm ra jx rm Q) (hX : HX p l e R s m args below meth c 2 D cA A n0 s0 QM dm ra jx rm X) : ∀ (σ : Sg), w_X16_keyword_8 ra jx rm Q X σ → RG σ → Shp dm ra jx rm σ → JJ p l e R s m args below meth c 2 D cA A n0 s0 QM σ 8 [(0, .ref rm)] [] := by
  intro σ h hGσ hS H locs ls hH hl hc
  have B := K.1
  unfold w_X16_keyword_8 at h
  refine lv_aload_n B.1 B.2.1 dX16_keyword_8 rfl (lv_at hl 0 rfl) ?_
  refine c_V B hH hl hc K.2.2.1 (C := RX16) (T := TX16) (N := 123) (ci := 16) (As := []) (ok_X16_misplaced K.2.1 σ hGσ hS h) wc_X16_80 0 hd_X16_misplaced ⟨Nat.le_trans (Nat.le_of_ble_eq_true rfl) K.2.2.2.1, Nat.le_trans (Nat.le_of_ble_eq_true rfl) K.2.2.2.2.1⟩ hS.1.1 hS.1.2 (by decide) rfl rfl (rest := []) rfl (Nat.le_of_ble_eq_true rfl) dX16_keyword_9 (fun σ12 w hq => ?_) (fun σ9 E9 hx9 => hX σ9 E9 _ _ _ (tb_out K.2.2.2.2.2 rfl) hx9.1 hx9.2.1 hx9.2.2)
  obtain ⟨r13, rfl, h, hGσ12, hS⟩ := hq
  intro H locs ls hH hl hc
  refine W.eq (g2 := F0 m 12 ls [va_rf r13]) (rfl) ?_
  try dsimp only at h
  obtain ⟨qt, h⟩ := h
  refine W.eq (g2 := F0 m 12 ls [.ref (ra 1)]) (by rw [qt]; rfl) ?_
  have hx9 := And.intro h (And.intro hGσ12 hS)
  refine h_athrow B hH hl hc (ci := 14) (hS.ob (k := 1) (ci := 14) (by decide)).1 (hS.ob (k := 1) (ci := 14) (by decide)).2 (by decide) rfl dX16_keyword_12 ?_
  exact hX σ12 _ _ _ _ (tb_out K.2.2.2.2.2 rfl) hx9.1 hx9.2.1 hx9.2.2
set_option maxRecDepth 20000 in
theorem a_X16_keyword_0 {Q : Sg → Unit → Prop} {X : Sg → String → Prop} (K : MC R p s m args c cX16_keyword 2 RX16 D cA tys A n0 s0 6 134 []) (hQ : HQV p l e R s m args below meth c cX16_keyword D cA A n0 s0 QM dm ra jx rm Q) (hX : HX p l e R s m args below meth c 2 D cA A n0 s0 QM dm ra jx rm X) : ∀ (σ : Sg) (v1 : Nat) (g1 : strK v1), w_X16_keyword_0 ra jx rm Q X σ v1 → RG σ → Shp dm ra jx rm σ → JJ p l e R s m args below meth c 2 D cA A n0 s0 QM σ 0 [(0, .ref rm), (1, .ref (cA (1000 + v1)))] [] := by
  intro σ v1 g1 h hGσ hS H locs ls hH hl hc
  have B := K.1
  unfold w_X16_keyword_0 at h
  refine lv_aload_n B.1 B.2.1 dX16_keyword_0 rfl (lv_at hl 0 rfl) ?_
  refine lv_aload_n B.1 B.2.1 dX16_keyword_1 rfl (lv_at hl 1 rfl) ?_
  refine c_V B hH hl hc K.2.2.1 (C := RX16) (T := TX16) (N := 123) (ci := 16) (As := [.ref (cA (1000 + v1))]) (ok_X16_isWord K.2.1 σ v1 g1 hGσ hS h) wc_X16_103 1 hd_X16_isWord ⟨Nat.le_trans (Nat.le_of_ble_eq_true rfl) K.2.2.2.1, Nat.le_trans (Nat.le_of_ble_eq_true rfl) K.2.2.2.2.1⟩ hS.1.1 hS.1.2 (by decide) rfl rfl (rest := []) rfl (Nat.le_of_ble_eq_true rfl) dX16_keyword_2 (fun σ14 w hq => ?_) (fun σ9 E9 hx9 => hX σ9 E9 _ _ _ (tb_out K.2.2.2.2.2 rfl) hx9.1 hx9.2.1 hx9.2.2)
  obtain ⟨r15, rfl, ⟨gr15, gzr15⟩, h, hGσ14, hS⟩ := hq
  intro H locs ls hH hl hc
  refine W.eq (g2 := F0 m 5 ls [.int (i32 r15)]) (rfl) ?_
  try dsimp only at h
  refine lv_if_ne (tgt := 13) B.1 B.2.1 dX16_keyword_5 (by decide) (fun h9 => ?_) (fun h9 => ?_)
  · rw [if_pos (fun q => h9 ((z_eq gr15).mpr q))] at h
    exact a_X16_keyword_13 K hQ hX _ h hGσ14 hS _ _ _ hH (lv_sub (l' := [(0, .ref rm)]) hl [0] rfl) hc
  · rw [if_neg (fun q => q ((z_eq gr15).mp h9))] at h
    exact a_X16_keyword_8 K hQ hX _ h hGσ14 hS _ _ _ hH (lv_sub (l' := [(0, .ref rm)]) hl [0] rfl) hc
theorem ok_X16_keyword (hT : Tys cA tys) {Q : Sg → Unit → Prop} {X : Sg → String → Prop} (σ : Sg) (v1 : Nat) (g1 : strK v1) (hG : RG σ) (hS : Shp dm ra jx rm σ) (h : wp_X16_keyword ra jx rm v1 σ Q X) : Ok l D cA tys A yX16_keyword (.code yX16_keyword cX16_keyword 2 none) 6 134 [.ref rm, .ref (cA (1000 + v1))] σ (QnV dm ra jx rm Q) (QxR dm ra jx rm X) := by
  unfold wp_X16_keyword at h
  exact ok_V (plainFor_of_name (by decide)) (by exact Nat.le_of_ble_eq_true rfl) hT (fun p e R s m args below meth c K hQ hX H locs ls hH hl hc => a_X16_keyword_0 K hQ hX σ v1 g1 h hG hS H locs ls hH (lv_sub (l' := [(0, .ref rm), (1, .ref (cA (1000 + v1)))]) hl [0, 1] rfl) hc)
theorem dX16_newColumn_0 : decode cX16_newColumn 0 = .ok (.aload_n 0, 1) := by decide +kernel
theorem dX16_newColumn_1 : decode cX16_newColumn 1 = .ok (.invokevirtual 164, 3) := by decide +kernel
theorem dX16_newColumn_4 : decode cX16_newColumn 4 = .ok (.lstore_n 3, 1) := by decide +kernel
theorem dX16_newColumn_5 : decode cX16_newColumn 5 = .ok (.aload_n 0, 1) := by decide +kernel
theorem dX16_newColumn_6 : decode cX16_newColumn 6 = .ok (.getfield 118, 3) := by decide +kernel
theorem dX16_newColumn_9 : decode cX16_newColumn 9 = .ok (.iload_n 1, 1) := by decide +kernel
theorem dX16_newColumn_10 : decode cX16_newColumn 10 = .ok (.lload_n 3, 1) := by decide +kernel
theorem dX16_newColumn_11 : decode cX16_newColumn 11 = .ok (.invokevirtual 168, 3) := by decide +kernel
theorem dX16_newColumn_14 : decode cX16_newColumn 14 = .ok (.iconst (-1), 1) := by decide +kernel
theorem dX16_newColumn_15 : decode cX16_newColumn 15 = .ok (.if_icmp .eq 10, 3) := by decide +kernel
theorem dX16_newColumn_18 : decode cX16_newColumn 18 = .ok (.aload_n 0, 1) := by decide +kernel
theorem dX16_newColumn_19 : decode cX16_newColumn 19 = .ok (.bipush 6, 2) := by decide +kernel
theorem dX16_newColumn_21 : decode cX16_newColumn 21 = .ok (.invokevirtual 65, 3) := by decide +kernel
theorem dX16_newColumn_24 : decode cX16_newColumn 24 = .ok (.athrow, 1) := by decide +kernel
theorem dX16_newColumn_25 : decode cX16_newColumn 25 = .ok (.aload_n 0, 1) := by decide +kernel
theorem dX16_newColumn_26 : decode cX16_newColumn 26 = .ok (.getfield 118, 3) := by decide +kernel
theorem dX16_newColumn_29 : decode cX16_newColumn 29 = .ok (.getfield 178, 3) := by decide +kernel
theorem dX16_newColumn_32 : decode cX16_newColumn 32 = .ok (.iload_n 1, 1) := by decide +kernel
theorem dX16_newColumn_33 : decode cX16_newColumn 33 = .ok (.iaload, 1) := by decide +kernel
theorem dX16_newColumn_34 : decode cX16_newColumn 34 = .ok (.iload_n 2, 1) := by decide +kernel
theorem dX16_newColumn_35 : decode cX16_newColumn 35 = .ok (.if_icmp .ne 10, 3) := by decide +kernel
theorem dX16_newColumn_38 : decode cX16_newColumn 38 = .ok (.aload_n 0, 1) := by decide +kernel
theorem dX16_newColumn_39 : decode cX16_newColumn 39 = .ok (.bipush 8, 2) := by decide +kernel
theorem dX16_newColumn_41 : decode cX16_newColumn 41 = .ok (.invokevirtual 65, 3) := by decide +kernel
theorem dX16_newColumn_44 : decode cX16_newColumn 44 = .ok (.athrow, 1) := by decide +kernel
theorem dX16_newColumn_45 : decode cX16_newColumn 45 = .ok (.aload_n 0, 1) := by decide +kernel
theorem dX16_newColumn_46 : decode cX16_newColumn 46 = .ok (.getfield 118, 3) := by decide +kernel
theorem dX16_newColumn_49 : decode cX16_newColumn 49 = .ok (.iload_n 1, 1) := by decide +kernel
theorem dX16_newColumn_50 : decode cX16_newColumn 50 = .ok (.lload_n 3, 1) := by decide +kernel
theorem dX16_newColumn_51 : decode cX16_newColumn 51 = .ok (.invokevirtual 182, 3) := by decide +kernel
theorem dX16_newColumn_54 : decode cX16_newColumn 54 = .ok (.aload_n 0, 1) := by decide +kernel
theorem dX16_newColumn_55 : decode cX16_newColumn 55 = .ok (.invokevirtual 84, 3) := by decide +kernel
theorem dX16_newColumn_58 : decode cX16_newColumn 58 = .ok (.return_, 1) := by decide +kernel
set_option maxRecDepth 20000 in
theorem a_X16_newColumn_45 {Q : Sg → Unit → Prop} {X : Sg → String → Prop} (K : MC R p s m args c cX16_newColumn 5 RX16 D cA tys A n0 s0 7 153 []) (hQ : HQV p l e R s m args below meth c cX16_newColumn D cA A n0 s0 QM dm ra jx rm Q) (hX : HX p l e R s m args below meth c 5 D cA A n0 s0 QM dm ra jx rm X) : ∀ (σ : Sg) (v1 : Int) (v3 : Int64) (g1 : rng v1), w_X16_newColumn_45 ra jx rm Q X σ v1 v3 → RG σ → Shp dm ra jx rm σ → JJ p l e R s m args below meth c 5 D cA A n0 s0 QM σ 45 [(0, .ref rm), (1, .int (i32 v1)), (3, .long v3)] [] := by
  intro σ v1 v3 g1 h hGσ hS H locs ls hH hl hc
  have B := K.1
  unfold w_X16_newColumn_45 at h
  refine lv_aload_n B.1 B.2.1 dX16_newColumn_45 rfl (lv_at hl 0 rfl) ?_
  refine r_getp B hH hS 18 (by decide) wf_X16_118 rfl rfl dX16_newColumn_46 ?_
  refine lv_iload_n B.1 B.2.1 dX16_newColumn_49 rfl (lv_at hl 1 rfl) ?_
  refine lv_lload_n B.1 B.2.1 dX16_newColumn_50 rfl (lv_at hl 2 rfl) ?_
  obtain ⟨a27, ea27, ja27, h⟩ := h
  refine W.eq (g2 := F0 m 51 ls [.long v3, .int (i32 v1), .ref a27]) (by rw [ea27]; rfl) ?_
  refine c_V B hH hl hc K.2.2.1 (C := RX15) (T := TX15) (N := 20) (ci := 15) (As := [.int (i32 v1), .long v3]) (ok_X15_add ja27 K.2.1 σ v1 v3 g1 hGσ hS h) wc_X16_182 2 hd_X15_add ⟨Nat.le_trans (Nat.le_of_ble_eq_true rfl) K.2.2.2.1, Nat.le_trans (Nat.le_of_ble_eq_true rfl) K.2.2.2.2.1⟩ (hS.jb ja27).1 (hS.jb ja27).2 (by decide) rfl rfl (rest := []) rfl (Nat.le_of_ble_eq_true rfl) dX16_newColumn_51 (fun σ28 w hq => ?_) (fun σ9 E9 hx9 => hX σ9 E9 _ _ _ (tb_out K.2.2.2.2.2 rfl) hx9.1 hx9.2.1 hx9.2.2)
  obtain ⟨rfl, h, hGσ28, hS⟩ := hq
  intro H locs ls hH hl hc
  refine W.eq (g2 := F0 m 54 ls []) (rfl) ?_
  try dsimp only at h
  refine lv_aload_n B.1 B.2.1 dX16_newColumn_54 rfl (lv_at hl 0 rfl) ?_
  refine c_V B hH hl hc K.2.2.1 (C := RX16) (T := TX16) (N := 123) (ci := 16) (As := []) (ok_X16_take K.2.1 σ28 hGσ28 hS h) wc_X16_84 0 hd_X16_take ⟨Nat.le_trans (Nat.le_of_ble_eq_true rfl) K.2.2.2.1, Nat.le_trans (Nat.le_of_ble_eq_true rfl) K.2.2.2.2.1⟩ hS.1.1 hS.1.2 (by decide) rfl rfl (rest := []) rfl (Nat.le_of_ble_eq_true rfl) dX16_newColumn_55 (fun σ29 w hq => ?_) (fun σ9 E9 hx9 => hX σ9 E9 _ _ _ (tb_out K.2.2.2.2.2 rfl) hx9.1 hx9.2.1 hx9.2.2)
  obtain ⟨rfl, h, hGσ29, hS⟩ := hq
  intro H locs ls hH hl hc
  refine W.eq (g2 := F0 m 58 ls []) (rfl) ?_
  try dsimp only at h
  exact hQ _ _ _ _ _ dX16_newColumn_58 hH hc h hGσ29 hS
set_option maxRecDepth 20000 in
theorem a_X16_newColumn_38 {Q : Sg → Unit → Prop} {X : Sg → String → Prop} (K : MC R p s m args c cX16_newColumn 5 RX16 D cA tys A n0 s0 7 153 []) (hQ : HQV p l e R s m args below meth c cX16_newColumn D cA A n0 s0 QM dm ra jx rm Q) (hX : HX p l e R s m args below meth c 5 D cA A n0 s0 QM dm ra jx rm X) : ∀ (σ : Sg), w_X16_newColumn_38 ra jx rm Q X σ → RG σ → Shp dm ra jx rm σ → JJ p l e R s m args below meth c 5 D cA A n0 s0 QM σ 38 [(0, .ref rm)] [] := by
  intro σ h hGσ hS H locs ls hH hl hc
  have B := K.1
  unfold w_X16_newColumn_38 at h
  refine lv_aload_n B.1 B.2.1 dX16_newColumn_38 rfl (lv_at hl 0 rfl) ?_
  refine lv_bipush (v := i32 8) B.1 B.2.1 dX16_newColumn_39 (by decide) ?_
  refine c_V B hH hl hc K.2.2.1 (C := RX16) (T := TX16) (N := 123) (ci := 16) (As := [.int (i32 8)]) (ok_X16_fail K.2.1 σ 8 (by unfold rng; omega) hGσ hS h) wc_X16_65 1 hd_X16_fail ⟨Nat.le_trans (Nat.le_of_ble_eq_true rfl) K.2.2.2.1, Nat.le_trans (Nat.le_of_ble_eq_true rfl) K.2.2.2.2.1⟩ hS.1.1 hS.1.2 (by decide) rfl rfl (rest := []) rfl (Nat.le_of_ble_eq_true rfl) dX16_newColumn_41 (fun σ30 w hq => ?_) (fun σ9 E9 hx9 => hX σ9 E9 _ _ _ (tb_out K.2.2.2.2.2 rfl) hx9.1 hx9.2.1 hx9.2.2)
  obtain ⟨r31, rfl, h, hGσ30, hS⟩ := hq
  intro H locs ls hH hl hc
  refine W.eq (g2 := F0 m 44 ls [va_rf r31]) (rfl) ?_
  try dsimp only at h
  obtain ⟨qt, h⟩ := h
  refine W.eq (g2 := F0 m 44 ls [.ref (ra 1)]) (by rw [qt]; rfl) ?_
  have hx9 := And.intro h (And.intro hGσ30 hS)
  refine h_athrow B hH hl hc (ci := 14) (hS.ob (k := 1) (ci := 14) (by decide)).1 (hS.ob (k := 1) (ci := 14) (by decide)).2 (by decide) rfl dX16_newColumn_44 ?_
  exact hX σ30 _ _ _ _ (tb_out K.2.2.2.2.2 rfl) hx9.1 hx9.2.1 hx9.2.2
set_option maxRecDepth 20000 in
theorem a_X16_newColumn_25 {Q : Sg → Unit → Prop} {X : Sg → String → Prop} (K : MC R p s m args c cX16_newColumn 5 RX16 D cA tys A n0 s0 7 153 []) (hQ : HQV p l e R s m args below meth c cX16_newColumn D cA A n0 s0 QM dm ra jx rm Q) (hX : HX p l e R s m args below meth c 5 D cA A n0 s0 QM dm ra jx rm X) : ∀ (σ : Sg) (v1 : Int) (v2 : Int) (v3 : Int64) (g1 : rng v1) (g2 : rng v2), w_X16_newColumn_25 ra jx rm Q X σ v1 v2 v3 → RG σ → Shp dm ra jx rm σ → JJ p l e R s m args below meth c 5 D cA A n0 s0 QM σ 25 [(0, .ref rm), (1, .int (i32 v1)), (2, .int (i32 v2)), (3, .long v3)] [] := by
  intro σ v1 v2 v3 g1 g2 h hGσ hS H locs ls hH hl hc
  have B := K.1
  unfold w_X16_newColumn_25 at h
  refine lv_aload_n B.1 B.2.1 dX16_newColumn_25 rfl (lv_at hl 0 rfl) ?_
  refine r_getp B hH hS 18 (by decide) wf_X16_118 rfl rfl dX16_newColumn_26 ?_
  obtain ⟨a32, ea32, ja32, h⟩ := h
  refine W.eq (g2 := F0 m 29 ls [.ref a32]) (by rw [ea32]; rfl) ?_
  refine n_arr B hH hS ja32 6 (kd := 100) (n := 16) (by decide) (by decide) (List.mem_of_getElem? (i := 6) rfl) rfl dX16_newColumn_29 ?_
  refine lv_iload_n B.1 B.2.1 dX16_newColumn_32 rfl (lv_at hl 1 rfl) ?_
  obtain ⟨q2, h⟩ := h
  refine x_iald B K.2.1 hH (hS.ja ja32 (k := 6) (kd := 100) (n := 16) (by decide)) (by decide) q2 dX16_newColumn_33 ?_
  refine lv_iload_n B.1 B.2.1 dX16_newColumn_34 rfl (lv_at hl 2 rfl) ?_
  refine lv_icmp_ne (tgt := 45) B.1 B.2.1 dX16_newColumn_35 (by decide) (fun h9 => ?_) (fun h9 => ?_)
  · rw [if_pos (fun q => h9 ((i32_eq (hGσ _ _) g2).mpr q))] at h
    exact a_X16_newColumn_45 K hQ hX _ _ _ g1 h hGσ hS _ _ _ hH (lv_sub (l' := [(0, .ref rm), (1, .int (i32 v1)), (3, .long v3)]) hl [0, 1, 3] rfl) hc
  · rw [if_neg (fun q => q ((i32_eq (hGσ _ _) g2).mp h9))] at h
    exact a_X16_newColumn_38 K hQ hX _ h hGσ hS _ _ _ hH (lv_sub (l' := [(0, .ref rm)]) hl [0] rfl) hc
set_option maxRecDepth 20000 in
theorem a_X16_newColumn_18 {Q : Sg → Unit → Prop} {X : Sg → String → Prop} (K : MC R p s m args c cX16_newColumn 5 RX16 D cA tys A n0 s0 7 153 []) (hQ : HQV p l e R s m args below meth c cX16_newColumn D cA A n0 s0 QM dm ra jx rm Q) (hX : HX p l e R s m args below meth c 5 D cA A n0 s0 QM dm ra jx rm X) : ∀ (σ : Sg), w_X16_newColumn_18 ra jx rm Q X σ → RG σ → Shp dm ra jx rm σ → JJ p l e R s m args below meth c 5 D cA A n0 s0 QM σ 18 [(0, .ref rm)] [] := by
  intro σ h hGσ hS H locs ls hH hl hc
  have B := K.1
  unfold w_X16_newColumn_18 at h
  refine lv_aload_n B.1 B.2.1 dX16_newColumn_18 rfl (lv_at hl 0 rfl) ?_
  refine lv_bipush (v := i32 6) B.1 B.2.1 dX16_newColumn_19 (by decide) ?_
  refine c_V B hH hl hc K.2.2.1 (C := RX16) (T := TX16) (N := 123) (ci := 16) (As := [.int (i32 6)]) (ok_X16_fail K.2.1 σ 6 (by unfold rng; omega) hGσ hS h) wc_X16_65 1 hd_X16_fail ⟨Nat.le_trans (Nat.le_of_ble_eq_true rfl) K.2.2.2.1, Nat.le_trans (Nat.le_of_ble_eq_true rfl) K.2.2.2.2.1⟩ hS.1.1 hS.1.2 (by decide) rfl rfl (rest := []) rfl (Nat.le_of_ble_eq_true rfl) dX16_newColumn_21 (fun σ33 w hq => ?_) (fun σ9 E9 hx9 => hX σ9 E9 _ _ _ (tb_out K.2.2.2.2.2 rfl) hx9.1 hx9.2.1 hx9.2.2)
  obtain ⟨r34, rfl, h, hGσ33, hS⟩ := hq
  intro H locs ls hH hl hc
  refine W.eq (g2 := F0 m 24 ls [va_rf r34]) (rfl) ?_
  try dsimp only at h
  obtain ⟨qt, h⟩ := h
  refine W.eq (g2 := F0 m 24 ls [.ref (ra 1)]) (by rw [qt]; rfl) ?_
  have hx9 := And.intro h (And.intro hGσ33 hS)
  refine h_athrow B hH hl hc (ci := 14) (hS.ob (k := 1) (ci := 14) (by decide)).1 (hS.ob (k := 1) (ci := 14) (by decide)).2 (by decide) rfl dX16_newColumn_24 ?_
  exact hX σ33 _ _ _ _ (tb_out K.2.2.2.2.2 rfl) hx9.1 hx9.2.1 hx9.2.2
set_option maxRecDepth 20000 in
theorem a_X16_newColumn_0 {Q : Sg → Unit → Prop} {X : Sg → String → Prop} (K : MC R p s m args c cX16_newColumn 5 RX16 D cA tys A n0 s0 7 153 []) (hQ : HQV p l e R s m args below meth c cX16_newColumn D cA A n0 s0 QM dm ra jx rm Q) (hX : HX p l e R s m args below meth c 5 D cA A n0 s0 QM dm ra jx rm X) : ∀ (σ : Sg) (v1 : Int) (v2 : Int) (g1 : rng v1) (g2 : rng v2), w_X16_newColumn_0 ra jx rm Q X σ v1 v2 → RG σ → Shp dm ra jx rm σ → JJ p l e R s m args below meth c 5 D cA A n0 s0 QM σ 0 [(0, .ref rm), (1, .int (i32 v1)), (2, .int (i32 v2))] [] := by
  intro σ v1 v2 g1 g2 h hGσ hS H locs ls hH hl hc
  have B := K.1
  unfold w_X16_newColumn_0 at h
  refine lv_aload_n B.1 B.2.1 dX16_newColumn_0 rfl (lv_at hl 0 rfl) ?_
  refine c_V B hH hl hc K.2.2.1 (C := RX16) (T := TX16) (N := 123) (ci := 16) (As := []) (ok_X16_seeName K.2.1 σ hGσ hS h) wc_X16_164 0 hd_X16_seeName ⟨Nat.le_trans (Nat.le_of_ble_eq_true rfl) K.2.2.2.1, Nat.le_trans (Nat.le_of_ble_eq_true rfl) K.2.2.2.2.1⟩ hS.1.1 hS.1.2 (by decide) rfl rfl (rest := []) rfl (Nat.le_of_ble_eq_true rfl) dX16_newColumn_1 (fun σ35 w hq => ?_) (fun σ9 E9 hx9 => hX σ9 E9 _ _ _ (tb_out K.2.2.2.2.2 rfl) hx9.1 hx9.2.1 hx9.2.2)
  obtain ⟨r36, rfl, h, hGσ35, hS⟩ := hq
  intro H locs ls hH hl hc
  refine W.eq (g2 := F0 m 4 ls [.long r36]) (rfl) ?_
  try dsimp only at h
  refine lv_lstore_n (lv' := [(3, .long r36), (0, .ref rm), (1, .int (i32 v1)), (2, .int (i32 v2))]) B.1 B.2.1 dX16_newColumn_4 rfl hl (by decide) rfl (fun ls hl => ?_)
  refine lv_aload_n B.1 B.2.1 dX16_newColumn_5 rfl (lv_at hl 1 rfl) ?_
  refine r_getp B hH hS 18 (by decide) wf_X16_118 rfl rfl dX16_newColumn_6 ?_
  refine lv_iload_n B.1 B.2.1 dX16_newColumn_9 rfl (lv_at hl 2 rfl) ?_
  refine lv_lload_n B.1 B.2.1 dX16_newColumn_10 rfl (lv_at hl 0 rfl) ?_
  obtain ⟨a37, ea37, ja37, h⟩ := h
  refine W.eq (g2 := F0 m 11 ls [.long r36, .int (i32 v1), .ref a37]) (by rw [ea37]; rfl) ?_
  refine c_V B hH hl hc K.2.2.1 (C := RX15) (T := TX15) (N := 20) (ci := 15) (As := [.int (i32 v1), .long r36]) (ok_X15_column ja37 K.2.1 σ35 v1 r36 g1 hGσ35 hS h) wc_X16_168 2 hd_X15_column ⟨Nat.le_trans (Nat.le_of_ble_eq_true rfl) K.2.2.2.1, Nat.le_trans (Nat.le_of_ble_eq_true rfl) K.2.2.2.2.1⟩ (hS.jb ja37).1 (hS.jb ja37).2 (by decide) rfl rfl (rest := []) rfl (Nat.le_of_ble_eq_true rfl) dX16_newColumn_11 (fun σ38 w hq => ?_) (fun σ9 E9 hx9 => hX σ9 E9 _ _ _ (tb_out K.2.2.2.2.2 rfl) hx9.1 hx9.2.1 hx9.2.2)
  obtain ⟨r39, rfl, gr39, h, hGσ38, hS⟩ := hq
  intro H locs ls hH hl hc
  refine W.eq (g2 := F0 m 14 ls [.int (i32 r39)]) (rfl) ?_
  try dsimp only at h
  refine lv_iconst (v := i32 (-1)) B.1 B.2.1 dX16_newColumn_14 (by decide) ?_
  refine lv_icmp_eq (tgt := 25) B.1 B.2.1 dX16_newColumn_15 (by decide) (fun h9 => ?_) (fun h9 => ?_)
  · rw [if_pos ((i32_eq gr39 (by unfold rng; omega)).mp h9)] at h
    exact a_X16_newColumn_25 K hQ hX _ _ _ _ g1 g2 h hGσ38 hS _ _ _ hH (lv_sub (l' := [(0, .ref rm), (1, .int (i32 v1)), (2, .int (i32 v2)), (3, .long r36)]) hl [1, 2, 3, 0] rfl) hc
  · rw [if_neg (fun q => h9 ((i32_eq gr39 (by unfold rng; omega)).mpr q))] at h
    exact a_X16_newColumn_18 K hQ hX _ h hGσ38 hS _ _ _ hH (lv_sub (l' := [(0, .ref rm)]) hl [1] rfl) hc
theorem ok_X16_newColumn (hT : Tys cA tys) {Q : Sg → Unit → Prop} {X : Sg → String → Prop} (σ : Sg) (v1 : Int) (v2 : Int) (g1 : rng v1) (g2 : rng v2) (hG : RG σ) (hS : Shp dm ra jx rm σ) (h : wp_X16_newColumn ra jx rm v1 v2 σ Q X) : Ok l D cA tys A yX16_newColumn (.code yX16_newColumn cX16_newColumn 5 none) 7 153 [.ref rm, .int (i32 v1), .int (i32 v2)] σ (QnV dm ra jx rm Q) (QxR dm ra jx rm X) := by
  unfold wp_X16_newColumn at h
  exact ok_V (plainFor_of_name (by decide)) (by exact Nat.le_of_ble_eq_true rfl) hT (fun p e R s m args below meth c K hQ hX H locs ls hH hl hc => a_X16_newColumn_0 K hQ hX σ v1 v2 g1 g2 h hG hS H locs ls hH (lv_sub (l' := [(0, .ref rm), (1, .int (i32 v1)), (2, .int (i32 v2))]) hl [0, 1, 2] rfl) hc)
theorem dX16_value_0 : decode cX16_value 0 = .ok (.aload_n 0, 1) := by decide +kernel
theorem dX16_value_1 : decode cX16_value 1 = .ok (.getfield 118, 3) := by decide +kernel
theorem dX16_value_4 : decode cX16_value 4 = .ok (.getfield 122, 3) := by decide +kernel
theorem dX16_value_7 : decode cX16_value 7 = .ok (.istore_n 2, 1) := by decide +kernel
theorem dX16_value_8 : decode cX16_value 8 = .ok (.aload_n 0, 1) := by decide +kernel
theorem dX16_value_9 : decode cX16_value 9 = .ok (.iload_n 1, 1) := by decide +kernel
theorem dX16_value_10 : decode cX16_value 10 = .ok (.invokevirtual 127, 3) := by decide +kernel
theorem dX16_value_13 : decode cX16_value 13 = .ok (.aload_n 0, 1) := by decide +kernel
theorem dX16_value_14 : decode cX16_value 14 = .ok (.getfield 118, 3) := by decide +kernel
theorem dX16_value_17 : decode cX16_value 17 = .ok (.bipush 17, 2) := by decide +kernel
theorem dX16_value_19 : decode cX16_value 19 = .ok (.lconst 0, 1) := by decide +kernel
theorem dX16_value_20 : decode cX16_value 20 = .ok (.invokevirtual 131, 3) := by decide +kernel
theorem dX16_value_23 : decode cX16_value 23 = .ok (.pop, 1) := by decide +kernel
theorem dX16_value_24 : decode cX16_value 24 = .ok (.iload_n 2, 1) := by decide +kernel
theorem dX16_value_25 : decode cX16_value 25 = .ok (.ireturn, 1) := by decide +kernel
set_option maxRecDepth 20000 in
theorem a_X16_value_0 {Q : Sg → Int → Prop} {X : Sg → String → Prop} (K : MC R p s m args c cX16_value 3 RX16 D cA tys A n0 s0 141 10023 []) (hQ : HQI p l e R s m args below meth c cX16_value D cA A n0 s0 QM dm ra jx rm Q) (hX : HX p l e R s m args below meth c 3 D cA A n0 s0 QM dm ra jx rm X) : ∀ (σ : Sg) (v1 : Int) (g1 : rng v1), w_X16_value_0 ra jx rm Q X σ v1 → RG σ → Shp dm ra jx rm σ → JJ p l e R s m args below meth c 3 D cA A n0 s0 QM σ 0 [(0, .ref rm), (1, .int (i32 v1))] [] := by
  intro σ v1 g1 h hGσ hS H locs ls hH hl hc
  have B := K.1
  unfold w_X16_value_0 at h
  refine lv_aload_n B.1 B.2.1 dX16_value_0 rfl (lv_at hl 0 rfl) ?_
  refine r_getp B hH hS 18 (by decide) wf_X16_118 rfl rfl dX16_value_1 ?_
  obtain ⟨a11, ea11, ja11, h⟩ := h
  refine W.eq (g2 := F0 m 4 ls [.ref a11]) (by rw [ea11]; rfl) ?_
  refine n_geti B hH hS ja11 17 (by decide) (List.mem_of_getElem? (i := 17) rfl) rfl dX16_value_4 ?_
  refine lv_istore_n (lv' := [(2, .int (i32 (gI σ a11 17))), (0, .ref rm), (1, .int (i32 v1))]) B.1 B.2.1 dX16_value_7 rfl hl (by decide) rfl (fun ls hl => ?_)
  refine lv_aload_n B.1 B.2.1 dX16_value_8 rfl (lv_at hl 1 rfl) ?_
  refine lv_iload_n B.1 B.2.1 dX16_value_9 rfl (lv_at hl 2 rfl) ?_
  refine c_V B hH hl hc K.2.2.1 (C := RX16) (T := TX16) (N := 123) (ci := 16) (As := [.int (i32 v1)]) (ok_X16_choice K.2.1 σ v1 g1 hGσ hS h) wc_X16_127 1 hd_X16_choice ⟨Nat.le_trans (Nat.le_of_ble_eq_true rfl) K.2.2.2.1, Nat.le_trans (Nat.le_of_ble_eq_true rfl) K.2.2.2.2.1⟩ hS.1.1 hS.1.2 (by decide) rfl rfl (rest := []) rfl (Nat.le_of_ble_eq_true rfl) dX16_value_10 (fun σ12 w hq => ?_) (fun σ9 E9 hx9 => hX σ9 E9 _ _ _ (tb_out K.2.2.2.2.2 rfl) hx9.1 hx9.2.1 hx9.2.2)
  obtain ⟨rfl, h, hGσ12, hS⟩ := hq
  intro H locs ls hH hl hc
  refine W.eq (g2 := F0 m 13 ls []) (rfl) ?_
  try dsimp only at h
  refine lv_aload_n B.1 B.2.1 dX16_value_13 rfl (lv_at hl 1 rfl) ?_
  refine r_getp B hH hS 18 (by decide) wf_X16_118 rfl rfl dX16_value_14 ?_
  refine lv_bipush (v := i32 17) B.1 B.2.1 dX16_value_17 (by decide) ?_
  refine lv_lconst (v := 0) B.1 B.2.1 dX16_value_19 (by decide) ?_
  obtain ⟨a13, ea13, ja13, h⟩ := h
  refine W.eq (g2 := F0 m 20 ls [.long 0, .int (i32 17), .ref a13]) (by rw [ea13]; rfl) ?_
  refine c_V B hH hl hc K.2.2.1 (C := RX15) (T := TX15) (N := 20) (ci := 15) (As := [.int (i32 17), .long 0]) (ok_X15_step ja13 K.2.1 σ12 17 0 (by unfold rng; omega) hGσ12 hS h) wc_X16_131 2 hd_X15_step ⟨Nat.le_trans (Nat.le_of_ble_eq_true rfl) K.2.2.2.1, Nat.le_trans (Nat.le_of_ble_eq_true rfl) K.2.2.2.2.1⟩ (hS.jb ja13).1 (hS.jb ja13).2 (by decide) rfl rfl (rest := []) rfl (Nat.le_of_ble_eq_true rfl) dX16_value_20 (fun σ14 w hq => ?_) (fun σ9 E9 hx9 => hX σ9 E9 _ _ _ (tb_out K.2.2.2.2.2 rfl) hx9.1 hx9.2.1 hx9.2.2)
  obtain ⟨r15, rfl, gr15, h, hGσ14, hS⟩ := hq
  intro H locs ls hH hl hc
  refine W.eq (g2 := F0 m 23 ls [.int (i32 r15)]) (rfl) ?_
  try dsimp only at h
  refine lv_pop B.1 B.2.1 dX16_value_23 rfl ?_
  refine lv_iload_n B.1 B.2.1 dX16_value_24 rfl (lv_at hl 0 rfl) ?_
  exact hQ _ _ _ _ _ _ (hGσ _ _) dX16_value_25 hH hc h hGσ14 hS
theorem ok_X16_value (hT : Tys cA tys) {Q : Sg → Int → Prop} {X : Sg → String → Prop} (σ : Sg) (v1 : Int) (g1 : rng v1) (hG : RG σ) (hS : Shp dm ra jx rm σ) (h : wp_X16_value ra jx rm v1 σ Q X) : Ok l D cA tys A yX16_value (.code yX16_value cX16_value 3 (some .int)) 141 10023 [.ref rm, .int (i32 v1)] σ (QnI dm ra jx rm Q) (QxR dm ra jx rm X) := by
  unfold wp_X16_value at h
  exact ok_I (plainFor_of_name (by decide)) (by exact Nat.le_of_ble_eq_true rfl) hT (fun p e R s m args below meth c K hQ hX H locs ls hH hl hc => a_X16_value_0 K hQ hX σ v1 g1 h hG hS H locs ls hH (lv_sub (l' := [(0, .ref rm), (1, .int (i32 v1))]) hl [0, 1] rfl) hc)
theorem dX16_fold_0 : decode cX16_fold 0 = .ok (.aload_n 0, 1) := by decide +kernel
theorem dX16_fold_1 : decode cX16_fold 1 = .ok (.invokevirtual 213, 3) := by decide +kernel
theorem dX16_fold_4 : decode cX16_fold 4 = .ok (.istore_n 2, 1) := by decide +kernel
theorem dX16_fold_5 : decode cX16_fold 5 = .ok (.aload_n 0, 1) := by decide +kernel
theorem dX16_fold_6 : decode cX16_fold 6 = .ok (.getfield 118, 3) := by decide +kernel
theorem dX16_fold_9 : decode cX16_fold 9 = .ok (.getfield 216, 3) := by decide +kernel
theorem dX16_fold_12 : decode cX16_fold 12 = .ok (.iload_n 1, 1) := by decide +kernel
theorem dX16_fold_13 : decode cX16_fold 13 = .ok (.iload_n 2, 1) := by decide +kernel
theorem dX16_fold_14 : decode cX16_fold 14 = .ok (.iastore, 1) := by decide +kernel
theorem dX16_fold_15 : decode cX16_fold 15 = .ok (.aload_n 0, 1) := by decide +kernel
theorem dX16_fold_16 : decode cX16_fold 16 = .ok (.ldc 237, 2) := by decide +kernel
theorem dX16_fold_18 : decode cX16_fold 18 = .ok (.invokevirtual 200, 3) := by decide +kernel
theorem dX16_fold_21 : decode cX16_fold 21 = .ok (.aload_n 0, 1) := by decide +kernel
theorem dX16_fold_22 : decode cX16_fold 22 = .ok (.getfield 118, 3) := by decide +kernel
theorem dX16_fold_25 : decode cX16_fold 25 = .ok (.getfield 239, 3) := by decide +kernel
theorem dX16_fold_28 : decode cX16_fold 28 = .ok (.iload_n 1, 1) := by decide +kernel
theorem dX16_fold_29 : decode cX16_fold 29 = .ok (.aload_n 0, 1) := by decide +kernel
theorem dX16_fold_30 : decode cX16_fold 30 = .ok (.iload_n 2, 1) := by decide +kernel
theorem dX16_fold_31 : decode cX16_fold 31 = .ok (.invokevirtual 241, 3) := by decide +kernel
theorem dX16_fold_34 : decode cX16_fold 34 = .ok (.iastore, 1) := by decide +kernel
theorem dX16_fold_35 : decode cX16_fold 35 = .ok (.aload_n 0, 1) := by decide +kernel
theorem dX16_fold_36 : decode cX16_fold 36 = .ok (.getfield 118, 3) := by decide +kernel
theorem dX16_fold_39 : decode cX16_fold 39 = .ok (.iload_n 1, 1) := by decide +kernel
theorem dX16_fold_40 : decode cX16_fold 40 = .ok (.aload_n 0, 1) := by decide +kernel
theorem dX16_fold_41 : decode cX16_fold 41 = .ok (.getfield 118, 3) := by decide +kernel
theorem dX16_fold_44 : decode cX16_fold 44 = .ok (.getfield 228, 3) := by decide +kernel
theorem dX16_fold_47 : decode cX16_fold 47 = .ok (.bipush 9, 2) := by decide +kernel
theorem dX16_fold_49 : decode cX16_fold 49 = .ok (.iload_n 2, 1) := by decide +kernel
theorem dX16_fold_50 : decode cX16_fold 50 = .ok (.imul, 1) := by decide +kernel
theorem dX16_fold_51 : decode cX16_fold 51 = .ok (.aload_n 0, 1) := by decide +kernel
theorem dX16_fold_52 : decode cX16_fold 52 = .ok (.getfield 118, 3) := by decide +kernel
theorem dX16_fold_55 : decode cX16_fold 55 = .ok (.getfield 239, 3) := by decide +kernel
theorem dX16_fold_58 : decode cX16_fold 58 = .ok (.iload_n 1, 1) := by decide +kernel
theorem dX16_fold_59 : decode cX16_fold 59 = .ok (.iaload, 1) := by decide +kernel
theorem dX16_fold_60 : decode cX16_fold 60 = .ok (.iadd, 1) := by decide +kernel
theorem dX16_fold_61 : decode cX16_fold 61 = .ok (.laload, 1) := by decide +kernel
theorem dX16_fold_62 : decode cX16_fold 62 = .ok (.invokevirtual 182, 3) := by decide +kernel
theorem dX16_fold_65 : decode cX16_fold 65 = .ok (.aload_n 0, 1) := by decide +kernel
theorem dX16_fold_66 : decode cX16_fold 66 = .ok (.ldc 244, 2) := by decide +kernel
theorem dX16_fold_68 : decode cX16_fold 68 = .ok (.invokevirtual 103, 3) := by decide +kernel
theorem dX16_fold_71 : decode cX16_fold 71 = .ok (.ifCond .eq 131, 3) := by decide +kernel
theorem dX16_fold_74 : decode cX16_fold 74 = .ok (.aload_n 0, 1) := by decide +kernel
theorem dX16_fold_75 : decode cX16_fold 75 = .ok (.invokevirtual 84, 3) := by decide +kernel
theorem dX16_fold_78 : decode cX16_fold 78 = .ok (.aload_n 0, 1) := by decide +kernel
theorem dX16_fold_79 : decode cX16_fold 79 = .ok (.getfield 118, 3) := by decide +kernel
theorem dX16_fold_82 : decode cX16_fold 82 = .ok (.getfield 246, 3) := by decide +kernel
theorem dX16_fold_85 : decode cX16_fold 85 = .ok (.iload_n 1, 1) := by decide +kernel
theorem dX16_fold_86 : decode cX16_fold 86 = .ok (.iconst 4, 1) := by decide +kernel
theorem dX16_fold_87 : decode cX16_fold 87 = .ok (.iastore, 1) := by decide +kernel
theorem dX16_fold_88 : decode cX16_fold 88 = .ok (.aload_n 0, 1) := by decide +kernel
theorem dX16_fold_89 : decode cX16_fold 89 = .ok (.getfield 118, 3) := by decide +kernel
theorem dX16_fold_92 : decode cX16_fold 92 = .ok (.getfield 191, 3) := by decide +kernel
theorem dX16_fold_95 : decode cX16_fold 95 = .ok (.iload_n 1, 1) := by decide +kernel
theorem dX16_fold_96 : decode cX16_fold 96 = .ok (.aload_n 0, 1) := by decide +kernel
theorem dX16_fold_97 : decode cX16_fold 97 = .ok (.lconst 1, 1) := by decide +kernel
theorem dX16_fold_98 : decode cX16_fold 98 = .ok (.ldc2_w 207, 3) := by decide +kernel
theorem dX16_fold_101 : decode cX16_fold 101 = .ok (.invokevirtual 209, 3) := by decide +kernel
theorem dX16_fold_104 : decode cX16_fold 104 = .ok (.lastore, 1) := by decide +kernel
theorem dX16_fold_105 : decode cX16_fold 105 = .ok (.aload_n 0, 1) := by decide +kernel
theorem dX16_fold_106 : decode cX16_fold 106 = .ok (.ldc 249, 2) := by decide +kernel
theorem dX16_fold_108 : decode cX16_fold 108 = .ok (.invokevirtual 200, 3) := by decide +kernel
theorem dX16_fold_111 : decode cX16_fold 111 = .ok (.aload_n 0, 1) := by decide +kernel
theorem dX16_fold_112 : decode cX16_fold 112 = .ok (.invokevirtual 76, 3) := by decide +kernel
theorem dX16_fold_115 : decode cX16_fold 115 = .ok (.aload_n 0, 1) := by decide +kernel
theorem dX16_fold_116 : decode cX16_fold 116 = .ok (.getfield 38, 3) := by decide +kernel
theorem dX16_fold_119 : decode cX16_fold 119 = .ok (.iconst 2, 1) := by decide +kernel
theorem dX16_fold_120 : decode cX16_fold 120 = .ok (.if_icmp .ne 62, 3) := by decide +kernel
theorem dX16_fold_123 : decode cX16_fold 123 = .ok (.aload_n 0, 1) := by decide +kernel
theorem dX16_fold_124 : decode cX16_fold 124 = .ok (.getfield 60, 3) := by decide +kernel
theorem dX16_fold_127 : decode cX16_fold 127 = .ok (.lconst 1, 1) := by decide +kernel
theorem dX16_fold_128 : decode cX16_fold 128 = .ok (.ldc2_w 207, 3) := by decide +kernel
theorem dX16_fold_131 : decode cX16_fold 131 = .ok (.invokestatic 45, 3) := by decide +kernel
theorem dX16_fold_134 : decode cX16_fold 134 = .ok (.ifCond .eq 48, 3) := by decide +kernel
theorem dX16_fold_137 : decode cX16_fold 137 = .ok (.aload_n 0, 1) := by decide +kernel
theorem dX16_fold_138 : decode cX16_fold 138 = .ok (.getfield 60, 3) := by decide +kernel
theorem dX16_fold_141 : decode cX16_fold 141 = .ok (.aload_n 0, 1) := by decide +kernel
theorem dX16_fold_142 : decode cX16_fold 142 = .ok (.getfield 118, 3) := by decide +kernel
theorem dX16_fold_145 : decode cX16_fold 145 = .ok (.getfield 191, 3) := by decide +kernel
theorem dX16_fold_148 : decode cX16_fold 148 = .ok (.iload_n 1, 1) := by decide +kernel
theorem dX16_fold_149 : decode cX16_fold 149 = .ok (.laload, 1) := by decide +kernel
theorem dX16_fold_150 : decode cX16_fold 150 = .ok (.lcmp, 1) := by decide +kernel
theorem dX16_fold_151 : decode cX16_fold 151 = .ok (.ifCond .gt 24, 3) := by decide +kernel
theorem dX16_fold_154 : decode cX16_fold 154 = .ok (.aload_n 0, 1) := by decide +kernel
theorem dX16_fold_155 : decode cX16_fold 155 = .ok (.getfield 118, 3) := by decide +kernel
theorem dX16_fold_158 : decode cX16_fold 158 = .ok (.getfield 191, 3) := by decide +kernel
theorem dX16_fold_161 : decode cX16_fold 161 = .ok (.iload_n 1, 1) := by decide +kernel
theorem dX16_fold_162 : decode cX16_fold 162 = .ok (.laload, 1) := by decide +kernel
theorem dX16_fold_163 : decode cX16_fold 163 = .ok (.ldc2_w 250, 3) := by decide +kernel
theorem dX16_fold_166 : decode cX16_fold 166 = .ok (.aload_n 0, 1) := by decide +kernel
theorem dX16_fold_167 : decode cX16_fold 167 = .ok (.getfield 60, 3) := by decide +kernel
theorem dX16_fold_170 : decode cX16_fold 170 = .ok (.lmul, 1) := by decide +kernel
theorem dX16_fold_171 : decode cX16_fold 171 = .ok (.lcmp, 1) := by decide +kernel
theorem dX16_fold_172 : decode cX16_fold 172 = .ok (.ifCond .le 10, 3) := by decide +kernel
theorem dX16_fold_175 : decode cX16_fold 175 = .ok (.aload_n 0, 1) := by decide +kernel
theorem dX16_fold_176 : decode cX16_fold 176 = .ok (.bipush 7, 2) := by decide +kernel
theorem dX16_fold_178 : decode cX16_fold 178 = .ok (.invokevirtual 65, 3) := by decide +kernel
theorem dX16_fold_181 : decode cX16_fold 181 = .ok (.athrow, 1) := by decide +kernel
theorem dX16_fold_182 : decode cX16_fold 182 = .ok (.aload_n 0, 1) := by decide +kernel
theorem dX16_fold_183 : decode cX16_fold 183 = .ok (.getfield 118, 3) := by decide +kernel
theorem dX16_fold_186 : decode cX16_fold 186 = .ok (.getfield 204, 3) := by decide +kernel
theorem dX16_fold_189 : decode cX16_fold 189 = .ok (.iload_n 1, 1) := by decide +kernel
theorem dX16_fold_190 : decode cX16_fold 190 = .ok (.aload_n 0, 1) := by decide +kernel
theorem dX16_fold_191 : decode cX16_fold 191 = .ok (.lconst 1, 1) := by decide +kernel
theorem dX16_fold_192 : decode cX16_fold 192 = .ok (.ldc2_w 207, 3) := by decide +kernel
theorem dX16_fold_195 : decode cX16_fold 195 = .ok (.invokevirtual 209, 3) := by decide +kernel
theorem dX16_fold_198 : decode cX16_fold 198 = .ok (.lastore, 1) := by decide +kernel
theorem dX16_fold_199 : decode cX16_fold 199 = .ok (.goto 36, 3) := by decide +kernel
theorem dX16_fold_202 : decode cX16_fold 202 = .ok (.aload_n 0, 1) := by decide +kernel
theorem dX16_fold_203 : decode cX16_fold 203 = .ok (.ldc 252, 2) := by decide +kernel
theorem dX16_fold_205 : decode cX16_fold 205 = .ok (.invokevirtual 200, 3) := by decide +kernel
theorem dX16_fold_208 : decode cX16_fold 208 = .ok (.aload_n 0, 1) := by decide +kernel
theorem dX16_fold_209 : decode cX16_fold 209 = .ok (.getfield 118, 3) := by decide +kernel
theorem dX16_fold_212 : decode cX16_fold 212 = .ok (.getfield 246, 3) := by decide +kernel
theorem dX16_fold_215 : decode cX16_fold 215 = .ok (.iload_n 1, 1) := by decide +kernel
theorem dX16_fold_216 : decode cX16_fold 216 = .ok (.iconst 5, 1) := by decide +kernel
theorem dX16_fold_217 : decode cX16_fold 217 = .ok (.iastore, 1) := by decide +kernel
theorem dX16_fold_218 : decode cX16_fold 218 = .ok (.aload_n 0, 1) := by decide +kernel
theorem dX16_fold_219 : decode cX16_fold 219 = .ok (.getfield 118, 3) := by decide +kernel
theorem dX16_fold_222 : decode cX16_fold 222 = .ok (.getfield 191, 3) := by decide +kernel
theorem dX16_fold_225 : decode cX16_fold 225 = .ok (.iload_n 1, 1) := by decide +kernel
theorem dX16_fold_226 : decode cX16_fold 226 = .ok (.aload_n 0, 1) := by decide +kernel
theorem dX16_fold_227 : decode cX16_fold 227 = .ok (.lconst 1, 1) := by decide +kernel
theorem dX16_fold_228 : decode cX16_fold 228 = .ok (.ldc2_w 207, 3) := by decide +kernel
theorem dX16_fold_231 : decode cX16_fold 231 = .ok (.invokevirtual 209, 3) := by decide +kernel
theorem dX16_fold_234 : decode cX16_fold 234 = .ok (.lastore, 1) := by decide +kernel
theorem dX16_fold_235 : decode cX16_fold 235 = .ok (.aload_n 0, 1) := by decide +kernel
theorem dX16_fold_236 : decode cX16_fold 236 = .ok (.bipush 58, 2) := by decide +kernel
theorem dX16_fold_238 : decode cX16_fold 238 = .ok (.invokevirtual 159, 3) := by decide +kernel
theorem dX16_fold_241 : decode cX16_fold 241 = .ok (.iconst 1, 1) := by decide +kernel
theorem dX16_fold_242 : decode cX16_fold 242 = .ok (.istore_n 3, 1) := by decide +kernel
theorem dX16_fold_243 : decode cX16_fold 243 = .ok (.iload_n 3, 1) := by decide +kernel
theorem dX16_fold_244 : decode cX16_fold 244 = .ok (.ifCond .eq 188, 3) := by decide +kernel
theorem dX16_fold_247 : decode cX16_fold 247 = .ok (.aload_n 0, 1) := by decide +kernel
theorem dX16_fold_248 : decode cX16_fold 248 = .ok (.iload_n 1, 1) := by decide +kernel
theorem dX16_fold_249 : decode cX16_fold 249 = .ok (.iconst 5, 1) := by decide +kernel
theorem dX16_fold_250 : decode cX16_fold 250 = .ok (.invokevirtual 194, 3) := by decide +kernel
theorem dX16_fold_253 : decode cX16_fold 253 = .ok (.aload_n 0, 1) := by decide +kernel
theorem dX16_fold_254 : decode cX16_fold 254 = .ok (.bipush 61, 2) := by decide +kernel
theorem dX16_fold_256 : decode cX16_fold 256 = .ok (.invokevirtual 159, 3) := by decide +kernel
theorem dX16_fold_259 : decode cX16_fold 259 = .ok (.aload_n 0, 1) := by decide +kernel
theorem dX16_fold_260 : decode cX16_fold 260 = .ok (.ldc 254, 2) := by decide +kernel
theorem dX16_fold_262 : decode cX16_fold 262 = .ok (.invokevirtual 103, 3) := by decide +kernel
theorem dX16_fold_265 : decode cX16_fold 265 = .ok (.ifCond .eq 7, 3) := by decide +kernel
theorem dX16_fold_268 : decode cX16_fold 268 = .ok (.iconst 0, 1) := by decide +kernel
theorem dX16_fold_269 : decode cX16_fold 269 = .ok (.goto 46, 3) := by decide +kernel
theorem dX16_fold_272 : decode cX16_fold 272 = .ok (.aload_n 0, 1) := by decide +kernel
theorem dX16_fold_273 : decode cX16_fold 273 = .ok (.ldc_w 256, 3) := by decide +kernel
theorem dX16_fold_276 : decode cX16_fold 276 = .ok (.invokevirtual 103, 3) := by decide +kernel
theorem dX16_fold_279 : decode cX16_fold 279 = .ok (.ifCond .eq 7, 3) := by decide +kernel
theorem dX16_fold_282 : decode cX16_fold 282 = .ok (.iconst 1, 1) := by decide +kernel
theorem dX16_fold_283 : decode cX16_fold 283 = .ok (.goto 32, 3) := by decide +kernel
theorem dX16_fold_286 : decode cX16_fold 286 = .ok (.aload_n 0, 1) := by decide +kernel
theorem dX16_fold_287 : decode cX16_fold 287 = .ok (.ldc_w 257, 3) := by decide +kernel
theorem dX16_fold_290 : decode cX16_fold 290 = .ok (.invokevirtual 103, 3) := by decide +kernel
theorem dX16_fold_293 : decode cX16_fold 293 = .ok (.ifCond .eq 7, 3) := by decide +kernel
theorem dX16_fold_296 : decode cX16_fold 296 = .ok (.iconst 2, 1) := by decide +kernel
theorem dX16_fold_297 : decode cX16_fold 297 = .ok (.goto 18, 3) := by decide +kernel
theorem dX16_fold_300 : decode cX16_fold 300 = .ok (.aload_n 0, 1) := by decide +kernel
theorem dX16_fold_301 : decode cX16_fold 301 = .ok (.ldc_w 259, 3) := by decide +kernel
theorem dX16_fold_304 : decode cX16_fold 304 = .ok (.invokevirtual 103, 3) := by decide +kernel
theorem dX16_fold_307 : decode cX16_fold 307 = .ok (.ifCond .eq 7, 3) := by decide +kernel
theorem dX16_fold_310 : decode cX16_fold 310 = .ok (.iconst 3, 1) := by decide +kernel
theorem dX16_fold_311 : decode cX16_fold 311 = .ok (.goto 4, 3) := by decide +kernel
theorem dX16_fold_314 : decode cX16_fold 314 = .ok (.iconst (-1), 1) := by decide +kernel
theorem dX16_fold_315 : decode cX16_fold 315 = .ok (.istore 4, 2) := by decide +kernel
theorem dX16_fold_317 : decode cX16_fold 317 = .ok (.iload 4, 2) := by decide +kernel
theorem dX16_fold_319 : decode cX16_fold 319 = .ok (.iconst (-1), 1) := by decide +kernel
theorem dX16_fold_320 : decode cX16_fold 320 = .ok (.if_icmp .ne 8, 3) := by decide +kernel
theorem dX16_fold_323 : decode cX16_fold 323 = .ok (.aload_n 0, 1) := by decide +kernel
theorem dX16_fold_324 : decode cX16_fold 324 = .ok (.invokevirtual 80, 3) := by decide +kernel
theorem dX16_fold_327 : decode cX16_fold 327 = .ok (.athrow, 1) := by decide +kernel
theorem dX16_fold_328 : decode cX16_fold 328 = .ok (.aload_n 0, 1) := by decide +kernel
theorem dX16_fold_329 : decode cX16_fold 329 = .ok (.invokevirtual 84, 3) := by decide +kernel
theorem dX16_fold_332 : decode cX16_fold 332 = .ok (.aload_n 0, 1) := by decide +kernel
theorem dX16_fold_333 : decode cX16_fold 333 = .ok (.getfield 118, 3) := by decide +kernel
theorem dX16_fold_336 : decode cX16_fold 336 = .ok (.getfield 222, 3) := by decide +kernel
theorem dX16_fold_339 : decode cX16_fold 339 = .ok (.iload_n 1, 1) := by decide +kernel
theorem dX16_fold_340 : decode cX16_fold 340 = .ok (.iaload, 1) := by decide +kernel
theorem dX16_fold_341 : decode cX16_fold 341 = .ok (.istore 5, 2) := by decide +kernel
theorem dX16_fold_343 : decode cX16_fold 343 = .ok (.aload_n 0, 1) := by decide +kernel
theorem dX16_fold_344 : decode cX16_fold 344 = .ok (.getfield 118, 3) := by decide +kernel
theorem dX16_fold_347 : decode cX16_fold 347 = .ok (.getfield 261, 3) := by decide +kernel
theorem dX16_fold_350 : decode cX16_fold 350 = .ok (.bipush 8, 2) := by decide +kernel
theorem dX16_fold_352 : decode cX16_fold 352 = .ok (.iload_n 1, 1) := by decide +kernel
theorem dX16_fold_353 : decode cX16_fold 353 = .ok (.imul, 1) := by decide +kernel
theorem dX16_fold_354 : decode cX16_fold 354 = .ok (.iload 5, 2) := by decide +kernel
theorem dX16_fold_356 : decode cX16_fold 356 = .ok (.iadd, 1) := by decide +kernel
theorem dX16_fold_357 : decode cX16_fold 357 = .ok (.iload 4, 2) := by decide +kernel
theorem dX16_fold_359 : decode cX16_fold 359 = .ok (.iastore, 1) := by decide +kernel
theorem dX16_fold_360 : decode cX16_fold 360 = .ok (.aload_n 0, 1) := by decide +kernel
theorem dX16_fold_361 : decode cX16_fold 361 = .ok (.getfield 118, 3) := by decide +kernel
theorem dX16_fold_364 : decode cX16_fold 364 = .ok (.getfield 219, 3) := by decide +kernel
theorem dX16_fold_367 : decode cX16_fold 367 = .ok (.bipush 8, 2) := by decide +kernel
theorem dX16_fold_369 : decode cX16_fold 369 = .ok (.iload_n 1, 1) := by decide +kernel
theorem dX16_fold_370 : decode cX16_fold 370 = .ok (.imul, 1) := by decide +kernel
theorem dX16_fold_371 : decode cX16_fold 371 = .ok (.iload 5, 2) := by decide +kernel
theorem dX16_fold_373 : decode cX16_fold 373 = .ok (.iadd, 1) := by decide +kernel
theorem dX16_fold_374 : decode cX16_fold 374 = .ok (.iload 4, 2) := by decide +kernel
theorem dX16_fold_376 : decode cX16_fold 376 = .ok (.ifCond .ne 7, 3) := by decide +kernel
theorem dX16_fold_379 : decode cX16_fold 379 = .ok (.iconst (-1), 1) := by decide +kernel
theorem dX16_fold_380 : decode cX16_fold 380 = .ok (.goto 8, 3) := by decide +kernel
theorem dX16_fold_383 : decode cX16_fold 383 = .ok (.aload_n 0, 1) := by decide +kernel
theorem dX16_fold_384 : decode cX16_fold 384 = .ok (.iload_n 2, 1) := by decide +kernel
theorem dX16_fold_385 : decode cX16_fold 385 = .ok (.invokevirtual 225, 3) := by decide +kernel
theorem dX16_fold_388 : decode cX16_fold 388 = .ok (.iastore, 1) := by decide +kernel
theorem dX16_fold_389 : decode cX16_fold 389 = .ok (.aload_n 0, 1) := by decide +kernel
theorem dX16_fold_390 : decode cX16_fold 390 = .ok (.getfield 118, 3) := by decide +kernel
theorem dX16_fold_393 : decode cX16_fold 393 = .ok (.getfield 222, 3) := by decide +kernel
theorem dX16_fold_396 : decode cX16_fold 396 = .ok (.iload_n 1, 1) := by decide +kernel
theorem dX16_fold_397 : decode cX16_fold 397 = .ok (.dup2, 1) := by decide +kernel
theorem dX16_fold_398 : decode cX16_fold 398 = .ok (.iaload, 1) := by decide +kernel
theorem dX16_fold_399 : decode cX16_fold 399 = .ok (.iconst 1, 1) := by decide +kernel
theorem dX16_fold_400 : decode cX16_fold 400 = .ok (.iadd, 1) := by decide +kernel
theorem dX16_fold_401 : decode cX16_fold 401 = .ok (.iastore, 1) := by decide +kernel
theorem dX16_fold_402 : decode cX16_fold 402 = .ok (.aload_n 0, 1) := by decide +kernel
theorem dX16_fold_403 : decode cX16_fold 403 = .ok (.invokevirtual 76, 3) := by decide +kernel
theorem dX16_fold_406 : decode cX16_fold 406 = .ok (.aload_n 0, 1) := by decide +kernel
theorem dX16_fold_407 : decode cX16_fold 407 = .ok (.getfield 38, 3) := by decide +kernel
theorem dX16_fold_410 : decode cX16_fold 410 = .ok (.bipush 44, 2) := by decide +kernel
theorem dX16_fold_412 : decode cX16_fold 412 = .ok (.if_icmp .ne 7, 3) := by decide +kernel
theorem dX16_fold_415 : decode cX16_fold 415 = .ok (.iconst 1, 1) := by decide +kernel
theorem dX16_fold_416 : decode cX16_fold 416 = .ok (.goto 4, 3) := by decide +kernel
theorem dX16_fold_419 : decode cX16_fold 419 = .ok (.iconst 0, 1) := by decide +kernel
theorem dX16_fold_420 : decode cX16_fold 420 = .ok (.istore_n 3, 1) := by decide +kernel
theorem dX16_fold_421 : decode cX16_fold 421 = .ok (.iload_n 3, 1) := by decide +kernel
theorem dX16_fold_422 : decode cX16_fold 422 = .ok (.ifCond .eq 7, 3) := by decide +kernel
theorem dX16_fold_425 : decode cX16_fold 425 = .ok (.aload_n 0, 1) := by decide +kernel
theorem dX16_fold_426 : decode cX16_fold 426 = .ok (.invokevirtual 84, 3) := by decide +kernel
theorem dX16_fold_429 : decode cX16_fold 429 = .ok (.goto (-186), 3) := by decide +kernel
theorem dX16_fold_432 : decode cX16_fold 432 = .ok (.return_, 1) := by decide +kernel
set_option maxRecDepth 20000 in
theorem a_X16_fold_432 {Q : Sg → Unit → Prop} {X : Sg → String → Prop} (K : MC R p s m args c cX16_fold 6 RX16 D cA tys A n0 s0 142 10045 []) (hQ : HQV p l e R s m args below meth c cX16_fold D cA A n0 s0 QM dm ra jx rm Q) (hX : HX p l e R s m args below meth c 6 D cA A n0 s0 QM dm ra jx rm X) : ∀ (σ : Sg), w_X16_fold_432 ra jx rm Q X σ → RG σ → Shp dm ra jx rm σ → JJ p l e R s m args below meth c 6 D cA A n0 s0 QM σ 432 [(0, .ref rm)] [] := by
  intro σ h hGσ hS H locs ls hH hl hc
  have B := K.1
  unfold w_X16_fold_432 at h
  exact hQ _ _ _ _ _ dX16_fold_432 hH hc h hGσ hS
set_option maxRecDepth 20000 in
theorem a_X16_fold_429 {Q : Sg → Unit → Prop} {X : Sg → String → Prop} (K : MC R p s m args c cX16_fold 6 RX16 D cA tys A n0 s0 142 10045 []) (hQ : HQV p l e R s m args below meth c cX16_fold D cA A n0 s0 QM dm ra jx rm Q) (hX : HX p l e R s m args below meth c 6 D cA A n0 s0 QM dm ra jx rm X) {K243 : Sg → Int → Int → Int → Prop} (hK243 : ∀ (σ : Sg) (v1 : Int) (v2 : Int) (v3 : Int) (g1 : rng v1) (g2 : rng v2) (g3 : rng v3), K243 σ v1 v2 v3 → RG σ → Shp dm ra jx rm σ → JJ p l e R s m args below meth c 6 D cA A n0 s0 QM σ 243 [(0, .ref rm), (1, .int (i32 v1)), (2, .int (i32 v2)), (3, .int (i32 v3))] []) : ∀ (σ : Sg) (v1 : Int) (v2 : Int) (v3 : Int) (g1 : rng v1) (g2 : rng v2) (g3 : rng v3), w_X16_fold_429 ra jx rm K243 Q X σ v1 v2 v3 → RG σ → Shp dm ra jx rm σ → JJ p l e R s m args below meth c 6 D cA A n0 s0 QM σ 429 [(0, .ref rm), (1, .int (i32 v1)), (2, .int (i32 v2)), (3, .int (i32 v3))] [] := by
  intro σ v1 v2 v3 g1 g2 g3 h hGσ hS H locs ls hH hl hc
  have B := K.1
  unfold w_X16_fold_429 at h
  refine lv_goto (tgt := 243) B.1 B.2.1 dX16_fold_429 (by decide) ?_
  exact hK243 _ _ _ _ g1 g2 g3 h hGσ hS _ _ _ hH (lv_sub (l' := [(0, .ref rm), (1, .int (i32 v1)), (2, .int (i32 v2)), (3, .int (i32 v3))]) hl [0, 1, 2, 3] rfl) hc
set_option maxRecDepth 20000 in
theorem a_X16_fold_425 {Q : Sg → Unit → Prop} {X : Sg → String → Prop} (K : MC R p s m args c cX16_fold 6 RX16 D cA tys A n0 s0 142 10045 []) (hQ : HQV p l e R s m args below meth c cX16_fold D cA A n0 s0 QM dm ra jx rm Q) (hX : HX p l e R s m args below meth c 6 D cA A n0 s0 QM dm ra jx rm X) {K243 : Sg → Int → Int → Int → Prop} (hK243 : ∀ (σ : Sg) (v1 : Int) (v2 : Int) (v3 : Int) (g1 : rng v1) (g2 : rng v2) (g3 : rng v3), K243 σ v1 v2 v3 → RG σ → Shp dm ra jx rm σ → JJ p l e R s m args below meth c 6 D cA A n0 s0 QM σ 243 [(0, .ref rm), (1, .int (i32 v1)), (2, .int (i32 v2)), (3, .int (i32 v3))] []) : ∀ (σ : Sg) (v1 : Int) (v2 : Int) (v3 : Int) (g1 : rng v1) (g2 : rng v2) (g3 : rng v3), w_X16_fold_425 ra jx rm K243 Q X σ v1 v2 v3 → RG σ → Shp dm ra jx rm σ → JJ p l e R s m args below meth c 6 D cA A n0 s0 QM σ 425 [(0, .ref rm), (1, .int (i32 v1)), (2, .int (i32 v2)), (3, .int (i32 v3))] [] := by
  intro σ v1 v2 v3 g1 g2 g3 h hGσ hS H locs ls hH hl hc
  have B := K.1
  unfold w_X16_fold_425 at h
  refine lv_aload_n B.1 B.2.1 dX16_fold_425 rfl (lv_at hl 0 rfl) ?_
  refine c_V B hH hl hc K.2.2.1 (C := RX16) (T := TX16) (N := 123) (ci := 16) (As := []) (ok_X16_take K.2.1 σ hGσ hS h) wc_X16_84 0 hd_X16_take ⟨Nat.le_trans (Nat.le_of_ble_eq_true rfl) K.2.2.2.1, Nat.le_trans (Nat.le_of_ble_eq_true rfl) K.2.2.2.2.1⟩ hS.1.1 hS.1.2 (by decide) rfl rfl (rest := []) rfl (Nat.le_of_ble_eq_true rfl) dX16_fold_426 (fun σ137 w hq => ?_) (fun σ9 E9 hx9 => hX σ9 E9 _ _ _ (tb_out K.2.2.2.2.2 rfl) hx9.1 hx9.2.1 hx9.2.2)
  obtain ⟨rfl, h, hGσ137, hS⟩ := hq
  intro H locs ls hH hl hc
  refine W.eq (g2 := F0 m 429 ls []) (rfl) ?_
  try dsimp only at h
  exact a_X16_fold_429 K hQ hX hK243 _ _ _ _ g1 g2 g3 h hGσ137 hS _ _ _ hH (lv_sub (l' := [(0, .ref rm), (1, .int (i32 v1)), (2, .int (i32 v2)), (3, .int (i32 v3))]) hl [0, 1, 2, 3] rfl) hc
set_option maxRecDepth 20000 in
theorem a_X16_fold_420 {Q : Sg → Unit → Prop} {X : Sg → String → Prop} (K : MC R p s m args c cX16_fold 6 RX16 D cA tys A n0 s0 142 10045 []) (hQ : HQV p l e R s m args below meth c cX16_fold D cA A n0 s0 QM dm ra jx rm Q) (hX : HX p l e R s m args below meth c 6 D cA A n0 s0 QM dm ra jx rm X) {K243 : Sg → Int → Int → Int → Prop} (hK243 : ∀ (σ : Sg) (v1 : Int) (v2 : Int) (v3 : Int) (g1 : rng v1) (g2 : rng v2) (g3 : rng v3), K243 σ v1 v2 v3 → RG σ → Shp dm ra jx rm σ → JJ p l e R s m args below meth c 6 D cA A n0 s0 QM σ 243 [(0, .ref rm), (1, .int (i32 v1)), (2, .int (i32 v2)), (3, .int (i32 v3))] []) : ∀ (σ : Sg) (v1 : Int) (v2 : Int) (u0 : Int) (g1 : rng v1) (g2 : rng v2) (gu0 : rng u0), w_X16_fold_420 ra jx rm K243 Q X σ v1 v2 u0 → RG σ → Shp dm ra jx rm σ → JJ p l e R s m args below meth c 6 D cA A n0 s0 QM σ 420 [(0, .ref rm), (1, .int (i32 v1)), (2, .int (i32 v2))] [.int (i32 u0)] := by
  intro σ v1 v2 u0 g1 g2 gu0 h hGσ hS H locs ls hH hl hc
  have B := K.1
  unfold w_X16_fold_420 at h
  refine lv_istore_n (lv' := [(3, .int (i32 u0)), (0, .ref rm), (1, .int (i32 v1)), (2, .int (i32 v2))]) B.1 B.2.1 dX16_fold_420 rfl hl (by decide) rfl (fun ls hl => ?_)
  refine lv_iload_n B.1 B.2.1 dX16_fold_421 rfl (lv_at hl 0 rfl) ?_
  refine lv_if_eq (tgt := 429) B.1 B.2.1 dX16_fold_422 (by decide) (fun h9 => ?_) (fun h9 => ?_)
  · rw [if_pos ((z_eq gu0).mp h9)] at h
    exact a_X16_fold_429 K hQ hX hK243 _ _ _ _ g1 g2 gu0 h hGσ hS _ _ _ hH (lv_sub (l' := [(0, .ref rm), (1, .int (i32 v1)), (2, .int (i32 v2)), (3, .int (i32 u0))]) hl [1, 2, 3, 0] rfl) hc
  · rw [if_neg (fun q => h9 ((z_eq gu0).mpr q))] at h
    exact a_X16_fold_425 K hQ hX hK243 _ _ _ _ g1 g2 gu0 h hGσ hS _ _ _ hH (lv_sub (l' := [(0, .ref rm), (1, .int (i32 v1)), (2, .int (i32 v2)), (3, .int (i32 u0))]) hl [1, 2, 3, 0] rfl) hc
set_option maxRecDepth 20000 in
theorem a_X16_fold_419 {Q : Sg → Unit → Prop} {X : Sg → String → Prop} (K : MC R p s m args c cX16_fold 6 RX16 D cA tys A n0 s0 142 10045 []) (hQ : HQV p l e R s m args below meth c cX16_fold D cA A n0 s0 QM dm ra jx rm Q) (hX : HX p l e R s m args below meth c 6 D cA A n0 s0 QM dm ra jx rm X) {K243 : Sg → Int → Int → Int → Prop} (hK243 : ∀ (σ : Sg) (v1 : Int) (v2 : Int) (v3 : Int) (g1 : rng v1) (g2 : rng v2) (g3 : rng v3), K243 σ v1 v2 v3 → RG σ → Shp dm ra jx rm σ → JJ p l e R s m args below meth c 6 D cA A n0 s0 QM σ 243 [(0, .ref rm), (1, .int (i32 v1)), (2, .int (i32 v2)), (3, .int (i32 v3))] []) : ∀ (σ : Sg) (v1 : Int) (v2 : Int) (g1 : rng v1) (g2 : rng v2), w_X16_fold_419 ra jx rm K243 Q X σ v1 v2 → RG σ → Shp dm ra jx rm σ → JJ p l e R s m args below meth c 6 D cA A n0 s0 QM σ 419 [(0, .ref rm), (1, .int (i32 v1)), (2, .int (i32 v2))] [] := by
  intro σ v1 v2 g1 g2 h hGσ hS H locs ls hH hl hc
  have B := K.1
  unfold w_X16_fold_419 at h
  refine lv_iconst (v := i32 0) B.1 B.2.1 dX16_fold_419 (by decide) ?_
  exact a_X16_fold_420 K hQ hX hK243 _ _ _ _ g1 g2 (by unfold rng; omega) h hGσ hS _ _ _ hH (lv_sub (l' := [(0, .ref rm), (1, .int (i32 v1)), (2, .int (i32 v2))]) hl [0, 1, 2] rfl) hc
set_option maxRecDepth 20000 in
theorem a_X16_fold_415 {Q : Sg → Unit → Prop} {X : Sg → String → Prop} (K : MC R p s m args c cX16_fold 6 RX16 D cA tys A n0 s0 142 10045 []) (hQ : HQV p l e R s m args below meth c cX16_fold D cA A n0 s0 QM dm ra jx rm Q) (hX : HX p l e R s m args below meth c 6 D cA A n0 s0 QM dm ra jx rm X) {K243 : Sg → Int → Int → Int → Prop} (hK243 : ∀ (σ : Sg) (v1 : Int) (v2 : Int) (v3 : Int) (g1 : rng v1) (g2 : rng v2) (g3 : rng v3), K243 σ v1 v2 v3 → RG σ → Shp dm ra jx rm σ → JJ p l e R s m args below meth c 6 D cA A n0 s0 QM σ 243 [(0, .ref rm), (1, .int (i32 v1)), (2, .int (i32 v2)), (3, .int (i32 v3))] []) : ∀ (σ : Sg) (v1 : Int) (v2 : Int) (g1 : rng v1) (g2 : rng v2), w_X16_fold_415 ra jx rm K243 Q X σ v1 v2 → RG σ → Shp dm ra jx rm σ → JJ p l e R s m args below meth c 6 D cA A n0 s0 QM σ 415 [(0, .ref rm), (1, .int (i32 v1)), (2, .int (i32 v2))] [] := by
  intro σ v1 v2 g1 g2 h hGσ hS H locs ls hH hl hc
  have B := K.1
  unfold w_X16_fold_415 at h
  refine lv_iconst (v := i32 1) B.1 B.2.1 dX16_fold_415 (by decide) ?_
  refine lv_goto (tgt := 420) B.1 B.2.1 dX16_fold_416 (by decide) ?_
  exact a_X16_fold_420 K hQ hX hK243 _ _ _ _ g1 g2 (by unfold rng; omega) h hGσ hS _ _ _ hH (lv_sub (l' := [(0, .ref rm), (1, .int (i32 v1)), (2, .int (i32 v2))]) hl [0, 1, 2] rfl) hc
set_option maxRecDepth 20000 in
theorem a_X16_fold_388 {Q : Sg → Unit → Prop} {X : Sg → String → Prop} (K : MC R p s m args c cX16_fold 6 RX16 D cA tys A n0 s0 142 10045 []) (hQ : HQV p l e R s m args below meth c cX16_fold D cA A n0 s0 QM dm ra jx rm Q) (hX : HX p l e R s m args below meth c 6 D cA A n0 s0 QM dm ra jx rm X) {K243 : Sg → Int → Int → Int → Prop} (hK243 : ∀ (σ : Sg) (v1 : Int) (v2 : Int) (v3 : Int) (g1 : rng v1) (g2 : rng v2) (g3 : rng v3), K243 σ v1 v2 v3 → RG σ → Shp dm ra jx rm σ → JJ p l e R s m args below meth c 6 D cA A n0 s0 QM σ 243 [(0, .ref rm), (1, .int (i32 v1)), (2, .int (i32 v2)), (3, .int (i32 v3))] []) : ∀ (σ : Sg) (v1 : Int) (v2 : Int) (u0 : Int) (u1 : Int) (u2 : Option Nat) (g1 : rng v1) (g2 : rng v2) (gu0 : rng u0) (gu1 : rng u1), w_X16_fold_388 ra jx rm K243 Q X σ v1 v2 u0 u1 u2 → RG σ → Shp dm ra jx rm σ → JJ p l e R s m args below meth c 6 D cA A n0 s0 QM σ 388 [(0, .ref rm), (1, .int (i32 v1)), (2, .int (i32 v2))] [.int (i32 u0), .int (i32 u1), va_rf u2] := by
  intro σ v1 v2 u0 u1 u2 g1 g2 gu0 gu1 h hGσ hS H locs ls hH hl hc
  have B := K.1
  unfold w_X16_fold_388 at h
  obtain ⟨b138, n139, eb138, jb138, ib138, h⟩ := h
  obtain ⟨σ140, eσ140⟩ : ∃ z, z = pI σ b138 u1.toNat u0 := ⟨_, rfl⟩
  have h := h σ140 eσ140
  refine W.eq (g2 := F0 m 388 ls [.int (i32 u0), .int (i32 u1), .ref b138]) (by rw [eb138]; rfl) ?_
  refine x_iast B K.2.1 hH (hS.any jb138) (rAr_lt jb138) ib138 dX16_fold_388 (fun H locs hH => ?_)
  have hH : Hd D cA A s (pI σ b138 u1.toNat u0) H locs := hH
  rw [← eσ140] at hH
  have hGσ140 : RG σ140 := by rw [eσ140]; exact hGσ.pI gu0
  have hS : Shp dm ra jx rm σ140 := by rw [eσ140]; exact hS
  have hc : CB n0 s0 σ140 := by rw [eσ140]; exact hc
  rw [show gc σ = gc σ140 by rw [eσ140], show gs σ = gs σ140 by rw [eσ140]]
  refine lv_aload_n B.1 B.2.1 dX16_fold_389 rfl (lv_at hl 0 rfl) ?_
  refine r_getp B hH hS 18 (by decide) wf_X16_118 rfl rfl dX16_fold_390 ?_
  obtain ⟨a141, ea141, ja141, h⟩ := h
  refine W.eq (g2 := F0 m 393 ls [.ref a141]) (by rw [ea141]; rfl) ?_
  refine n_arr B hH hS ja141 12 (kd := 100) (n := 16) (by decide) (by decide) (List.mem_of_getElem? (i := 12) rfl) rfl dX16_fold_393 ?_
  refine lv_iload_n B.1 B.2.1 dX16_fold_396 rfl (lv_at hl 1 rfl) ?_
  refine lv_dup2_11 B.1 B.2.1 dX16_fold_397 rfl rfl ?_
  obtain ⟨q4, h⟩ := h
  refine x_iald B K.2.1 hH (hS.ja ja141 (k := 12) (kd := 100) (n := 16) (by decide)) (by decide) q4 dX16_fold_398 ?_
  refine lv_iconst (v := i32 1) B.1 B.2.1 dX16_fold_399 (by decide) ?_
  obtain ⟨q5, h⟩ := h
  refine lv_iadd B.1 B.2.1 dX16_fold_400 ?_
  rw [i32_add]
  obtain ⟨q6, h⟩ := h
  obtain ⟨σ142, eσ142⟩ : ∃ z, z = pI σ140 (jx a141 12) v1.toNat ((gI σ140 (jx a141 12) v1.toNat) + 1) := ⟨_, rfl⟩
  have h := h σ142 eσ142
  refine x_iast B K.2.1 hH (hS.ja ja141 (k := 12) (kd := 100) (n := 16) (by decide)) (by decide) q6 dX16_fold_401 (fun H locs hH => ?_)
  have hH : Hd D cA A s (pI σ140 (jx a141 12) v1.toNat ((gI σ140 (jx a141 12) v1.toNat) + 1)) H locs := hH
  rw [← eσ142] at hH
  have hGσ142 : RG σ142 := by rw [eσ142]; exact hGσ140.pI q5
  have hS : Shp dm ra jx rm σ142 := by rw [eσ142]; exact hS
  have hc : CB n0 s0 σ142 := by rw [eσ142]; exact hc
  rw [show gc σ140 = gc σ142 by rw [eσ142], show gs σ140 = gs σ142 by rw [eσ142]]
  refine lv_aload_n B.1 B.2.1 dX16_fold_402 rfl (lv_at hl 0 rfl) ?_
  refine c_V B hH hl hc K.2.2.1 (C := RX16) (T := TX16) (N := 123) (ci := 16) (As := []) (ok_X16_see K.2.1 σ142 hGσ142 hS h) wc_X16_76 0 hd_X16_see ⟨Nat.le_trans (Nat.le_of_ble_eq_true rfl) K.2.2.2.1, Nat.le_trans (Nat.le_of_ble_eq_true rfl) K.2.2.2.2.1⟩ hS.1.1 hS.1.2 (by decide) rfl rfl (rest := []) rfl (Nat.le_of_ble_eq_true rfl) dX16_fold_403 (fun σ143 w hq => ?_) (fun σ9 E9 hx9 => hX σ9 E9 _ _ _ (tb_out K.2.2.2.2.2 rfl) hx9.1 hx9.2.1 hx9.2.2)
  obtain ⟨rfl, h, hGσ143, hS⟩ := hq
  intro H locs ls hH hl hc
  refine W.eq (g2 := F0 m 406 ls []) (rfl) ?_
  try dsimp only at h
  refine lv_aload_n B.1 B.2.1 dX16_fold_406 rfl (lv_at hl 0 rfl) ?_
  refine r_geti B hH hS 9 (by decide) wf_X16_38 rfl rfl dX16_fold_407 ?_
  refine lv_bipush (v := i32 44) B.1 B.2.1 dX16_fold_410 (by decide) ?_
  refine lv_icmp_ne (tgt := 419) B.1 B.2.1 dX16_fold_412 (by decide) (fun h9 => ?_) (fun h9 => ?_)
  · rw [if_pos (fun q => h9 ((i32_eq (hGσ143 _ _) (by unfold rng; omega)).mpr q))] at h
    exact a_X16_fold_419 K hQ hX hK243 _ _ _ g1 g2 h hGσ143 hS _ _ _ hH (lv_sub (l' := [(0, .ref rm), (1, .int (i32 v1)), (2, .int (i32 v2))]) hl [0, 1, 2] rfl) hc
  · rw [if_neg (fun q => q ((i32_eq (hGσ143 _ _) (by unfold rng; omega)).mp h9))] at h
    exact a_X16_fold_415 K hQ hX hK243 _ _ _ g1 g2 h hGσ143 hS _ _ _ hH (lv_sub (l' := [(0, .ref rm), (1, .int (i32 v1)), (2, .int (i32 v2))]) hl [0, 1, 2] rfl) hc
set_option maxRecDepth 20000 in
theorem a_X16_fold_383 {Q : Sg → Unit → Prop} {X : Sg → String → Prop} (K : MC R p s m args c cX16_fold 6 RX16 D cA tys A n0 s0 142 10045 []) (hQ : HQV p l e R s m args below meth c cX16_fold D cA A n0 s0 QM dm ra jx rm Q) (hX : HX p l e R s m args below meth c 6 D cA A n0 s0 QM dm ra jx rm X) {K243 : Sg → Int → Int → Int → Prop} (hK243 : ∀ (σ : Sg) (v1 : Int) (v2 : Int) (v3 : Int) (g1 : rng v1) (g2 : rng v2) (g3 : rng v3), K243 σ v1 v2 v3 → RG σ → Shp dm ra jx rm σ → JJ p l e R s m args below meth c 6 D cA A n0 s0 QM σ 243 [(0, .ref rm), (1, .int (i32 v1)), (2, .int (i32 v2)), (3, .int (i32 v3))] []) : ∀ (σ : Sg) (v1 : Int) (v2 : Int) (u0 : Int) (u1 : Option Nat) (g1 : rng v1) (g2 : rng v2) (gu0 : rng u0), w_X16_fold_383 ra jx rm K243 Q X σ v1 v2 u0 u1 → RG σ → Shp dm ra jx rm σ → JJ p l e R s m args below meth c 6 D cA A n0 s0 QM σ 383 [(0, .ref rm), (1, .int (i32 v1)), (2, .int (i32 v2))] [.int (i32 u0), va_rf u1] := by
  intro σ v1 v2 u0 u1 g1 g2 gu0 h hGσ hS H locs ls hH hl hc
  have B := K.1
  unfold w_X16_fold_383 at h
  refine lv_aload_n B.1 B.2.1 dX16_fold_383 rfl (lv_at hl 0 rfl) ?_
  refine lv_iload_n B.1 B.2.1 dX16_fold_384 rfl (lv_at hl 2 rfl) ?_
  refine c_V B hH hl hc K.2.2.1 (C := RX16) (T := TX16) (N := 123) (ci := 16) (As := [.int (i32 v2)]) (ok_X16_value K.2.1 σ v2 g2 hGσ hS h) wc_X16_225 1 hd_X16_value ⟨Nat.le_trans (Nat.le_of_ble_eq_true rfl) K.2.2.2.1, Nat.le_trans (Nat.le_of_ble_eq_true rfl) K.2.2.2.2.1⟩ hS.1.1 hS.1.2 (by decide) rfl rfl (rest := [.int (i32 u0), va_rf u1]) rfl (by simp only [List.map_cons, List.map_nil, rf_cat]; exact Nat.le_of_ble_eq_true rfl) dX16_fold_385 (fun σ144 w hq => ?_) (fun σ9 E9 hx9 => hX σ9 E9 _ _ _ (tb_out K.2.2.2.2.2 rfl) hx9.1 hx9.2.1 hx9.2.2)
  obtain ⟨r145, rfl, gr145, h, hGσ144, hS⟩ := hq
  intro H locs ls hH hl hc
  refine W.eq (g2 := F0 m 388 ls [.int (i32 r145), .int (i32 u0), va_rf u1]) (rfl) ?_
  try dsimp only at h
  exact a_X16_fold_388 K hQ hX hK243 _ _ _ _ _ _ g1 g2 gr145 gu0 h hGσ144 hS _ _ _ hH (lv_sub (l' := [(0, .ref rm), (1, .int (i32 v1)), (2, .int (i32 v2))]) hl [0, 1, 2] rfl) hc
set_option maxRecDepth 20000 in
theorem a_X16_fold_379 {Q : Sg → Unit → Prop} {X : Sg → String → Prop} (K : MC R p s m args c cX16_fold 6 RX16 D cA tys A n0 s0 142 10045 []) (hQ : HQV p l e R s m args below meth c cX16_fold D cA A n0 s0 QM dm ra jx rm Q) (hX : HX p l e R s m args below meth c 6 D cA A n0 s0 QM dm ra jx rm X) {K243 : Sg → Int → Int → Int → Prop} (hK243 : ∀ (σ : Sg) (v1 : Int) (v2 : Int) (v3 : Int) (g1 : rng v1) (g2 : rng v2) (g3 : rng v3), K243 σ v1 v2 v3 → RG σ → Shp dm ra jx rm σ → JJ p l e R s m args below meth c 6 D cA A n0 s0 QM σ 243 [(0, .ref rm), (1, .int (i32 v1)), (2, .int (i32 v2)), (3, .int (i32 v3))] []) : ∀ (σ : Sg) (v1 : Int) (v2 : Int) (u0 : Int) (u1 : Option Nat) (g1 : rng v1) (g2 : rng v2) (gu0 : rng u0), w_X16_fold_379 ra jx rm K243 Q X σ v1 v2 u0 u1 → RG σ → Shp dm ra jx rm σ → JJ p l e R s m args below meth c 6 D cA A n0 s0 QM σ 379 [(0, .ref rm), (1, .int (i32 v1)), (2, .int (i32 v2))] [.int (i32 u0), va_rf u1] := by
  intro σ v1 v2 u0 u1 g1 g2 gu0 h hGσ hS H locs ls hH hl hc
  have B := K.1
  unfold w_X16_fold_379 at h
  refine lv_iconst (v := i32 (-1)) B.1 B.2.1 dX16_fold_379 (by decide) ?_
  refine lv_goto (tgt := 388) B.1 B.2.1 dX16_fold_380 (by decide) ?_
  exact a_X16_fold_388 K hQ hX hK243 _ _ _ _ _ _ g1 g2 (by unfold rng; omega) gu0 h hGσ hS _ _ _ hH (lv_sub (l' := [(0, .ref rm), (1, .int (i32 v1)), (2, .int (i32 v2))]) hl [0, 1, 2] rfl) hc
set_option maxRecDepth 20000 in
theorem a_X16_fold_328 {Q : Sg → Unit → Prop} {X : Sg → String → Prop} (K : MC R p s m args c cX16_fold 6 RX16 D cA tys A n0 s0 142 10045 []) (hQ : HQV p l e R s m args below meth c cX16_fold D cA A n0 s0 QM dm ra jx rm Q) (hX : HX p l e R s m args below meth c 6 D cA A n0 s0 QM dm ra jx rm X) {K243 : Sg → Int → Int → Int → Prop} (hK243 : ∀ (σ : Sg) (v1 : Int) (v2 : Int) (v3 : Int) (g1 : rng v1) (g2 : rng v2) (g3 : rng v3), K243 σ v1 v2 v3 → RG σ → Shp dm ra jx rm σ → JJ p l e R s m args below meth c 6 D cA A n0 s0 QM σ 243 [(0, .ref rm), (1, .int (i32 v1)), (2, .int (i32 v2)), (3, .int (i32 v3))] []) : ∀ (σ : Sg) (v1 : Int) (v2 : Int) (v4 : Int) (g1 : rng v1) (g2 : rng v2) (g4 : rng v4), w_X16_fold_328 ra jx rm K243 Q X σ v1 v2 v4 → RG σ → Shp dm ra jx rm σ → JJ p l e R s m args below meth c 6 D cA A n0 s0 QM σ 328 [(0, .ref rm), (1, .int (i32 v1)), (2, .int (i32 v2)), (4, .int (i32 v4))] [] := by
  intro σ v1 v2 v4 g1 g2 g4 h hGσ hS H locs ls hH hl hc
  have B := K.1
  unfold w_X16_fold_328 at h
  refine lv_aload_n B.1 B.2.1 dX16_fold_328 rfl (lv_at hl 0 rfl) ?_
  refine c_V B hH hl hc K.2.2.1 (C := RX16) (T := TX16) (N := 123) (ci := 16) (As := []) (ok_X16_take K.2.1 σ hGσ hS h) wc_X16_84 0 hd_X16_take ⟨Nat.le_trans (Nat.le_of_ble_eq_true rfl) K.2.2.2.1, Nat.le_trans (Nat.le_of_ble_eq_true rfl) K.2.2.2.2.1⟩ hS.1.1 hS.1.2 (by decide) rfl rfl (rest := []) rfl (Nat.le_of_ble_eq_true rfl) dX16_fold_329 (fun σ146 w hq => ?_) (fun σ9 E9 hx9 => hX σ9 E9 _ _ _ (tb_out K.2.2.2.2.2 rfl) hx9.1 hx9.2.1 hx9.2.2)
  obtain ⟨rfl, h, hGσ146, hS⟩ := hq
  intro H locs ls hH hl hc
  refine W.eq (g2 := F0 m 332 ls []) (rfl) ?_
  try dsimp only at h
  refine lv_aload_n B.1 B.2.1 dX16_fold_332 rfl (lv_at hl 0 rfl) ?_
  refine r_getp B hH hS 18 (by decide) wf_X16_118 rfl rfl dX16_fold_333 ?_
  obtain ⟨a147, ea147, ja147, h⟩ := h
  refine W.eq (g2 := F0 m 336 ls [.ref a147]) (by rw [ea147]; rfl) ?_
  refine n_arr B hH hS ja147 12 (kd := 100) (n := 16) (by decide) (by decide) (List.mem_of_getElem? (i := 12) rfl) rfl dX16_fold_336 ?_
  refine lv_iload_n B.1 B.2.1 dX16_fold_339 rfl (lv_at hl 1 rfl) ?_
  obtain ⟨q2, h⟩ := h
  refine x_iald B K.2.1 hH (hS.ja ja147 (k := 12) (kd := 100) (n := 16) (by decide)) (by decide) q2 dX16_fold_340 ?_
  refine lv_istore (lv' := [(5, .int (i32 (gI σ146 (jx a147 12) v1.toNat))), (0, .ref rm), (1, .int (i32 v1)), (2, .int (i32 v2)), (4, .int (i32 v4))]) B.1 B.2.1 dX16_fold_341 hl (by decide) rfl (fun ls hl => ?_)
  refine lv_aload_n B.1 B.2.1 dX16_fold_343 rfl (lv_at hl 1 rfl) ?_
  refine r_getp B hH hS 18 (by decide) wf_X16_118 rfl rfl dX16_fold_344 ?_
  obtain ⟨a148, ea148, ja148, h⟩ := h
  refine W.eq (g2 := F0 m 347 ls [.ref a148]) (by rw [ea148]; rfl) ?_
  refine n_arr B hH hS ja148 14 (kd := 100) (n := 128) (by decide) (by decide) (List.mem_of_getElem? (i := 14) rfl) rfl dX16_fold_347 ?_
  refine lv_bipush (v := i32 8) B.1 B.2.1 dX16_fold_350 (by decide) ?_
  refine lv_iload_n B.1 B.2.1 dX16_fold_352 rfl (lv_at hl 2 rfl) ?_
  obtain ⟨q4, h⟩ := h
  refine lv_imul B.1 B.2.1 dX16_fold_353 ?_
  rw [i32_mul]
  refine lv_iload B.1 B.2.1 dX16_fold_354 (lv_at hl 0 rfl) ?_
  obtain ⟨q5, h⟩ := h
  refine lv_iadd B.1 B.2.1 dX16_fold_356 ?_
  rw [i32_add]
  refine lv_iload B.1 B.2.1 dX16_fold_357 (lv_at hl 4 rfl) ?_
  obtain ⟨q6, h⟩ := h
  obtain ⟨σ149, eσ149⟩ : ∃ z, z = pI σ146 (jx a148 14) ((8 * v1) + (gI σ146 (jx a147 12) v1.toNat)).toNat v4 := ⟨_, rfl⟩
  have h := h σ149 eσ149
  refine x_iast B K.2.1 hH (hS.ja ja148 (k := 14) (kd := 100) (n := 128) (by decide)) (by decide) q6 dX16_fold_359 (fun H locs hH => ?_)
  have hH : Hd D cA A s (pI σ146 (jx a148 14) ((8 * v1) + (gI σ146 (jx a147 12) v1.toNat)).toNat v4) H locs := hH
  rw [← eσ149] at hH
  have hGσ149 : RG σ149 := by rw [eσ149]; exact hGσ146.pI g4
  have hS : Shp dm ra jx rm σ149 := by rw [eσ149]; exact hS
  have hc : CB n0 s0 σ149 := by rw [eσ149]; exact hc
  rw [show gc σ146 = gc σ149 by rw [eσ149], show gs σ146 = gs σ149 by rw [eσ149]]
  refine lv_aload_n B.1 B.2.1 dX16_fold_360 rfl (lv_at hl 1 rfl) ?_
  refine r_getp B hH hS 18 (by decide) wf_X16_118 rfl rfl dX16_fold_361 ?_
  obtain ⟨a150, ea150, ja150, h⟩ := h
  refine W.eq (g2 := F0 m 364 ls [.ref a150]) (by rw [ea150]; rfl) ?_
  refine n_arr B hH hS ja150 13 (kd := 100) (n := 128) (by decide) (by decide) (List.mem_of_getElem? (i := 13) rfl) rfl dX16_fold_364 ?_
  refine lv_bipush (v := i32 8) B.1 B.2.1 dX16_fold_367 (by decide) ?_
  refine lv_iload_n B.1 B.2.1 dX16_fold_369 rfl (lv_at hl 2 rfl) ?_
  obtain ⟨q9, h⟩ := h
  refine lv_imul B.1 B.2.1 dX16_fold_370 ?_
  rw [i32_mul]
  refine lv_iload B.1 B.2.1 dX16_fold_371 (lv_at hl 0 rfl) ?_
  obtain ⟨q10, h⟩ := h
  refine lv_iadd B.1 B.2.1 dX16_fold_373 ?_
  rw [i32_add]
  refine lv_iload B.1 B.2.1 dX16_fold_374 (lv_at hl 4 rfl) ?_
  refine lv_if_ne (tgt := 383) B.1 B.2.1 dX16_fold_376 (by decide) (fun h9 => ?_) (fun h9 => ?_)
  · rw [if_pos (fun q => h9 ((z_eq g4).mpr q))] at h
    exact a_X16_fold_383 K hQ hX hK243 _ _ _ _ _ g1 g2 q10 h hGσ149 hS _ _ _ hH (lv_sub (l' := [(0, .ref rm), (1, .int (i32 v1)), (2, .int (i32 v2))]) hl [1, 2, 3] rfl) hc
  · rw [if_neg (fun q => q ((z_eq g4).mp h9))] at h
    exact a_X16_fold_379 K hQ hX hK243 _ _ _ _ _ g1 g2 q10 h hGσ149 hS _ _ _ hH (lv_sub (l' := [(0, .ref rm), (1, .int (i32 v1)), (2, .int (i32 v2))]) hl [1, 2, 3] rfl) hc
set_option maxRecDepth 20000 in
theorem a_X16_fold_323 {Q : Sg → Unit → Prop} {X : Sg → String → Prop} (K : MC R p s m args c cX16_fold 6 RX16 D cA tys A n0 s0 142 10045 []) (hQ : HQV p l e R s m args below meth c cX16_fold D cA A n0 s0 QM dm ra jx rm Q) (hX : HX p l e R s m args below meth c 6 D cA A n0 s0 QM dm ra jx rm X) : ∀ (σ : Sg), w_X16_fold_323 ra jx rm Q X σ → RG σ → Shp dm ra jx rm σ → JJ p l e R s m args below meth c 6 D cA A n0 s0 QM σ 323 [(0, .ref rm)] [] := by
  intro σ h hGσ hS H locs ls hH hl hc
  have B := K.1
  unfold w_X16_fold_323 at h
  refine lv_aload_n B.1 B.2.1 dX16_fold_323 rfl (lv_at hl 0 rfl) ?_
  refine c_V B hH hl hc K.2.2.1 (C := RX16) (T := TX16) (N := 123) (ci := 16) (As := []) (ok_X16_misplaced K.2.1 σ hGσ hS h) wc_X16_80 0 hd_X16_misplaced ⟨Nat.le_trans (Nat.le_of_ble_eq_true rfl) K.2.2.2.1, Nat.le_trans (Nat.le_of_ble_eq_true rfl) K.2.2.2.2.1⟩ hS.1.1 hS.1.2 (by decide) rfl rfl (rest := []) rfl (Nat.le_of_ble_eq_true rfl) dX16_fold_324 (fun σ151 w hq => ?_) (fun σ9 E9 hx9 => hX σ9 E9 _ _ _ (tb_out K.2.2.2.2.2 rfl) hx9.1 hx9.2.1 hx9.2.2)
  obtain ⟨r152, rfl, h, hGσ151, hS⟩ := hq
  intro H locs ls hH hl hc
  refine W.eq (g2 := F0 m 327 ls [va_rf r152]) (rfl) ?_
  try dsimp only at h
  obtain ⟨qt, h⟩ := h
  refine W.eq (g2 := F0 m 327 ls [.ref (ra 1)]) (by rw [qt]; rfl) ?_
  have hx9 := And.intro h (And.intro hGσ151 hS)
  refine h_athrow B hH hl hc (ci := 14) (hS.ob (k := 1) (ci := 14) (by decide)).1 (hS.ob (k := 1) (ci := 14) (by decide)).2 (by decide) rfl dX16_fold_327 ?_
  exact hX σ151 _ _ _ _ (tb_out K.2.2.2.2.2 rfl) hx9.1 hx9.2.1 hx9.2.2
set_option maxRecDepth 20000 in
theorem a_X16_fold_315 {Q : Sg → Unit → Prop} {X : Sg → String → Prop} (K : MC R p s m args c cX16_fold 6 RX16 D cA tys A n0 s0 142 10045 []) (hQ : HQV p l e R s m args below meth c cX16_fold D cA A n0 s0 QM dm ra jx rm Q) (hX : HX p l e R s m args below meth c 6 D cA A n0 s0 QM dm ra jx rm X) {K243 : Sg → Int → Int → Int → Prop} (hK243 : ∀ (σ : Sg) (v1 : Int) (v2 : Int) (v3 : Int) (g1 : rng v1) (g2 : rng v2) (g3 : rng v3), K243 σ v1 v2 v3 → RG σ → Shp dm ra jx rm σ → JJ p l e R s m args below meth c 6 D cA A n0 s0 QM σ 243 [(0, .ref rm), (1, .int (i32 v1)), (2, .int (i32 v2)), (3, .int (i32 v3))] []) : ∀ (σ : Sg) (v1 : Int) (v2 : Int) (u0 : Int) (g1 : rng v1) (g2 : rng v2) (gu0 : rng u0), w_X16_fold_315 ra jx rm K243 Q X σ v1 v2 u0 → RG σ → Shp dm ra jx rm σ → JJ p l e R s m args below meth c 6 D cA A n0 s0 QM σ 315 [(0, .ref rm), (1, .int (i32 v1)), (2, .int (i32 v2))] [.int (i32 u0)] := by
  intro σ v1 v2 u0 g1 g2 gu0 h hGσ hS H locs ls hH hl hc
  have B := K.1
  unfold w_X16_fold_315 at h
  refine lv_istore (lv' := [(4, .int (i32 u0)), (0, .ref rm), (1, .int (i32 v1)), (2, .int (i32 v2))]) B.1 B.2.1 dX16_fold_315 hl (by decide) rfl (fun ls hl => ?_)
  refine lv_iload B.1 B.2.1 dX16_fold_317 (lv_at hl 0 rfl) ?_
  refine lv_iconst (v := i32 (-1)) B.1 B.2.1 dX16_fold_319 (by decide) ?_
  refine lv_icmp_ne (tgt := 328) B.1 B.2.1 dX16_fold_320 (by decide) (fun h9 => ?_) (fun h9 => ?_)
  · rw [if_pos (fun q => h9 ((i32_eq gu0 (by unfold rng; omega)).mpr q))] at h
    exact a_X16_fold_328 K hQ hX hK243 _ _ _ _ g1 g2 gu0 h hGσ hS _ _ _ hH (lv_sub (l' := [(0, .ref rm), (1, .int (i32 v1)), (2, .int (i32 v2)), (4, .int (i32 u0))]) hl [1, 2, 3, 0] rfl) hc
  · rw [if_neg (fun q => q ((i32_eq gu0 (by unfold rng; omega)).mp h9))] at h
    exact a_X16_fold_323 K hQ hX _ h hGσ hS _ _ _ hH (lv_sub (l' := [(0, .ref rm)]) hl [1] rfl) hc
set_option maxRecDepth 20000 in
theorem a_X16_fold_314 {Q : Sg → Unit → Prop} {X : Sg → String → Prop} (K : MC R p s m args c cX16_fold 6 RX16 D cA tys A n0 s0 142 10045 []) (hQ : HQV p l e R s m args below meth c cX16_fold D cA A n0 s0 QM dm ra jx rm Q) (hX : HX p l e R s m args below meth c 6 D cA A n0 s0 QM dm ra jx rm X) {K243 : Sg → Int → Int → Int → Prop} (hK243 : ∀ (σ : Sg) (v1 : Int) (v2 : Int) (v3 : Int) (g1 : rng v1) (g2 : rng v2) (g3 : rng v3), K243 σ v1 v2 v3 → RG σ → Shp dm ra jx rm σ → JJ p l e R s m args below meth c 6 D cA A n0 s0 QM σ 243 [(0, .ref rm), (1, .int (i32 v1)), (2, .int (i32 v2)), (3, .int (i32 v3))] []) : ∀ (σ : Sg) (v1 : Int) (v2 : Int) (g1 : rng v1) (g2 : rng v2), w_X16_fold_314 ra jx rm K243 Q X σ v1 v2 → RG σ → Shp dm ra jx rm σ → JJ p l e R s m args below meth c 6 D cA A n0 s0 QM σ 314 [(0, .ref rm), (1, .int (i32 v1)), (2, .int (i32 v2))] [] := by
  intro σ v1 v2 g1 g2 h hGσ hS H locs ls hH hl hc
  have B := K.1
  unfold w_X16_fold_314 at h
  refine lv_iconst (v := i32 (-1)) B.1 B.2.1 dX16_fold_314 (by decide) ?_
  exact a_X16_fold_315 K hQ hX hK243 _ _ _ _ g1 g2 (by unfold rng; omega) h hGσ hS _ _ _ hH (lv_sub (l' := [(0, .ref rm), (1, .int (i32 v1)), (2, .int (i32 v2))]) hl [0, 1, 2] rfl) hc
set_option maxRecDepth 20000 in
theorem a_X16_fold_310 {Q : Sg → Unit → Prop} {X : Sg → String → Prop} (K : MC R p s m args c cX16_fold 6 RX16 D cA tys A n0 s0 142 10045 []) (hQ : HQV p l e R s m args below meth c cX16_fold D cA A n0 s0 QM dm ra jx rm Q) (hX : HX p l e R s m args below meth c 6 D cA A n0 s0 QM dm ra jx rm X) {K243 : Sg → Int → Int → Int → Prop} (hK243 : ∀ (σ : Sg) (v1 : Int) (v2 : Int) (v3 : Int) (g1 : rng v1) (g2 : rng v2) (g3 : rng v3), K243 σ v1 v2 v3 → RG σ → Shp dm ra jx rm σ → JJ p l e R s m args below meth c 6 D cA A n0 s0 QM σ 243 [(0, .ref rm), (1, .int (i32 v1)), (2, .int (i32 v2)), (3, .int (i32 v3))] []) : ∀ (σ : Sg) (v1 : Int) (v2 : Int) (g1 : rng v1) (g2 : rng v2), w_X16_fold_310 ra jx rm K243 Q X σ v1 v2 → RG σ → Shp dm ra jx rm σ → JJ p l e R s m args below meth c 6 D cA A n0 s0 QM σ 310 [(0, .ref rm), (1, .int (i32 v1)), (2, .int (i32 v2))] [] := by
  intro σ v1 v2 g1 g2 h hGσ hS H locs ls hH hl hc
  have B := K.1
  unfold w_X16_fold_310 at h
  refine lv_iconst (v := i32 3) B.1 B.2.1 dX16_fold_310 (by decide) ?_
  refine lv_goto (tgt := 315) B.1 B.2.1 dX16_fold_311 (by decide) ?_
  exact a_X16_fold_315 K hQ hX hK243 _ _ _ _ g1 g2 (by unfold rng; omega) h hGσ hS _ _ _ hH (lv_sub (l' := [(0, .ref rm), (1, .int (i32 v1)), (2, .int (i32 v2))]) hl [0, 1, 2] rfl) hc
set_option maxRecDepth 20000 in
theorem a_X16_fold_300 {Q : Sg → Unit → Prop} {X : Sg → String → Prop} (K : MC R p s m args c cX16_fold 6 RX16 D cA tys A n0 s0 142 10045 []) (hQ : HQV p l e R s m args below meth c cX16_fold D cA A n0 s0 QM dm ra jx rm Q) (hX : HX p l e R s m args below meth c 6 D cA A n0 s0 QM dm ra jx rm X) {K243 : Sg → Int → Int → Int → Prop} (hK243 : ∀ (σ : Sg) (v1 : Int) (v2 : Int) (v3 : Int) (g1 : rng v1) (g2 : rng v2) (g3 : rng v3), K243 σ v1 v2 v3 → RG σ → Shp dm ra jx rm σ → JJ p l e R s m args below meth c 6 D cA A n0 s0 QM σ 243 [(0, .ref rm), (1, .int (i32 v1)), (2, .int (i32 v2)), (3, .int (i32 v3))] []) : ∀ (σ : Sg) (v1 : Int) (v2 : Int) (g1 : rng v1) (g2 : rng v2), w_X16_fold_300 ra jx rm K243 Q X σ v1 v2 → RG σ → Shp dm ra jx rm σ → JJ p l e R s m args below meth c 6 D cA A n0 s0 QM σ 300 [(0, .ref rm), (1, .int (i32 v1)), (2, .int (i32 v2))] [] := by
  intro σ v1 v2 g1 g2 h hGσ hS H locs ls hH hl hc
  have B := K.1
  unfold w_X16_fold_300 at h
  refine lv_aload_n B.1 B.2.1 dX16_fold_300 rfl (lv_at hl 0 rfl) ?_
  refine xs_ldcw B.1 B.2.1 B.2.2.1 (B.2.2.2.2.2.2.2.2.2.2.1 _ (List.mem_of_getElem? (l := stL) (i := 10) rfl)).1 dX16_fold_301 ?_
  refine c_V B hH hl hc K.2.2.1 (C := RX16) (T := TX16) (N := 123) (ci := 16) (As := [.ref (cA (1000 + 259))]) (ok_X16_isWord K.2.1 σ 259 st_259 hGσ hS h) wc_X16_103 1 hd_X16_isWord ⟨Nat.le_trans (Nat.le_of_ble_eq_true rfl) K.2.2.2.1, Nat.le_trans (Nat.le_of_ble_eq_true rfl) K.2.2.2.2.1⟩ hS.1.1 hS.1.2 (by decide) rfl rfl (rest := []) rfl (Nat.le_of_ble_eq_true rfl) dX16_fold_304 (fun σ153 w hq => ?_) (fun σ9 E9 hx9 => hX σ9 E9 _ _ _ (tb_out K.2.2.2.2.2 rfl) hx9.1 hx9.2.1 hx9.2.2)
  obtain ⟨r154, rfl, ⟨gr154, gzr154⟩, h, hGσ153, hS⟩ := hq
  intro H locs ls hH hl hc
  refine W.eq (g2 := F0 m 307 ls [.int (i32 r154)]) (rfl) ?_
  try dsimp only at h
  refine lv_if_eq (tgt := 314) B.1 B.2.1 dX16_fold_307 (by decide) (fun h9 => ?_) (fun h9 => ?_)
  · rw [if_pos ((z_eq gr154).mp h9)] at h
    exact a_X16_fold_314 K hQ hX hK243 _ _ _ g1 g2 h hGσ153 hS _ _ _ hH (lv_sub (l' := [(0, .ref rm), (1, .int (i32 v1)), (2, .int (i32 v2))]) hl [0, 1, 2] rfl) hc
  · rw [if_neg (fun q => h9 ((z_eq gr154).mpr q))] at h
    exact a_X16_fold_310 K hQ hX hK243 _ _ _ g1 g2 h hGσ153 hS _ _ _ hH (lv_sub (l' := [(0, .ref rm), (1, .int (i32 v1)), (2, .int (i32 v2))]) hl [0, 1, 2] rfl) hc
set_option maxRecDepth 20000 in
theorem a_X16_fold_296 {Q : Sg → Unit → Prop} {X : Sg → String → Prop} (K : MC R p s m args c cX16_fold 6 RX16 D cA tys A n0 s0 142 10045 []) (hQ : HQV p l e R s m args below meth c cX16_fold D cA A n0 s0 QM dm ra jx rm Q) (hX : HX p l e R s m args below meth c 6 D cA A n0 s0 QM dm ra jx rm X) {K243 : Sg → Int → Int → Int → Prop} (hK243 : ∀ (σ : Sg) (v1 : Int) (v2 : Int) (v3 : Int) (g1 : rng v1) (g2 : rng v2) (g3 : rng v3), K243 σ v1 v2 v3 → RG σ → Shp dm ra jx rm σ → JJ p l e R s m args below meth c 6 D cA A n0 s0 QM σ 243 [(0, .ref rm), (1, .int (i32 v1)), (2, .int (i32 v2)), (3, .int (i32 v3))] []) : ∀ (σ : Sg) (v1 : Int) (v2 : Int) (g1 : rng v1) (g2 : rng v2), w_X16_fold_296 ra jx rm K243 Q X σ v1 v2 → RG σ → Shp dm ra jx rm σ → JJ p l e R s m args below meth c 6 D cA A n0 s0 QM σ 296 [(0, .ref rm), (1, .int (i32 v1)), (2, .int (i32 v2))] [] := by
  intro σ v1 v2 g1 g2 h hGσ hS H locs ls hH hl hc
  have B := K.1
  unfold w_X16_fold_296 at h
  refine lv_iconst (v := i32 2) B.1 B.2.1 dX16_fold_296 (by decide) ?_
  refine lv_goto (tgt := 315) B.1 B.2.1 dX16_fold_297 (by decide) ?_
  exact a_X16_fold_315 K hQ hX hK243 _ _ _ _ g1 g2 (by unfold rng; omega) h hGσ hS _ _ _ hH (lv_sub (l' := [(0, .ref rm), (1, .int (i32 v1)), (2, .int (i32 v2))]) hl [0, 1, 2] rfl) hc
set_option maxRecDepth 20000 in
theorem a_X16_fold_286 {Q : Sg → Unit → Prop} {X : Sg → String → Prop} (K : MC R p s m args c cX16_fold 6 RX16 D cA tys A n0 s0 142 10045 []) (hQ : HQV p l e R s m args below meth c cX16_fold D cA A n0 s0 QM dm ra jx rm Q) (hX : HX p l e R s m args below meth c 6 D cA A n0 s0 QM dm ra jx rm X) {K243 : Sg → Int → Int → Int → Prop} (hK243 : ∀ (σ : Sg) (v1 : Int) (v2 : Int) (v3 : Int) (g1 : rng v1) (g2 : rng v2) (g3 : rng v3), K243 σ v1 v2 v3 → RG σ → Shp dm ra jx rm σ → JJ p l e R s m args below meth c 6 D cA A n0 s0 QM σ 243 [(0, .ref rm), (1, .int (i32 v1)), (2, .int (i32 v2)), (3, .int (i32 v3))] []) : ∀ (σ : Sg) (v1 : Int) (v2 : Int) (g1 : rng v1) (g2 : rng v2), w_X16_fold_286 ra jx rm K243 Q X σ v1 v2 → RG σ → Shp dm ra jx rm σ → JJ p l e R s m args below meth c 6 D cA A n0 s0 QM σ 286 [(0, .ref rm), (1, .int (i32 v1)), (2, .int (i32 v2))] [] := by
  intro σ v1 v2 g1 g2 h hGσ hS H locs ls hH hl hc
  have B := K.1
  unfold w_X16_fold_286 at h
  refine lv_aload_n B.1 B.2.1 dX16_fold_286 rfl (lv_at hl 0 rfl) ?_
  refine xs_ldcw B.1 B.2.1 B.2.2.1 (B.2.2.2.2.2.2.2.2.2.2.1 _ (List.mem_of_getElem? (l := stL) (i := 9) rfl)).1 dX16_fold_287 ?_
  refine c_V B hH hl hc K.2.2.1 (C := RX16) (T := TX16) (N := 123) (ci := 16) (As := [.ref (cA (1000 + 257))]) (ok_X16_isWord K.2.1 σ 257 st_257 hGσ hS h) wc_X16_103 1 hd_X16_isWord ⟨Nat.le_trans (Nat.le_of_ble_eq_true rfl) K.2.2.2.1, Nat.le_trans (Nat.le_of_ble_eq_true rfl) K.2.2.2.2.1⟩ hS.1.1 hS.1.2 (by decide) rfl rfl (rest := []) rfl (Nat.le_of_ble_eq_true rfl) dX16_fold_290 (fun σ155 w hq => ?_) (fun σ9 E9 hx9 => hX σ9 E9 _ _ _ (tb_out K.2.2.2.2.2 rfl) hx9.1 hx9.2.1 hx9.2.2)
  obtain ⟨r156, rfl, ⟨gr156, gzr156⟩, h, hGσ155, hS⟩ := hq
  intro H locs ls hH hl hc
  refine W.eq (g2 := F0 m 293 ls [.int (i32 r156)]) (rfl) ?_
  try dsimp only at h
  refine lv_if_eq (tgt := 300) B.1 B.2.1 dX16_fold_293 (by decide) (fun h9 => ?_) (fun h9 => ?_)
  · rw [if_pos ((z_eq gr156).mp h9)] at h
    exact a_X16_fold_300 K hQ hX hK243 _ _ _ g1 g2 h hGσ155 hS _ _ _ hH (lv_sub (l' := [(0, .ref rm), (1, .int (i32 v1)), (2, .int (i32 v2))]) hl [0, 1, 2] rfl) hc
  · rw [if_neg (fun q => h9 ((z_eq gr156).mpr q))] at h
    exact a_X16_fold_296 K hQ hX hK243 _ _ _ g1 g2 h hGσ155 hS _ _ _ hH (lv_sub (l' := [(0, .ref rm), (1, .int (i32 v1)), (2, .int (i32 v2))]) hl [0, 1, 2] rfl) hc
set_option maxRecDepth 20000 in
theorem a_X16_fold_282 {Q : Sg → Unit → Prop} {X : Sg → String → Prop} (K : MC R p s m args c cX16_fold 6 RX16 D cA tys A n0 s0 142 10045 []) (hQ : HQV p l e R s m args below meth c cX16_fold D cA A n0 s0 QM dm ra jx rm Q) (hX : HX p l e R s m args below meth c 6 D cA A n0 s0 QM dm ra jx rm X) {K243 : Sg → Int → Int → Int → Prop} (hK243 : ∀ (σ : Sg) (v1 : Int) (v2 : Int) (v3 : Int) (g1 : rng v1) (g2 : rng v2) (g3 : rng v3), K243 σ v1 v2 v3 → RG σ → Shp dm ra jx rm σ → JJ p l e R s m args below meth c 6 D cA A n0 s0 QM σ 243 [(0, .ref rm), (1, .int (i32 v1)), (2, .int (i32 v2)), (3, .int (i32 v3))] []) : ∀ (σ : Sg) (v1 : Int) (v2 : Int) (g1 : rng v1) (g2 : rng v2), w_X16_fold_282 ra jx rm K243 Q X σ v1 v2 → RG σ → Shp dm ra jx rm σ → JJ p l e R s m args below meth c 6 D cA A n0 s0 QM σ 282 [(0, .ref rm), (1, .int (i32 v1)), (2, .int (i32 v2))] [] := by
  intro σ v1 v2 g1 g2 h hGσ hS H locs ls hH hl hc
  have B := K.1
  unfold w_X16_fold_282 at h
  refine lv_iconst (v := i32 1) B.1 B.2.1 dX16_fold_282 (by decide) ?_
  refine lv_goto (tgt := 315) B.1 B.2.1 dX16_fold_283 (by decide) ?_
  exact a_X16_fold_315 K hQ hX hK243 _ _ _ _ g1 g2 (by unfold rng; omega) h hGσ hS _ _ _ hH (lv_sub (l' := [(0, .ref rm), (1, .int (i32 v1)), (2, .int (i32 v2))]) hl [0, 1, 2] rfl) hc
set_option maxRecDepth 20000 in
theorem a_X16_fold_272 {Q : Sg → Unit → Prop} {X : Sg → String → Prop} (K : MC R p s m args c cX16_fold 6 RX16 D cA tys A n0 s0 142 10045 []) (hQ : HQV p l e R s m args below meth c cX16_fold D cA A n0 s0 QM dm ra jx rm Q) (hX : HX p l e R s m args below meth c 6 D cA A n0 s0 QM dm ra jx rm X) {K243 : Sg → Int → Int → Int → Prop} (hK243 : ∀ (σ : Sg) (v1 : Int) (v2 : Int) (v3 : Int) (g1 : rng v1) (g2 : rng v2) (g3 : rng v3), K243 σ v1 v2 v3 → RG σ → Shp dm ra jx rm σ → JJ p l e R s m args below meth c 6 D cA A n0 s0 QM σ 243 [(0, .ref rm), (1, .int (i32 v1)), (2, .int (i32 v2)), (3, .int (i32 v3))] []) : ∀ (σ : Sg) (v1 : Int) (v2 : Int) (g1 : rng v1) (g2 : rng v2), w_X16_fold_272 ra jx rm K243 Q X σ v1 v2 → RG σ → Shp dm ra jx rm σ → JJ p l e R s m args below meth c 6 D cA A n0 s0 QM σ 272 [(0, .ref rm), (1, .int (i32 v1)), (2, .int (i32 v2))] [] := by
  intro σ v1 v2 g1 g2 h hGσ hS H locs ls hH hl hc
  have B := K.1
  unfold w_X16_fold_272 at h
  refine lv_aload_n B.1 B.2.1 dX16_fold_272 rfl (lv_at hl 0 rfl) ?_
  refine xs_ldcw B.1 B.2.1 B.2.2.1 (B.2.2.2.2.2.2.2.2.2.2.1 _ (List.mem_of_getElem? (l := stL) (i := 8) rfl)).1 dX16_fold_273 ?_
  refine c_V B hH hl hc K.2.2.1 (C := RX16) (T := TX16) (N := 123) (ci := 16) (As := [.ref (cA (1000 + 256))]) (ok_X16_isWord K.2.1 σ 256 st_256 hGσ hS h) wc_X16_103 1 hd_X16_isWord ⟨Nat.le_trans (Nat.le_of_ble_eq_true rfl) K.2.2.2.1, Nat.le_trans (Nat.le_of_ble_eq_true rfl) K.2.2.2.2.1⟩ hS.1.1 hS.1.2 (by decide) rfl rfl (rest := []) rfl (Nat.le_of_ble_eq_true rfl) dX16_fold_276 (fun σ157 w hq => ?_) (fun σ9 E9 hx9 => hX σ9 E9 _ _ _ (tb_out K.2.2.2.2.2 rfl) hx9.1 hx9.2.1 hx9.2.2)
  obtain ⟨r158, rfl, ⟨gr158, gzr158⟩, h, hGσ157, hS⟩ := hq
  intro H locs ls hH hl hc
  refine W.eq (g2 := F0 m 279 ls [.int (i32 r158)]) (rfl) ?_
  try dsimp only at h
  refine lv_if_eq (tgt := 286) B.1 B.2.1 dX16_fold_279 (by decide) (fun h9 => ?_) (fun h9 => ?_)
  · rw [if_pos ((z_eq gr158).mp h9)] at h
    exact a_X16_fold_286 K hQ hX hK243 _ _ _ g1 g2 h hGσ157 hS _ _ _ hH (lv_sub (l' := [(0, .ref rm), (1, .int (i32 v1)), (2, .int (i32 v2))]) hl [0, 1, 2] rfl) hc
  · rw [if_neg (fun q => h9 ((z_eq gr158).mpr q))] at h
    exact a_X16_fold_282 K hQ hX hK243 _ _ _ g1 g2 h hGσ157 hS _ _ _ hH (lv_sub (l' := [(0, .ref rm), (1, .int (i32 v1)), (2, .int (i32 v2))]) hl [0, 1, 2] rfl) hc
set_option maxRecDepth 20000 in
theorem a_X16_fold_268 {Q : Sg → Unit → Prop} {X : Sg → String → Prop} (K : MC R p s m args c cX16_fold 6 RX16 D cA tys A n0 s0 142 10045 []) (hQ : HQV p l e R s m args below meth c cX16_fold D cA A n0 s0 QM dm ra jx rm Q) (hX : HX p l e R s m args below meth c 6 D cA A n0 s0 QM dm ra jx rm X) {K243 : Sg → Int → Int → Int → Prop} (hK243 : ∀ (σ : Sg) (v1 : Int) (v2 : Int) (v3 : Int) (g1 : rng v1) (g2 : rng v2) (g3 : rng v3), K243 σ v1 v2 v3 → RG σ → Shp dm ra jx rm σ → JJ p l e R s m args below meth c 6 D cA A n0 s0 QM σ 243 [(0, .ref rm), (1, .int (i32 v1)), (2, .int (i32 v2)), (3, .int (i32 v3))] []) : ∀ (σ : Sg) (v1 : Int) (v2 : Int) (g1 : rng v1) (g2 : rng v2), w_X16_fold_268 ra jx rm K243 Q X σ v1 v2 → RG σ → Shp dm ra jx rm σ → JJ p l e R s m args below meth c 6 D cA A n0 s0 QM σ 268 [(0, .ref rm), (1, .int (i32 v1)), (2, .int (i32 v2))] [] := by
  intro σ v1 v2 g1 g2 h hGσ hS H locs ls hH hl hc
  have B := K.1
  unfold w_X16_fold_268 at h
  refine lv_iconst (v := i32 0) B.1 B.2.1 dX16_fold_268 (by decide) ?_
  refine lv_goto (tgt := 315) B.1 B.2.1 dX16_fold_269 (by decide) ?_
  exact a_X16_fold_315 K hQ hX hK243 _ _ _ _ g1 g2 (by unfold rng; omega) h hGσ hS _ _ _ hH (lv_sub (l' := [(0, .ref rm), (1, .int (i32 v1)), (2, .int (i32 v2))]) hl [0, 1, 2] rfl) hc
set_option maxRecDepth 20000 in
theorem a_X16_fold_247 {Q : Sg → Unit → Prop} {X : Sg → String → Prop} (K : MC R p s m args c cX16_fold 6 RX16 D cA tys A n0 s0 142 10045 []) (hQ : HQV p l e R s m args below meth c cX16_fold D cA A n0 s0 QM dm ra jx rm Q) (hX : HX p l e R s m args below meth c 6 D cA A n0 s0 QM dm ra jx rm X) {K243 : Sg → Int → Int → Int → Prop} (hK243 : ∀ (σ : Sg) (v1 : Int) (v2 : Int) (v3 : Int) (g1 : rng v1) (g2 : rng v2) (g3 : rng v3), K243 σ v1 v2 v3 → RG σ → Shp dm ra jx rm σ → JJ p l e R s m args below meth c 6 D cA A n0 s0 QM σ 243 [(0, .ref rm), (1, .int (i32 v1)), (2, .int (i32 v2)), (3, .int (i32 v3))] []) : ∀ (σ : Sg) (v1 : Int) (v2 : Int) (g1 : rng v1) (g2 : rng v2), w_X16_fold_247 ra jx rm K243 Q X σ v1 v2 → RG σ → Shp dm ra jx rm σ → JJ p l e R s m args below meth c 6 D cA A n0 s0 QM σ 247 [(0, .ref rm), (1, .int (i32 v1)), (2, .int (i32 v2))] [] := by
  intro σ v1 v2 g1 g2 h hGσ hS H locs ls hH hl hc
  have B := K.1
  unfold w_X16_fold_247 at h
  refine lv_aload_n B.1 B.2.1 dX16_fold_247 rfl (lv_at hl 0 rfl) ?_
  refine lv_iload_n B.1 B.2.1 dX16_fold_248 rfl (lv_at hl 1 rfl) ?_
  refine lv_iconst (v := i32 5) B.1 B.2.1 dX16_fold_249 (by decide) ?_
  refine c_V B hH hl hc K.2.2.1 (C := RX16) (T := TX16) (N := 123) (ci := 16) (As := [.int (i32 v1), .int (i32 5)]) (ok_X16_newColumn K.2.1 σ v1 5 g1 (by unfold rng; omega) hGσ hS h) wc_X16_194 2 hd_X16_newColumn ⟨Nat.le_trans (Nat.le_of_ble_eq_true rfl) K.2.2.2.1, Nat.le_trans (Nat.le_of_ble_eq_true rfl) K.2.2.2.2.1⟩ hS.1.1 hS.1.2 (by decide) rfl rfl (rest := []) rfl (Nat.le_of_ble_eq_true rfl) dX16_fold_250 (fun σ159 w hq => ?_) (fun σ9 E9 hx9 => hX σ9 E9 _ _ _ (tb_out K.2.2.2.2.2 rfl) hx9.1 hx9.2.1 hx9.2.2)
  obtain ⟨rfl, h, hGσ159, hS⟩ := hq
  intro H locs ls hH hl hc
  refine W.eq (g2 := F0 m 253 ls []) (rfl) ?_
  try dsimp only at h
  refine lv_aload_n B.1 B.2.1 dX16_fold_253 rfl (lv_at hl 0 rfl) ?_
  refine lv_bipush (v := i32 61) B.1 B.2.1 dX16_fold_254 (by decide) ?_
  refine c_V B hH hl hc K.2.2.1 (C := RX16) (T := TX16) (N := 123) (ci := 16) (As := [.int (i32 61)]) (ok_X16_sign K.2.1 σ159 61 (by unfold rng; omega) hGσ159 hS h) wc_X16_159 1 hd_X16_sign ⟨Nat.le_trans (Nat.le_of_ble_eq_true rfl) K.2.2.2.1, Nat.le_trans (Nat.le_of_ble_eq_true rfl) K.2.2.2.2.1⟩ hS.1.1 hS.1.2 (by decide) rfl rfl (rest := []) rfl (Nat.le_of_ble_eq_true rfl) dX16_fold_256 (fun σ160 w hq => ?_) (fun σ9 E9 hx9 => hX σ9 E9 _ _ _ (tb_out K.2.2.2.2.2 rfl) hx9.1 hx9.2.1 hx9.2.2)
  obtain ⟨rfl, h, hGσ160, hS⟩ := hq
  intro H locs ls hH hl hc
  refine W.eq (g2 := F0 m 259 ls []) (rfl) ?_
  try dsimp only at h
  refine lv_aload_n B.1 B.2.1 dX16_fold_259 rfl (lv_at hl 0 rfl) ?_
  refine xs_ldc B.1 B.2.1 B.2.2.1 (B.2.2.2.2.2.2.2.2.2.2.1 _ (List.mem_of_getElem? (l := stL) (i := 7) rfl)).1 dX16_fold_260 ?_
  refine c_V B hH hl hc K.2.2.1 (C := RX16) (T := TX16) (N := 123) (ci := 16) (As := [.ref (cA (1000 + 254))]) (ok_X16_isWord K.2.1 σ160 254 st_254 hGσ160 hS h) wc_X16_103 1 hd_X16_isWord ⟨Nat.le_trans (Nat.le_of_ble_eq_true rfl) K.2.2.2.1, Nat.le_trans (Nat.le_of_ble_eq_true rfl) K.2.2.2.2.1⟩ hS.1.1 hS.1.2 (by decide) rfl rfl (rest := []) rfl (Nat.le_of_ble_eq_true rfl) dX16_fold_262 (fun σ161 w hq => ?_) (fun σ9 E9 hx9 => hX σ9 E9 _ _ _ (tb_out K.2.2.2.2.2 rfl) hx9.1 hx9.2.1 hx9.2.2)
  obtain ⟨r162, rfl, ⟨gr162, gzr162⟩, h, hGσ161, hS⟩ := hq
  intro H locs ls hH hl hc
  refine W.eq (g2 := F0 m 265 ls [.int (i32 r162)]) (rfl) ?_
  try dsimp only at h
  refine lv_if_eq (tgt := 272) B.1 B.2.1 dX16_fold_265 (by decide) (fun h9 => ?_) (fun h9 => ?_)
  · rw [if_pos ((z_eq gr162).mp h9)] at h
    exact a_X16_fold_272 K hQ hX hK243 _ _ _ g1 g2 h hGσ161 hS _ _ _ hH (lv_sub (l' := [(0, .ref rm), (1, .int (i32 v1)), (2, .int (i32 v2))]) hl [0, 1, 2] rfl) hc
  · rw [if_neg (fun q => h9 ((z_eq gr162).mpr q))] at h
    exact a_X16_fold_268 K hQ hX hK243 _ _ _ g1 g2 h hGσ161 hS _ _ _ hH (lv_sub (l' := [(0, .ref rm), (1, .int (i32 v1)), (2, .int (i32 v2))]) hl [0, 1, 2] rfl) hc
set_option maxRecDepth 20000 in
theorem a_X16_fold_243 {Q : Sg → Unit → Prop} {X : Sg → String → Prop} (K : MC R p s m args c cX16_fold 6 RX16 D cA tys A n0 s0 142 10045 []) (hQ : HQV p l e R s m args below meth c cX16_fold D cA A n0 s0 QM dm ra jx rm Q) (hX : HX p l e R s m args below meth c 6 D cA A n0 s0 QM dm ra jx rm X) {K243 : Sg → Int → Int → Int → Prop} (hK243 : ∀ (σ : Sg) (v1 : Int) (v2 : Int) (v3 : Int) (g1 : rng v1) (g2 : rng v2) (g3 : rng v3), K243 σ v1 v2 v3 → RG σ → Shp dm ra jx rm σ → JJ p l e R s m args below meth c 6 D cA A n0 s0 QM σ 243 [(0, .ref rm), (1, .int (i32 v1)), (2, .int (i32 v2)), (3, .int (i32 v3))] []) : ∀ (σ : Sg) (v1 : Int) (v2 : Int) (v3 : Int) (g1 : rng v1) (g2 : rng v2) (g3 : rng v3), w_X16_fold_243 ra jx rm K243 Q X σ v1 v2 v3 → RG σ → Shp dm ra jx rm σ → JJ p l e R s m args below meth c 6 D cA A n0 s0 QM σ 243 [(0, .ref rm), (1, .int (i32 v1)), (2, .int (i32 v2)), (3, .int (i32 v3))] [] := by
  intro σ v1 v2 v3 g1 g2 g3 h hGσ hS H locs ls hH hl hc
  have B := K.1
  unfold w_X16_fold_243 at h
  refine lv_iload_n B.1 B.2.1 dX16_fold_243 rfl (lv_at hl 3 rfl) ?_
  refine lv_if_eq (tgt := 432) B.1 B.2.1 dX16_fold_244 (by decide) (fun h9 => ?_) (fun h9 => ?_)
  · rw [if_pos ((z_eq g3).mp h9)] at h
    exact a_X16_fold_432 K hQ hX _ h hGσ hS _ _ _ hH (lv_sub (l' := [(0, .ref rm)]) hl [0] rfl) hc
  · rw [if_neg (fun q => h9 ((z_eq g3).mpr q))] at h
    exact a_X16_fold_247 K hQ hX hK243 _ _ _ g1 g2 h hGσ hS _ _ _ hH (lv_sub (l' := [(0, .ref rm), (1, .int (i32 v1)), (2, .int (i32 v2))]) hl [0, 1, 2] rfl) hc
theorem al_X16_fold_243 {Q : Sg → Unit → Prop} {X : Sg → String → Prop} (K : MC R p s m args c cX16_fold 6 RX16 D cA tys A n0 s0 142 10045 []) (hQ : HQV p l e R s m args below meth c cX16_fold D cA A n0 s0 QM dm ra jx rm Q) (hX : HX p l e R s m args below meth c 6 D cA A n0 s0 QM dm ra jx rm X) : ∀ (n : Nat), ∀ (σ : Sg) (v1 : Int) (v2 : Int) (v3 : Int) (g1 : rng v1) (g2 : rng v2) (g3 : rng v3), wl_X16_fold_243 ra jx rm Q X n σ v1 v2 v3 → RG σ → Shp dm ra jx rm σ → JJ p l e R s m args below meth c 6 D cA A n0 s0 QM σ 243 [(0, .ref rm), (1, .int (i32 v1)), (2, .int (i32 v2)), (3, .int (i32 v3))] [] := by
  intro n
  induction n with
  | zero => intro σ v1 v2 v3 g1 g2 g3 h; exact h.elim
  | succ n ih => exact fun σ v1 v2 v3 g1 g2 g3 h => a_X16_fold_243 K hQ hX ih σ v1 v2 v3 g1 g2 g3 h
set_option maxRecDepth 20000 in
theorem a_X16_fold_235 {Q : Sg → Unit → Prop} {X : Sg → String → Prop} (K : MC R p s m args c cX16_fold 6 RX16 D cA tys A n0 s0 142 10045 []) (hQ : HQV p l e R s m args below meth c cX16_fold D cA A n0 s0 QM dm ra jx rm Q) (hX : HX p l e R s m args below meth c 6 D cA A n0 s0 QM dm ra jx rm X) : ∀ (σ : Sg) (v1 : Int) (v2 : Int) (g1 : rng v1) (g2 : rng v2), w_X16_fold_235 ra jx rm Q X σ v1 v2 → RG σ → Shp dm ra jx rm σ → JJ p l e R s m args below meth c 6 D cA A n0 s0 QM σ 235 [(0, .ref rm), (1, .int (i32 v1)), (2, .int (i32 v2))] [] := by
  intro σ v1 v2 g1 g2 h hGσ hS H locs ls hH hl hc
  have B := K.1
  unfold w_X16_fold_235 at h
  refine lv_aload_n B.1 B.2.1 dX16_fold_235 rfl (lv_at hl 0 rfl) ?_
  refine lv_bipush (v := i32 58) B.1 B.2.1 dX16_fold_236 (by decide) ?_
  refine c_V B hH hl hc K.2.2.1 (C := RX16) (T := TX16) (N := 123) (ci := 16) (As := [.int (i32 58)]) (ok_X16_sign K.2.1 σ 58 (by unfold rng; omega) hGσ hS h) wc_X16_159 1 hd_X16_sign ⟨Nat.le_trans (Nat.le_of_ble_eq_true rfl) K.2.2.2.1, Nat.le_trans (Nat.le_of_ble_eq_true rfl) K.2.2.2.2.1⟩ hS.1.1 hS.1.2 (by decide) rfl rfl (rest := []) rfl (Nat.le_of_ble_eq_true rfl) dX16_fold_238 (fun σ163 w hq => ?_) (fun σ9 E9 hx9 => hX σ9 E9 _ _ _ (tb_out K.2.2.2.2.2 rfl) hx9.1 hx9.2.1 hx9.2.2)
  obtain ⟨rfl, h, hGσ163, hS⟩ := hq
  intro H locs ls hH hl hc
  refine W.eq (g2 := F0 m 241 ls []) (rfl) ?_
  try dsimp only at h
  refine lv_iconst (v := i32 1) B.1 B.2.1 dX16_fold_241 (by decide) ?_
  refine lv_istore_n (lv' := [(3, .int (i32 1)), (0, .ref rm), (1, .int (i32 v1)), (2, .int (i32 v2))]) B.1 B.2.1 dX16_fold_242 rfl hl (by decide) rfl (fun ls hl => ?_)
  obtain ⟨n9, h⟩ := h
  exact al_X16_fold_243 K hQ hX n9 _ _ _ _ g1 g2 (by unfold rng; omega) h hGσ163 hS _ _ _ hH (lv_sub (l' := [(0, .ref rm), (1, .int (i32 v1)), (2, .int (i32 v2)), (3, .int (i32 1))]) hl [1, 2, 3, 0] rfl) hc
set_option maxRecDepth 20000 in
theorem a_X16_fold_202 {Q : Sg → Unit → Prop} {X : Sg → String → Prop} (K : MC R p s m args c cX16_fold 6 RX16 D cA tys A n0 s0 142 10045 []) (hQ : HQV p l e R s m args below meth c cX16_fold D cA A n0 s0 QM dm ra jx rm Q) (hX : HX p l e R s m args below meth c 6 D cA A n0 s0 QM dm ra jx rm X) : ∀ (σ : Sg) (v1 : Int) (v2 : Int) (g1 : rng v1) (g2 : rng v2), w_X16_fold_202 ra jx rm Q X σ v1 v2 → RG σ → Shp dm ra jx rm σ → JJ p l e R s m args below meth c 6 D cA A n0 s0 QM σ 202 [(0, .ref rm), (1, .int (i32 v1)), (2, .int (i32 v2))] [] := by
  intro σ v1 v2 g1 g2 h hGσ hS H locs ls hH hl hc
  have B := K.1
  unfold w_X16_fold_202 at h
  refine lv_aload_n B.1 B.2.1 dX16_fold_202 rfl (lv_at hl 0 rfl) ?_
  refine xs_ldc B.1 B.2.1 B.2.2.1 (B.2.2.2.2.2.2.2.2.2.2.1 _ (List.mem_of_getElem? (l := stL) (i := 6) rfl)).1 dX16_fold_203 ?_
  refine c_V B hH hl hc K.2.2.1 (C := RX16) (T := TX16) (N := 123) (ci := 16) (As := [.ref (cA (1000 + 252))]) (ok_X16_keyword K.2.1 σ 252 st_252 hGσ hS h) wc_X16_200 1 hd_X16_keyword ⟨Nat.le_trans (Nat.le_of_ble_eq_true rfl) K.2.2.2.1, Nat.le_trans (Nat.le_of_ble_eq_true rfl) K.2.2.2.2.1⟩ hS.1.1 hS.1.2 (by decide) rfl rfl (rest := []) rfl (Nat.le_of_ble_eq_true rfl) dX16_fold_205 (fun σ164 w hq => ?_) (fun σ9 E9 hx9 => hX σ9 E9 _ _ _ (tb_out K.2.2.2.2.2 rfl) hx9.1 hx9.2.1 hx9.2.2)
  obtain ⟨rfl, h, hGσ164, hS⟩ := hq
  intro H locs ls hH hl hc
  refine W.eq (g2 := F0 m 208 ls []) (rfl) ?_
  try dsimp only at h
  refine lv_aload_n B.1 B.2.1 dX16_fold_208 rfl (lv_at hl 0 rfl) ?_
  refine r_getp B hH hS 18 (by decide) wf_X16_118 rfl rfl dX16_fold_209 ?_
  obtain ⟨a165, ea165, ja165, h⟩ := h
  refine W.eq (g2 := F0 m 212 ls [.ref a165]) (by rw [ea165]; rfl) ?_
  refine n_arr B hH hS ja165 2 (kd := 100) (n := 16) (by decide) (by decide) (List.mem_of_getElem? (i := 2) rfl) rfl dX16_fold_212 ?_
  refine lv_iload_n B.1 B.2.1 dX16_fold_215 rfl (lv_at hl 1 rfl) ?_
  refine lv_iconst (v := i32 5) B.1 B.2.1 dX16_fold_216 (by decide) ?_
  obtain ⟨q2, h⟩ := h
  obtain ⟨σ166, eσ166⟩ : ∃ z, z = pI σ164 (jx a165 2) v1.toNat 5 := ⟨_, rfl⟩
  have h := h σ166 eσ166
  refine x_iast B K.2.1 hH (hS.ja ja165 (k := 2) (kd := 100) (n := 16) (by decide)) (by decide) q2 dX16_fold_217 (fun H locs hH => ?_)
  have hH : Hd D cA A s (pI σ164 (jx a165 2) v1.toNat 5) H locs := hH
  rw [← eσ166] at hH
  have hGσ166 : RG σ166 := by rw [eσ166]; exact hGσ164.pI (by unfold rng; omega)
  have hS : Shp dm ra jx rm σ166 := by rw [eσ166]; exact hS
  have hc : CB n0 s0 σ166 := by rw [eσ166]; exact hc
  rw [show gc σ164 = gc σ166 by rw [eσ166], show gs σ164 = gs σ166 by rw [eσ166]]
  refine lv_aload_n B.1 B.2.1 dX16_fold_218 rfl (lv_at hl 0 rfl) ?_
  refine r_getp B hH hS 18 (by decide) wf_X16_118 rfl rfl dX16_fold_219 ?_
  obtain ⟨a167, ea167, ja167, h⟩ := h
  refine W.eq (g2 := F0 m 222 ls [.ref a167]) (by rw [ea167]; rfl) ?_
  refine n_arr B hH hS ja167 8 (kd := 101) (n := 16) (by decide) (by decide) (List.mem_of_getElem? (i := 8) rfl) rfl dX16_fold_222 ?_
  refine lv_iload_n B.1 B.2.1 dX16_fold_225 rfl (lv_at hl 1 rfl) ?_
  refine lv_aload_n B.1 B.2.1 dX16_fold_226 rfl (lv_at hl 0 rfl) ?_
  refine lv_lconst (v := 1) B.1 B.2.1 dX16_fold_227 (by decide) ?_
  refine lv_ldc2 B.1 B.2.1 B.2.2.1 (B.2.2.2.1 _ (wk_X16_207)) dX16_fold_228 ?_
  refine c_V B hH hl hc K.2.2.1 (C := RX16) (T := TX16) (N := 123) (ci := 16) (As := [.long 1, .long 1000]) (ok_X16_bounded K.2.1 σ166 1 1000 hGσ166 hS h) wc_X16_209 2 hd_X16_bounded ⟨Nat.le_trans (Nat.le_of_ble_eq_true rfl) K.2.2.2.1, Nat.le_trans (Nat.le_of_ble_eq_true rfl) K.2.2.2.2.1⟩ hS.1.1 hS.1.2 (by decide) rfl rfl (rest := [.int (i32 v1), .ref (jx a167 8)]) rfl (Nat.le_of_ble_eq_true rfl) dX16_fold_231 (fun σ168 w hq => ?_) (fun σ9 E9 hx9 => hX σ9 E9 _ _ _ (tb_out K.2.2.2.2.2 rfl) hx9.1 hx9.2.1 hx9.2.2)
  obtain ⟨r169, rfl, h, hGσ168, hS⟩ := hq
  intro H locs ls hH hl hc
  refine W.eq (g2 := F0 m 234 ls [.long r169, .int (i32 v1), .ref (jx a167 8)]) (rfl) ?_
  try dsimp only at h
  obtain ⟨q5, h⟩ := h
  obtain ⟨σ170, eσ170⟩ : ∃ z, z = pJ σ168 (jx a167 8) v1.toNat r169 := ⟨_, rfl⟩
  have h := h σ170 eσ170
  refine x_last B K.2.1 hH (hS.ja ja167 (k := 8) (kd := 101) (n := 16) (by decide)) (by decide) q5 dX16_fold_234 (fun H locs hH => ?_)
  have hH : Hd D cA A s (pJ σ168 (jx a167 8) v1.toNat r169) H locs := hH
  rw [← eσ170] at hH
  have hGσ170 : RG σ170 := by rw [eσ170]; exact hGσ168.pJ
  have hS : Shp dm ra jx rm σ170 := by rw [eσ170]; exact hS
  have hc : CB n0 s0 σ170 := by rw [eσ170]; exact hc
  rw [show gc σ168 = gc σ170 by rw [eσ170], show gs σ168 = gs σ170 by rw [eσ170]]
  exact a_X16_fold_235 K hQ hX _ _ _ g1 g2 h hGσ170 hS _ _ _ hH (lv_sub (l' := [(0, .ref rm), (1, .int (i32 v1)), (2, .int (i32 v2))]) hl [0, 1, 2] rfl) hc
set_option maxRecDepth 20000 in
theorem a_X16_fold_182 {Q : Sg → Unit → Prop} {X : Sg → String → Prop} (K : MC R p s m args c cX16_fold 6 RX16 D cA tys A n0 s0 142 10045 []) (hQ : HQV p l e R s m args below meth c cX16_fold D cA A n0 s0 QM dm ra jx rm Q) (hX : HX p l e R s m args below meth c 6 D cA A n0 s0 QM dm ra jx rm X) : ∀ (σ : Sg) (v1 : Int) (v2 : Int) (g1 : rng v1) (g2 : rng v2), w_X16_fold_182 ra jx rm Q X σ v1 v2 → RG σ → Shp dm ra jx rm σ → JJ p l e R s m args below meth c 6 D cA A n0 s0 QM σ 182 [(0, .ref rm), (1, .int (i32 v1)), (2, .int (i32 v2))] [] := by
  intro σ v1 v2 g1 g2 h hGσ hS H locs ls hH hl hc
  have B := K.1
  unfold w_X16_fold_182 at h
  refine lv_aload_n B.1 B.2.1 dX16_fold_182 rfl (lv_at hl 0 rfl) ?_
  refine r_getp B hH hS 18 (by decide) wf_X16_118 rfl rfl dX16_fold_183 ?_
  obtain ⟨a171, ea171, ja171, h⟩ := h
  refine W.eq (g2 := F0 m 186 ls [.ref a171]) (by rw [ea171]; rfl) ?_
  refine n_arr B hH hS ja171 9 (kd := 101) (n := 16) (by decide) (by decide) (List.mem_of_getElem? (i := 9) rfl) rfl dX16_fold_186 ?_
  refine lv_iload_n B.1 B.2.1 dX16_fold_189 rfl (lv_at hl 1 rfl) ?_
  refine lv_aload_n B.1 B.2.1 dX16_fold_190 rfl (lv_at hl 0 rfl) ?_
  refine lv_lconst (v := 1) B.1 B.2.1 dX16_fold_191 (by decide) ?_
  refine lv_ldc2 B.1 B.2.1 B.2.2.1 (B.2.2.2.1 _ (wk_X16_207)) dX16_fold_192 ?_
  refine c_V B hH hl hc K.2.2.1 (C := RX16) (T := TX16) (N := 123) (ci := 16) (As := [.long 1, .long 1000]) (ok_X16_bounded K.2.1 σ 1 1000 hGσ hS h) wc_X16_209 2 hd_X16_bounded ⟨Nat.le_trans (Nat.le_of_ble_eq_true rfl) K.2.2.2.1, Nat.le_trans (Nat.le_of_ble_eq_true rfl) K.2.2.2.2.1⟩ hS.1.1 hS.1.2 (by decide) rfl rfl (rest := [.int (i32 v1), .ref (jx a171 9)]) rfl (Nat.le_of_ble_eq_true rfl) dX16_fold_195 (fun σ172 w hq => ?_) (fun σ9 E9 hx9 => hX σ9 E9 _ _ _ (tb_out K.2.2.2.2.2 rfl) hx9.1 hx9.2.1 hx9.2.2)
  obtain ⟨r173, rfl, h, hGσ172, hS⟩ := hq
  intro H locs ls hH hl hc
  refine W.eq (g2 := F0 m 198 ls [.long r173, .int (i32 v1), .ref (jx a171 9)]) (rfl) ?_
  try dsimp only at h
  obtain ⟨q2, h⟩ := h
  obtain ⟨σ174, eσ174⟩ : ∃ z, z = pJ σ172 (jx a171 9) v1.toNat r173 := ⟨_, rfl⟩
  have h := h σ174 eσ174
  refine x_last B K.2.1 hH (hS.ja ja171 (k := 9) (kd := 101) (n := 16) (by decide)) (by decide) q2 dX16_fold_198 (fun H locs hH => ?_)
  have hH : Hd D cA A s (pJ σ172 (jx a171 9) v1.toNat r173) H locs := hH
  rw [← eσ174] at hH
  have hGσ174 : RG σ174 := by rw [eσ174]; exact hGσ172.pJ
  have hS : Shp dm ra jx rm σ174 := by rw [eσ174]; exact hS
  have hc : CB n0 s0 σ174 := by rw [eσ174]; exact hc
  rw [show gc σ172 = gc σ174 by rw [eσ174], show gs σ172 = gs σ174 by rw [eσ174]]
  refine lv_goto (tgt := 235) B.1 B.2.1 dX16_fold_199 (by decide) ?_
  exact a_X16_fold_235 K hQ hX _ _ _ g1 g2 h hGσ174 hS _ _ _ hH (lv_sub (l' := [(0, .ref rm), (1, .int (i32 v1)), (2, .int (i32 v2))]) hl [0, 1, 2] rfl) hc
set_option maxRecDepth 20000 in
theorem a_X16_fold_175 {Q : Sg → Unit → Prop} {X : Sg → String → Prop} (K : MC R p s m args c cX16_fold 6 RX16 D cA tys A n0 s0 142 10045 []) (hQ : HQV p l e R s m args below meth c cX16_fold D cA A n0 s0 QM dm ra jx rm Q) (hX : HX p l e R s m args below meth c 6 D cA A n0 s0 QM dm ra jx rm X) : ∀ (σ : Sg), w_X16_fold_175 ra jx rm Q X σ → RG σ → Shp dm ra jx rm σ → JJ p l e R s m args below meth c 6 D cA A n0 s0 QM σ 175 [(0, .ref rm)] [] := by
  intro σ h hGσ hS H locs ls hH hl hc
  have B := K.1
  unfold w_X16_fold_175 at h
  refine lv_aload_n B.1 B.2.1 dX16_fold_175 rfl (lv_at hl 0 rfl) ?_
  refine lv_bipush (v := i32 7) B.1 B.2.1 dX16_fold_176 (by decide) ?_
  refine c_V B hH hl hc K.2.2.1 (C := RX16) (T := TX16) (N := 123) (ci := 16) (As := [.int (i32 7)]) (ok_X16_fail K.2.1 σ 7 (by unfold rng; omega) hGσ hS h) wc_X16_65 1 hd_X16_fail ⟨Nat.le_trans (Nat.le_of_ble_eq_true rfl) K.2.2.2.1, Nat.le_trans (Nat.le_of_ble_eq_true rfl) K.2.2.2.2.1⟩ hS.1.1 hS.1.2 (by decide) rfl rfl (rest := []) rfl (Nat.le_of_ble_eq_true rfl) dX16_fold_178 (fun σ175 w hq => ?_) (fun σ9 E9 hx9 => hX σ9 E9 _ _ _ (tb_out K.2.2.2.2.2 rfl) hx9.1 hx9.2.1 hx9.2.2)
  obtain ⟨r176, rfl, h, hGσ175, hS⟩ := hq
  intro H locs ls hH hl hc
  refine W.eq (g2 := F0 m 181 ls [va_rf r176]) (rfl) ?_
  try dsimp only at h
  obtain ⟨qt, h⟩ := h
  refine W.eq (g2 := F0 m 181 ls [.ref (ra 1)]) (by rw [qt]; rfl) ?_
  have hx9 := And.intro h (And.intro hGσ175 hS)
  refine h_athrow B hH hl hc (ci := 14) (hS.ob (k := 1) (ci := 14) (by decide)).1 (hS.ob (k := 1) (ci := 14) (by decide)).2 (by decide) rfl dX16_fold_181 ?_
  exact hX σ175 _ _ _ _ (tb_out K.2.2.2.2.2 rfl) hx9.1 hx9.2.1 hx9.2.2
set_option maxRecDepth 20000 in
theorem a_X16_fold_154 {Q : Sg → Unit → Prop} {X : Sg → String → Prop} (K : MC R p s m args c cX16_fold 6 RX16 D cA tys A n0 s0 142 10045 []) (hQ : HQV p l e R s m args below meth c cX16_fold D cA A n0 s0 QM dm ra jx rm Q) (hX : HX p l e R s m args below meth c 6 D cA A n0 s0 QM dm ra jx rm X) : ∀ (σ : Sg) (v1 : Int) (v2 : Int) (g1 : rng v1) (g2 : rng v2), w_X16_fold_154 ra jx rm Q X σ v1 v2 → RG σ → Shp dm ra jx rm σ → JJ p l e R s m args below meth c 6 D cA A n0 s0 QM σ 154 [(0, .ref rm), (1, .int (i32 v1)), (2, .int (i32 v2))] [] := by
  intro σ v1 v2 g1 g2 h hGσ hS H locs ls hH hl hc
  have B := K.1
  unfold w_X16_fold_154 at h
  refine lv_aload_n B.1 B.2.1 dX16_fold_154 rfl (lv_at hl 0 rfl) ?_
  refine r_getp B hH hS 18 (by decide) wf_X16_118 rfl rfl dX16_fold_155 ?_
  obtain ⟨a177, ea177, ja177, h⟩ := h
  refine W.eq (g2 := F0 m 158 ls [.ref a177]) (by rw [ea177]; rfl) ?_
  refine n_arr B hH hS ja177 8 (kd := 101) (n := 16) (by decide) (by decide) (List.mem_of_getElem? (i := 8) rfl) rfl dX16_fold_158 ?_
  refine lv_iload_n B.1 B.2.1 dX16_fold_161 rfl (lv_at hl 1 rfl) ?_
  obtain ⟨q2, h⟩ := h
  refine x_lald B K.2.1 hH (hS.ja ja177 (k := 8) (kd := 101) (n := 16) (by decide)) (by decide) q2 dX16_fold_162 ?_
  refine lv_ldc2 B.1 B.2.1 B.2.2.1 (B.2.2.2.1 _ (wk_X16_250)) dX16_fold_163 ?_
  refine lv_aload_n B.1 B.2.1 dX16_fold_166 rfl (lv_at hl 0 rfl) ?_
  refine r_getl B hH hS 13 (by decide) wf_X16_60 rfl rfl dX16_fold_167 ?_
  refine lv_lmul B.1 B.2.1 dX16_fold_170 ?_
  refine W.lcmp B.1 B.2.1 dX16_fold_171 ?_
  refine lv_if_le (tgt := 182) B.1 B.2.1 dX16_fold_172 (by decide) (fun h9 => ?_) (fun h9 => ?_)
  · rw [if_pos ((lg_cmp_le _ _).mp h9)] at h
    exact a_X16_fold_182 K hQ hX _ _ _ g1 g2 h hGσ hS _ _ _ hH (lv_sub (l' := [(0, .ref rm), (1, .int (i32 v1)), (2, .int (i32 v2))]) hl [0, 1, 2] rfl) hc
  · rw [if_neg (fun q => h9 ((lg_cmp_le _ _).mpr q))] at h
    exact a_X16_fold_175 K hQ hX _ h hGσ hS _ _ _ hH (lv_sub (l' := [(0, .ref rm)]) hl [0] rfl) hc
set_option maxRecDepth 20000 in
theorem a_X16_fold_137 {Q : Sg → Unit → Prop} {X : Sg → String → Prop} (K : MC R p s m args c cX16_fold 6 RX16 D cA tys A n0 s0 142 10045 []) (hQ : HQV p l e R s m args below meth c cX16_fold D cA A n0 s0 QM dm ra jx rm Q) (hX : HX p l e R s m args below meth c 6 D cA A n0 s0 QM dm ra jx rm X) : ∀ (σ : Sg) (v1 : Int) (v2 : Int) (g1 : rng v1) (g2 : rng v2), w_X16_fold_137 ra jx rm Q X σ v1 v2 → RG σ → Shp dm ra jx rm σ → JJ p l e R s m args below meth c 6 D cA A n0 s0 QM σ 137 [(0, .ref rm), (1, .int (i32 v1)), (2, .int (i32 v2))] [] := by
  intro σ v1 v2 g1 g2 h hGσ hS H locs ls hH hl hc
  have B := K.1
  unfold w_X16_fold_137 at h
  refine lv_aload_n B.1 B.2.1 dX16_fold_137 rfl (lv_at hl 0 rfl) ?_
  refine r_getl B hH hS 13 (by decide) wf_X16_60 rfl rfl dX16_fold_138 ?_
  refine lv_aload_n B.1 B.2.1 dX16_fold_141 rfl (lv_at hl 0 rfl) ?_
  refine r_getp B hH hS 18 (by decide) wf_X16_118 rfl rfl dX16_fold_142 ?_
  obtain ⟨a178, ea178, ja178, h⟩ := h
  refine W.eq (g2 := F0 m 145 ls [.ref a178, .long (gJ σ rm 13)]) (by rw [ea178]; rfl) ?_
  refine n_arr B hH hS ja178 8 (kd := 101) (n := 16) (by decide) (by decide) (List.mem_of_getElem? (i := 8) rfl) rfl dX16_fold_145 ?_
  refine lv_iload_n B.1 B.2.1 dX16_fold_148 rfl (lv_at hl 1 rfl) ?_
  obtain ⟨q2, h⟩ := h
  refine x_lald B K.2.1 hH (hS.ja ja178 (k := 8) (kd := 101) (n := 16) (by decide)) (by decide) q2 dX16_fold_149 ?_
  refine W.lcmp B.1 B.2.1 dX16_fold_150 ?_
  refine lv_if_gt (tgt := 175) B.1 B.2.1 dX16_fold_151 (by decide) (fun h9 => ?_) (fun h9 => ?_)
  · rw [if_pos ((lg_cmp_gt _ _).mp h9)] at h
    exact a_X16_fold_175 K hQ hX _ h hGσ hS _ _ _ hH (lv_sub (l' := [(0, .ref rm)]) hl [0] rfl) hc
  · rw [if_neg (fun q => h9 ((lg_cmp_gt _ _).mpr q))] at h
    exact a_X16_fold_154 K hQ hX _ _ _ g1 g2 h hGσ hS _ _ _ hH (lv_sub (l' := [(0, .ref rm), (1, .int (i32 v1)), (2, .int (i32 v2))]) hl [0, 1, 2] rfl) hc
set_option maxRecDepth 20000 in
theorem a_X16_fold_123 {Q : Sg → Unit → Prop} {X : Sg → String → Prop} (K : MC R p s m args c cX16_fold 6 RX16 D cA tys A n0 s0 142 10045 []) (hQ : HQV p l e R s m args below meth c cX16_fold D cA A n0 s0 QM dm ra jx rm Q) (hX : HX p l e R s m args below meth c 6 D cA A n0 s0 QM dm ra jx rm X) : ∀ (σ : Sg) (v1 : Int) (v2 : Int) (g1 : rng v1) (g2 : rng v2), w_X16_fold_123 ra jx rm Q X σ v1 v2 → RG σ → Shp dm ra jx rm σ → JJ p l e R s m args below meth c 6 D cA A n0 s0 QM σ 123 [(0, .ref rm), (1, .int (i32 v1)), (2, .int (i32 v2))] [] := by
  intro σ v1 v2 g1 g2 h hGσ hS H locs ls hH hl hc
  have B := K.1
  unfold w_X16_fold_123 at h
  refine lv_aload_n B.1 B.2.1 dX16_fold_123 rfl (lv_at hl 0 rfl) ?_
  refine r_getl B hH hS 13 (by decide) wf_X16_60 rfl rfl dX16_fold_124 ?_
  refine lv_lconst (v := 1) B.1 B.2.1 dX16_fold_127 (by decide) ?_
  refine lv_ldc2 B.1 B.2.1 B.2.2.1 (B.2.2.2.1 _ (wk_X16_207)) dX16_fold_128 ?_
  refine c_S B hH hl hc K.2.2.1 (As := [.long (gJ σ rm 13), .long 1, .long 1000]) (ok_X16_within K.2.1 σ (gJ σ rm 13) 1 1000 hGσ hS h) wc_X16_45 3 hd_X16_within ⟨Nat.le_trans (Nat.le_of_ble_eq_true rfl) K.2.2.2.1, Nat.le_trans (Nat.le_of_ble_eq_true rfl) K.2.2.2.2.1⟩ rfl (rest := []) rfl (Nat.le_of_ble_eq_true rfl) dX16_fold_131 (fun σ179 w hq => ?_) (fun σ9 E9 hx9 => hX σ9 E9 _ _ _ (tb_out K.2.2.2.2.2 rfl) hx9.1 hx9.2.1 hx9.2.2)
  obtain ⟨r180, rfl, ⟨gr180, gzr180⟩, h, hGσ179, hS⟩ := hq
  intro H locs ls hH hl hc
  refine W.eq (g2 := F0 m 134 ls [.int (i32 r180)]) (rfl) ?_
  try dsimp only at h
  refine lv_if_eq (tgt := 182) B.1 B.2.1 dX16_fold_134 (by decide) (fun h9 => ?_) (fun h9 => ?_)
  · rw [if_pos ((z_eq gr180).mp h9)] at h
    exact a_X16_fold_182 K hQ hX _ _ _ g1 g2 h hGσ179 hS _ _ _ hH (lv_sub (l' := [(0, .ref rm), (1, .int (i32 v1)), (2, .int (i32 v2))]) hl [0, 1, 2] rfl) hc
  · rw [if_neg (fun q => h9 ((z_eq gr180).mpr q))] at h
    exact a_X16_fold_137 K hQ hX _ _ _ g1 g2 h hGσ179 hS _ _ _ hH (lv_sub (l' := [(0, .ref rm), (1, .int (i32 v1)), (2, .int (i32 v2))]) hl [0, 1, 2] rfl) hc
set_option maxRecDepth 20000 in
theorem a_X16_fold_74 {Q : Sg → Unit → Prop} {X : Sg → String → Prop} (K : MC R p s m args c cX16_fold 6 RX16 D cA tys A n0 s0 142 10045 []) (hQ : HQV p l e R s m args below meth c cX16_fold D cA A n0 s0 QM dm ra jx rm Q) (hX : HX p l e R s m args below meth c 6 D cA A n0 s0 QM dm ra jx rm X) : ∀ (σ : Sg) (v1 : Int) (v2 : Int) (g1 : rng v1) (g2 : rng v2), w_X16_fold_74 ra jx rm Q X σ v1 v2 → RG σ → Shp dm ra jx rm σ → JJ p l e R s m args below meth c 6 D cA A n0 s0 QM σ 74 [(0, .ref rm), (1, .int (i32 v1)), (2, .int (i32 v2))] [] := by
  intro σ v1 v2 g1 g2 h hGσ hS H locs ls hH hl hc
  have B := K.1
  unfold w_X16_fold_74 at h
  refine lv_aload_n B.1 B.2.1 dX16_fold_74 rfl (lv_at hl 0 rfl) ?_
  refine c_V B hH hl hc K.2.2.1 (C := RX16) (T := TX16) (N := 123) (ci := 16) (As := []) (ok_X16_take K.2.1 σ hGσ hS h) wc_X16_84 0 hd_X16_take ⟨Nat.le_trans (Nat.le_of_ble_eq_true rfl) K.2.2.2.1, Nat.le_trans (Nat.le_of_ble_eq_true rfl) K.2.2.2.2.1⟩ hS.1.1 hS.1.2 (by decide) rfl rfl (rest := []) rfl (Nat.le_of_ble_eq_true rfl) dX16_fold_75 (fun σ181 w hq => ?_) (fun σ9 E9 hx9 => hX σ9 E9 _ _ _ (tb_out K.2.2.2.2.2 rfl) hx9.1 hx9.2.1 hx9.2.2)
  obtain ⟨rfl, h, hGσ181, hS⟩ := hq
  intro H locs ls hH hl hc
  refine W.eq (g2 := F0 m 78 ls []) (rfl) ?_
  try dsimp only at h
  refine lv_aload_n B.1 B.2.1 dX16_fold_78 rfl (lv_at hl 0 rfl) ?_
  refine r_getp B hH hS 18 (by decide) wf_X16_118 rfl rfl dX16_fold_79 ?_
  obtain ⟨a182, ea182, ja182, h⟩ := h
  refine W.eq (g2 := F0 m 82 ls [.ref a182]) (by rw [ea182]; rfl) ?_
  refine n_arr B hH hS ja182 2 (kd := 100) (n := 16) (by decide) (by decide) (List.mem_of_getElem? (i := 2) rfl) rfl dX16_fold_82 ?_
  refine lv_iload_n B.1 B.2.1 dX16_fold_85 rfl (lv_at hl 1 rfl) ?_
  refine lv_iconst (v := i32 4) B.1 B.2.1 dX16_fold_86 (by decide) ?_
  obtain ⟨q2, h⟩ := h
  obtain ⟨σ183, eσ183⟩ : ∃ z, z = pI σ181 (jx a182 2) v1.toNat 4 := ⟨_, rfl⟩
  have h := h σ183 eσ183
  refine x_iast B K.2.1 hH (hS.ja ja182 (k := 2) (kd := 100) (n := 16) (by decide)) (by decide) q2 dX16_fold_87 (fun H locs hH => ?_)
  have hH : Hd D cA A s (pI σ181 (jx a182 2) v1.toNat 4) H locs := hH
  rw [← eσ183] at hH
  have hGσ183 : RG σ183 := by rw [eσ183]; exact hGσ181.pI (by unfold rng; omega)
  have hS : Shp dm ra jx rm σ183 := by rw [eσ183]; exact hS
  have hc : CB n0 s0 σ183 := by rw [eσ183]; exact hc
  rw [show gc σ181 = gc σ183 by rw [eσ183], show gs σ181 = gs σ183 by rw [eσ183]]
  refine lv_aload_n B.1 B.2.1 dX16_fold_88 rfl (lv_at hl 0 rfl) ?_
  refine r_getp B hH hS 18 (by decide) wf_X16_118 rfl rfl dX16_fold_89 ?_
  obtain ⟨a184, ea184, ja184, h⟩ := h
  refine W.eq (g2 := F0 m 92 ls [.ref a184]) (by rw [ea184]; rfl) ?_
  refine n_arr B hH hS ja184 8 (kd := 101) (n := 16) (by decide) (by decide) (List.mem_of_getElem? (i := 8) rfl) rfl dX16_fold_92 ?_
  refine lv_iload_n B.1 B.2.1 dX16_fold_95 rfl (lv_at hl 1 rfl) ?_
  refine lv_aload_n B.1 B.2.1 dX16_fold_96 rfl (lv_at hl 0 rfl) ?_
  refine lv_lconst (v := 1) B.1 B.2.1 dX16_fold_97 (by decide) ?_
  refine lv_ldc2 B.1 B.2.1 B.2.2.1 (B.2.2.2.1 _ (wk_X16_207)) dX16_fold_98 ?_
  refine c_V B hH hl hc K.2.2.1 (C := RX16) (T := TX16) (N := 123) (ci := 16) (As := [.long 1, .long 1000]) (ok_X16_bounded K.2.1 σ183 1 1000 hGσ183 hS h) wc_X16_209 2 hd_X16_bounded ⟨Nat.le_trans (Nat.le_of_ble_eq_true rfl) K.2.2.2.1, Nat.le_trans (Nat.le_of_ble_eq_true rfl) K.2.2.2.2.1⟩ hS.1.1 hS.1.2 (by decide) rfl rfl (rest := [.int (i32 v1), .ref (jx a184 8)]) rfl (Nat.le_of_ble_eq_true rfl) dX16_fold_101 (fun σ185 w hq => ?_) (fun σ9 E9 hx9 => hX σ9 E9 _ _ _ (tb_out K.2.2.2.2.2 rfl) hx9.1 hx9.2.1 hx9.2.2)
  obtain ⟨r186, rfl, h, hGσ185, hS⟩ := hq
  intro H locs ls hH hl hc
  refine W.eq (g2 := F0 m 104 ls [.long r186, .int (i32 v1), .ref (jx a184 8)]) (rfl) ?_
  try dsimp only at h
  obtain ⟨q5, h⟩ := h
  obtain ⟨σ187, eσ187⟩ : ∃ z, z = pJ σ185 (jx a184 8) v1.toNat r186 := ⟨_, rfl⟩
  have h := h σ187 eσ187
  refine x_last B K.2.1 hH (hS.ja ja184 (k := 8) (kd := 101) (n := 16) (by decide)) (by decide) q5 dX16_fold_104 (fun H locs hH => ?_)
  have hH : Hd D cA A s (pJ σ185 (jx a184 8) v1.toNat r186) H locs := hH
  rw [← eσ187] at hH
  have hGσ187 : RG σ187 := by rw [eσ187]; exact hGσ185.pJ
  have hS : Shp dm ra jx rm σ187 := by rw [eσ187]; exact hS
  have hc : CB n0 s0 σ187 := by rw [eσ187]; exact hc
  rw [show gc σ185 = gc σ187 by rw [eσ187], show gs σ185 = gs σ187 by rw [eσ187]]
  refine lv_aload_n B.1 B.2.1 dX16_fold_105 rfl (lv_at hl 0 rfl) ?_
  refine xs_ldc B.1 B.2.1 B.2.2.1 (B.2.2.2.2.2.2.2.2.2.2.1 _ (List.mem_of_getElem? (l := stL) (i := 5) rfl)).1 dX16_fold_106 ?_
  refine c_V B hH hl hc K.2.2.1 (C := RX16) (T := TX16) (N := 123) (ci := 16) (As := [.ref (cA (1000 + 249))]) (ok_X16_keyword K.2.1 σ187 249 st_249 hGσ187 hS h) wc_X16_200 1 hd_X16_keyword ⟨Nat.le_trans (Nat.le_of_ble_eq_true rfl) K.2.2.2.1, Nat.le_trans (Nat.le_of_ble_eq_true rfl) K.2.2.2.2.1⟩ hS.1.1 hS.1.2 (by decide) rfl rfl (rest := []) rfl (Nat.le_of_ble_eq_true rfl) dX16_fold_108 (fun σ188 w hq => ?_) (fun σ9 E9 hx9 => hX σ9 E9 _ _ _ (tb_out K.2.2.2.2.2 rfl) hx9.1 hx9.2.1 hx9.2.2)
  obtain ⟨rfl, h, hGσ188, hS⟩ := hq
  intro H locs ls hH hl hc
  refine W.eq (g2 := F0 m 111 ls []) (rfl) ?_
  try dsimp only at h
  refine lv_aload_n B.1 B.2.1 dX16_fold_111 rfl (lv_at hl 0 rfl) ?_
  refine c_V B hH hl hc K.2.2.1 (C := RX16) (T := TX16) (N := 123) (ci := 16) (As := []) (ok_X16_see K.2.1 σ188 hGσ188 hS h) wc_X16_76 0 hd_X16_see ⟨Nat.le_trans (Nat.le_of_ble_eq_true rfl) K.2.2.2.1, Nat.le_trans (Nat.le_of_ble_eq_true rfl) K.2.2.2.2.1⟩ hS.1.1 hS.1.2 (by decide) rfl rfl (rest := []) rfl (Nat.le_of_ble_eq_true rfl) dX16_fold_112 (fun σ189 w hq => ?_) (fun σ9 E9 hx9 => hX σ9 E9 _ _ _ (tb_out K.2.2.2.2.2 rfl) hx9.1 hx9.2.1 hx9.2.2)
  obtain ⟨rfl, h, hGσ189, hS⟩ := hq
  intro H locs ls hH hl hc
  refine W.eq (g2 := F0 m 115 ls []) (rfl) ?_
  try dsimp only at h
  refine lv_aload_n B.1 B.2.1 dX16_fold_115 rfl (lv_at hl 0 rfl) ?_
  refine r_geti B hH hS 9 (by decide) wf_X16_38 rfl rfl dX16_fold_116 ?_
  refine lv_iconst (v := i32 2) B.1 B.2.1 dX16_fold_119 (by decide) ?_
  refine lv_icmp_ne (tgt := 182) B.1 B.2.1 dX16_fold_120 (by decide) (fun h9 => ?_) (fun h9 => ?_)
  · rw [if_pos (fun q => h9 ((i32_eq (hGσ189 _ _) (by unfold rng; omega)).mpr q))] at h
    exact a_X16_fold_182 K hQ hX _ _ _ g1 g2 h hGσ189 hS _ _ _ hH (lv_sub (l' := [(0, .ref rm), (1, .int (i32 v1)), (2, .int (i32 v2))]) hl [0, 1, 2] rfl) hc
  · rw [if_neg (fun q => q ((i32_eq (hGσ189 _ _) (by unfold rng; omega)).mp h9))] at h
    exact a_X16_fold_123 K hQ hX _ _ _ g1 g2 h hGσ189 hS _ _ _ hH (lv_sub (l' := [(0, .ref rm), (1, .int (i32 v1)), (2, .int (i32 v2))]) hl [0, 1, 2] rfl) hc
set_option maxRecDepth 20000 in
theorem a_X16_fold_0 {Q : Sg → Unit → Prop} {X : Sg → String → Prop} (K : MC R p s m args c cX16_fold 6 RX16 D cA tys A n0 s0 142 10045 []) (hQ : HQV p l e R s m args below meth c cX16_fold D cA A n0 s0 QM dm ra jx rm Q) (hX : HX p l e R s m args below meth c 6 D cA A n0 s0 QM dm ra jx rm X) : ∀ (σ : Sg) (v1 : Int) (g1 : rng v1), w_X16_fold_0 ra jx rm Q X σ v1 → RG σ → Shp dm ra jx rm σ → JJ p l e R s m args below meth c 6 D cA A n0 s0 QM σ 0 [(0, .ref rm), (1, .int (i32 v1))] [] := by
  intro σ v1 g1 h hGσ hS H locs ls hH hl hc
  have B := K.1
  unfold w_X16_fold_0 at h
  refine lv_aload_n B.1 B.2.1 dX16_fold_0 rfl (lv_at hl 0 rfl) ?_
  refine c_V B hH hl hc K.2.2.1 (C := RX16) (T := TX16) (N := 123) (ci := 16) (As := []) (ok_X16_input K.2.1 σ hGσ hS h) wc_X16_213 0 hd_X16_input ⟨Nat.le_trans (Nat.le_of_ble_eq_true rfl) K.2.2.2.1, Nat.le_trans (Nat.le_of_ble_eq_true rfl) K.2.2.2.2.1⟩ hS.1.1 hS.1.2 (by decide) rfl rfl (rest := []) rfl (Nat.le_of_ble_eq_true rfl) dX16_fold_1 (fun σ190 w hq => ?_) (fun σ9 E9 hx9 => hX σ9 E9 _ _ _ (tb_out K.2.2.2.2.2 rfl) hx9.1 hx9.2.1 hx9.2.2)
  obtain ⟨r191, rfl, gr191, h, hGσ190, hS⟩ := hq
  intro H locs ls hH hl hc
  refine W.eq (g2 := F0 m 4 ls [.int (i32 r191)]) (rfl) ?_
  try dsimp only at h
  refine lv_istore_n (lv' := [(2, .int (i32 r191)), (0, .ref rm), (1, .int (i32 v1))]) B.1 B.2.1 dX16_fold_4 rfl hl (by decide) rfl (fun ls hl => ?_)
  refine lv_aload_n B.1 B.2.1 dX16_fold_5 rfl (lv_at hl 1 rfl) ?_
  refine r_getp B hH hS 18 (by decide) wf_X16_118 rfl rfl dX16_fold_6 ?_
  obtain ⟨a192, ea192, ja192, h⟩ := h
  refine W.eq (g2 := F0 m 9 ls [.ref a192]) (by rw [ea192]; rfl) ?_
  refine n_arr B hH hS ja192 4 (kd := 100) (n := 16) (by decide) (by decide) (List.mem_of_getElem? (i := 4) rfl) rfl dX16_fold_9 ?_
  refine lv_iload_n B.1 B.2.1 dX16_fold_12 rfl (lv_at hl 2 rfl) ?_
  refine lv_iload_n B.1 B.2.1 dX16_fold_13 rfl (lv_at hl 0 rfl) ?_
  obtain ⟨q2, h⟩ := h
  obtain ⟨σ193, eσ193⟩ : ∃ z, z = pI σ190 (jx a192 4) v1.toNat r191 := ⟨_, rfl⟩
  have h := h σ193 eσ193
  refine x_iast B K.2.1 hH (hS.ja ja192 (k := 4) (kd := 100) (n := 16) (by decide)) (by decide) q2 dX16_fold_14 (fun H locs hH => ?_)
  have hH : Hd D cA A s (pI σ190 (jx a192 4) v1.toNat r191) H locs := hH
  rw [← eσ193] at hH
  have hGσ193 : RG σ193 := by rw [eσ193]; exact hGσ190.pI gr191
  have hS : Shp dm ra jx rm σ193 := by rw [eσ193]; exact hS
  have hc : CB n0 s0 σ193 := by rw [eσ193]; exact hc
  rw [show gc σ190 = gc σ193 by rw [eσ193], show gs σ190 = gs σ193 by rw [eσ193]]
  refine lv_aload_n B.1 B.2.1 dX16_fold_15 rfl (lv_at hl 1 rfl) ?_
  refine xs_ldc B.1 B.2.1 B.2.2.1 (B.2.2.2.2.2.2.2.2.2.2.1 _ (List.mem_of_getElem? (l := stL) (i := 3) rfl)).1 dX16_fold_16 ?_
  refine c_V B hH hl hc K.2.2.1 (C := RX16) (T := TX16) (N := 123) (ci := 16) (As := [.ref (cA (1000 + 237))]) (ok_X16_keyword K.2.1 σ193 237 st_237 hGσ193 hS h) wc_X16_200 1 hd_X16_keyword ⟨Nat.le_trans (Nat.le_of_ble_eq_true rfl) K.2.2.2.1, Nat.le_trans (Nat.le_of_ble_eq_true rfl) K.2.2.2.2.1⟩ hS.1.1 hS.1.2 (by decide) rfl rfl (rest := []) rfl (Nat.le_of_ble_eq_true rfl) dX16_fold_18 (fun σ194 w hq => ?_) (fun σ9 E9 hx9 => hX σ9 E9 _ _ _ (tb_out K.2.2.2.2.2 rfl) hx9.1 hx9.2.1 hx9.2.2)
  obtain ⟨rfl, h, hGσ194, hS⟩ := hq
  intro H locs ls hH hl hc
  refine W.eq (g2 := F0 m 21 ls []) (rfl) ?_
  try dsimp only at h
  refine lv_aload_n B.1 B.2.1 dX16_fold_21 rfl (lv_at hl 1 rfl) ?_
  refine r_getp B hH hS 18 (by decide) wf_X16_118 rfl rfl dX16_fold_22 ?_
  obtain ⟨a195, ea195, ja195, h⟩ := h
  refine W.eq (g2 := F0 m 25 ls [.ref a195]) (by rw [ea195]; rfl) ?_
  refine n_arr B hH hS ja195 10 (kd := 100) (n := 16) (by decide) (by decide) (List.mem_of_getElem? (i := 10) rfl) rfl dX16_fold_25 ?_
  refine lv_iload_n B.1 B.2.1 dX16_fold_28 rfl (lv_at hl 2 rfl) ?_
  refine lv_aload_n B.1 B.2.1 dX16_fold_29 rfl (lv_at hl 1 rfl) ?_
  refine lv_iload_n B.1 B.2.1 dX16_fold_30 rfl (lv_at hl 0 rfl) ?_
  refine c_V B hH hl hc K.2.2.1 (C := RX16) (T := TX16) (N := 123) (ci := 16) (As := [.int (i32 r191)]) (ok_X16_columnOf K.2.1 σ194 r191 gr191 hGσ194 hS h) wc_X16_241 1 hd_X16_columnOf ⟨Nat.le_trans (Nat.le_of_ble_eq_true rfl) K.2.2.2.1, Nat.le_trans (Nat.le_of_ble_eq_true rfl) K.2.2.2.2.1⟩ hS.1.1 hS.1.2 (by decide) rfl rfl (rest := [.int (i32 v1), .ref (jx a195 10)]) rfl (Nat.le_of_ble_eq_true rfl) dX16_fold_31 (fun σ196 w hq => ?_) (fun σ9 E9 hx9 => hX σ9 E9 _ _ _ (tb_out K.2.2.2.2.2 rfl) hx9.1 hx9.2.1 hx9.2.2)
  obtain ⟨r197, rfl, gr197, h, hGσ196, hS⟩ := hq
  intro H locs ls hH hl hc
  refine W.eq (g2 := F0 m 34 ls [.int (i32 r197), .int (i32 v1), .ref (jx a195 10)]) (rfl) ?_
  try dsimp only at h
  obtain ⟨q5, h⟩ := h
  obtain ⟨σ198, eσ198⟩ : ∃ z, z = pI σ196 (jx a195 10) v1.toNat r197 := ⟨_, rfl⟩
  have h := h σ198 eσ198
  refine x_iast B K.2.1 hH (hS.ja ja195 (k := 10) (kd := 100) (n := 16) (by decide)) (by decide) q5 dX16_fold_34 (fun H locs hH => ?_)
  have hH : Hd D cA A s (pI σ196 (jx a195 10) v1.toNat r197) H locs := hH
  rw [← eσ198] at hH
  have hGσ198 : RG σ198 := by rw [eσ198]; exact hGσ196.pI gr197
  have hS : Shp dm ra jx rm σ198 := by rw [eσ198]; exact hS
  have hc : CB n0 s0 σ198 := by rw [eσ198]; exact hc
  rw [show gc σ196 = gc σ198 by rw [eσ198], show gs σ196 = gs σ198 by rw [eσ198]]
  refine lv_aload_n B.1 B.2.1 dX16_fold_35 rfl (lv_at hl 1 rfl) ?_
  refine r_getp B hH hS 18 (by decide) wf_X16_118 rfl rfl dX16_fold_36 ?_
  refine lv_iload_n B.1 B.2.1 dX16_fold_39 rfl (lv_at hl 2 rfl) ?_
  refine lv_aload_n B.1 B.2.1 dX16_fold_40 rfl (lv_at hl 1 rfl) ?_
  refine r_getp B hH hS 18 (by decide) wf_X16_118 rfl rfl dX16_fold_41 ?_
  obtain ⟨a199, ea199, ja199, h⟩ := h
  refine W.eq (g2 := F0 m 44 ls [.ref a199, .int (i32 v1), va_rf (gP σ198 rm 18)]) (by rw [ea199]; rfl) ?_
  refine n_arr B hH hS ja199 7 (kd := 101) (n := 144) (by decide) (by decide) (List.mem_of_getElem? (i := 7) rfl) rfl dX16_fold_44 ?_
  refine lv_bipush (v := i32 9) B.1 B.2.1 dX16_fold_47 (by decide) ?_
  refine lv_iload_n B.1 B.2.1 dX16_fold_49 rfl (lv_at hl 0 rfl) ?_
  obtain ⟨q8, h⟩ := h
  refine lv_imul B.1 B.2.1 dX16_fold_50 ?_
  rw [i32_mul]
  refine lv_aload_n B.1 B.2.1 dX16_fold_51 rfl (lv_at hl 1 rfl) ?_
  refine r_getp B hH hS 18 (by decide) wf_X16_118 rfl rfl dX16_fold_52 ?_
  obtain ⟨a200, ea200, ja200, h⟩ := h
  refine W.eq (g2 := F0 m 55 ls [.ref a200, .int (i32 (9 * r191)), .ref (jx a199 7), .int (i32 v1), va_rf (gP σ198 rm 18)]) (by rw [ea200]; rfl) ?_
  refine n_arr B hH hS ja200 10 (kd := 100) (n := 16) (by decide) (by decide) (List.mem_of_getElem? (i := 10) rfl) rfl dX16_fold_55 ?_
  refine lv_iload_n B.1 B.2.1 dX16_fold_58 rfl (lv_at hl 2 rfl) ?_
  obtain ⟨q10, h⟩ := h
  refine x_iald B K.2.1 hH (hS.ja ja200 (k := 10) (kd := 100) (n := 16) (by decide)) (by decide) q10 dX16_fold_59 ?_
  obtain ⟨q11, h⟩ := h
  refine lv_iadd B.1 B.2.1 dX16_fold_60 ?_
  rw [i32_add]
  obtain ⟨q12, h⟩ := h
  refine x_lald B K.2.1 hH (hS.ja ja199 (k := 7) (kd := 101) (n := 144) (by decide)) (by decide) q12 dX16_fold_61 ?_
  obtain ⟨a201, ea201, ja201, h⟩ := h
  refine W.eq (g2 := F0 m 62 ls [.long (gJ σ198 (jx a199 7) ((9 * r191) + (gI σ198 (jx a200 10) v1.toNat)).toNat), .int (i32 v1), .ref a201]) (by rw [ea201]; rfl) ?_
  refine c_V B hH hl hc K.2.2.1 (C := RX15) (T := TX15) (N := 20) (ci := 15) (As := [.int (i32 v1), .long (gJ σ198 (jx a199 7) ((9 * r191) + (gI σ198 (jx a200 10) v1.toNat)).toNat)]) (ok_X15_add ja201 K.2.1 σ198 v1 (gJ σ198 (jx a199 7) ((9 * r191) + (gI σ198 (jx a200 10) v1.toNat)).toNat) g1 hGσ198 hS h) wc_X16_182 2 hd_X15_add ⟨Nat.le_trans (Nat.le_of_ble_eq_true rfl) K.2.2.2.1, Nat.le_trans (Nat.le_of_ble_eq_true rfl) K.2.2.2.2.1⟩ (hS.jb ja201).1 (hS.jb ja201).2 (by decide) rfl rfl (rest := []) rfl (Nat.le_of_ble_eq_true rfl) dX16_fold_62 (fun σ202 w hq => ?_) (fun σ9 E9 hx9 => hX σ9 E9 _ _ _ (tb_out K.2.2.2.2.2 rfl) hx9.1 hx9.2.1 hx9.2.2)
  obtain ⟨rfl, h, hGσ202, hS⟩ := hq
  intro H locs ls hH hl hc
  refine W.eq (g2 := F0 m 65 ls []) (rfl) ?_
  try dsimp only at h
  refine lv_aload_n B.1 B.2.1 dX16_fold_65 rfl (lv_at hl 1 rfl) ?_
  refine xs_ldc B.1 B.2.1 B.2.2.1 (B.2.2.2.2.2.2.2.2.2.2.1 _ (List.mem_of_getElem? (l := stL) (i := 4) rfl)).1 dX16_fold_66 ?_
  refine c_V B hH hl hc K.2.2.1 (C := RX16) (T := TX16) (N := 123) (ci := 16) (As := [.ref (cA (1000 + 244))]) (ok_X16_isWord K.2.1 σ202 244 st_244 hGσ202 hS h) wc_X16_103 1 hd_X16_isWord ⟨Nat.le_trans (Nat.le_of_ble_eq_true rfl) K.2.2.2.1, Nat.le_trans (Nat.le_of_ble_eq_true rfl) K.2.2.2.2.1⟩ hS.1.1 hS.1.2 (by decide) rfl rfl (rest := []) rfl (Nat.le_of_ble_eq_true rfl) dX16_fold_68 (fun σ203 w hq => ?_) (fun σ9 E9 hx9 => hX σ9 E9 _ _ _ (tb_out K.2.2.2.2.2 rfl) hx9.1 hx9.2.1 hx9.2.2)
  obtain ⟨r204, rfl, ⟨gr204, gzr204⟩, h, hGσ203, hS⟩ := hq
  intro H locs ls hH hl hc
  refine W.eq (g2 := F0 m 71 ls [.int (i32 r204)]) (rfl) ?_
  try dsimp only at h
  refine lv_if_eq (tgt := 202) B.1 B.2.1 dX16_fold_71 (by decide) (fun h9 => ?_) (fun h9 => ?_)
  · rw [if_pos ((z_eq gr204).mp h9)] at h
    exact a_X16_fold_202 K hQ hX _ _ _ g1 gr191 h hGσ203 hS _ _ _ hH (lv_sub (l' := [(0, .ref rm), (1, .int (i32 v1)), (2, .int (i32 r191))]) hl [1, 2, 0] rfl) hc
  · rw [if_neg (fun q => h9 ((z_eq gr204).mpr q))] at h
    exact a_X16_fold_74 K hQ hX _ _ _ g1 gr191 h hGσ203 hS _ _ _ hH (lv_sub (l' := [(0, .ref rm), (1, .int (i32 v1)), (2, .int (i32 r191))]) hl [1, 2, 0] rfl) hc
theorem ok_X16_fold (hT : Tys cA tys) {Q : Sg → Unit → Prop} {X : Sg → String → Prop} (σ : Sg) (v1 : Int) (g1 : rng v1) (hG : RG σ) (hS : Shp dm ra jx rm σ) (h : wp_X16_fold ra jx rm v1 σ Q X) : Ok l D cA tys A yX16_fold (.code yX16_fold cX16_fold 6 none) 142 10045 [.ref rm, .int (i32 v1)] σ (QnV dm ra jx rm Q) (QxR dm ra jx rm X) := by
  unfold wp_X16_fold at h
  exact ok_V (plainFor_of_name (by decide)) (by exact Nat.le_of_ble_eq_true rfl) hT (fun p e R s m args below meth c K hQ hX H locs ls hH hl hc => a_X16_fold_0 K hQ hX σ v1 g1 h hG hS H locs ls hH (lv_sub (l' := [(0, .ref rm), (1, .int (i32 v1))]) hl [0, 1] rfl) hc)
theorem dX16_free_0 : decode cX16_free 0 = .ok (.aload_n 0, 1) := by decide +kernel
theorem dX16_free_1 : decode cX16_free 1 = .ok (.getfield 405, 3) := by decide +kernel
theorem dX16_free_4 : decode cX16_free 4 = .ok (.iload_n 1, 1) := by decide +kernel
theorem dX16_free_5 : decode cX16_free 5 = .ok (.aload_n 0, 1) := by decide +kernel
theorem dX16_free_6 : decode cX16_free 6 = .ok (.getfield 408, 3) := by decide +kernel
theorem dX16_free_9 : decode cX16_free 9 = .ok (.iastore, 1) := by decide +kernel
theorem dX16_free_10 : decode cX16_free 10 = .ok (.aload_n 0, 1) := by decide +kernel
theorem dX16_free_11 : decode cX16_free 11 = .ok (.iload_n 1, 1) := by decide +kernel
theorem dX16_free_12 : decode cX16_free 12 = .ok (.putfield 408, 3) := by decide +kernel
theorem dX16_free_15 : decode cX16_free 15 = .ok (.return_, 1) := by decide +kernel
set_option maxRecDepth 20000 in
theorem a_X16_free_0 {Q : Sg → Unit → Prop} {X : Sg → String → Prop} (K : MC R p s m args c cX16_free 2 RX16 D cA tys A n0 s0 0 0 []) (hQ : HQV p l e R s m args below meth c cX16_free D cA A n0 s0 QM dm ra jx rm Q) (hX : HX p l e R s m args below meth c 2 D cA A n0 s0 QM dm ra jx rm X) : ∀ (σ : Sg) (v1 : Int) (g1 : rng v1), w_X16_free_0 ra jx rm Q X σ v1 → RG σ → Shp dm ra jx rm σ → JJ p l e R s m args below meth c 2 D cA A n0 s0 QM σ 0 [(0, .ref rm), (1, .int (i32 v1))] [] := by
  intro σ v1 g1 h hGσ hS H locs ls hH hl hc
  have B := K.1
  unfold w_X16_free_0 at h
  refine lv_aload_n B.1 B.2.1 dX16_free_0 rfl (lv_at hl 0 rfl) ?_
  refine r_arr B hH hS 65 (kd := 100) (n := 12802) (by decide) (by decide) wf_X16_405 rfl rfl dX16_free_1 ?_
  refine lv_iload_n B.1 B.2.1 dX16_free_4 rfl (lv_at hl 1 rfl) ?_
  refine lv_aload_n B.1 B.2.1 dX16_free_5 rfl (lv_at hl 0 rfl) ?_
  refine r_geti B hH hS 66 (by decide) wf_X16_408 rfl rfl dX16_free_6 ?_
  obtain ⟨q1, h⟩ := h
  obtain ⟨σ5, eσ5⟩ : ∃ z, z = pI σ (ra 65) v1.toNat (gI σ rm 66) := ⟨_, rfl⟩
  have h := h σ5 eσ5
  refine x_iast B K.2.1 hH (hS.ar (k := 65) (kd := 100) (n := 12802) (by decide)) (by decide) q1 dX16_free_9 (fun H locs hH => ?_)
  have hH : Hd D cA A s (pI σ (ra 65) v1.toNat (gI σ rm 66)) H locs := hH
  rw [← eσ5] at hH
  have hGσ5 : RG σ5 := by rw [eσ5]; exact hGσ.pI (hGσ _ _)
  have hS : Shp dm ra jx rm σ5 := by rw [eσ5]; exact hS
  have hc : CB n0 s0 σ5 := by rw [eσ5]; exact hc
  rw [show gc σ = gc σ5 by rw [eσ5], show gs σ = gs σ5 by rw [eσ5]]
  refine lv_aload_n B.1 B.2.1 dX16_free_10 rfl (lv_at hl 0 rfl) ?_
  refine lv_iload_n B.1 B.2.1 dX16_free_11 rfl (lv_at hl 1 rfl) ?_
  obtain ⟨σ6, eσ6⟩ : ∃ z, z = pI σ5 rm 66 v1 := ⟨_, rfl⟩
  have h := h σ6 eσ6
  refine r_puti B hH hS 66 (ty := .int) (by decide) wf_X16_408 rfl rfl rfl rfl rfl rfl dX16_free_12 (fun H locs hH => ?_)
  have hH : Hd D cA A s (pI σ5 rm 66 v1) H locs := hH
  rw [← eσ6] at hH
  have hGσ6 : RG σ6 := by rw [eσ6]; exact hGσ5.pI g1
  have hS : Shp dm ra jx rm σ6 := by rw [eσ6]; exact hS
  have hc : CB n0 s0 σ6 := by rw [eσ6]; exact hc
  rw [show gc σ5 = gc σ6 by rw [eσ6], show gs σ5 = gs σ6 by rw [eσ6]]
  exact hQ _ _ _ _ _ dX16_free_15 hH hc h hGσ6 hS
theorem ok_X16_free (hT : Tys cA tys) {Q : Sg → Unit → Prop} {X : Sg → String → Prop} (σ : Sg) (v1 : Int) (g1 : rng v1) (hG : RG σ) (hS : Shp dm ra jx rm σ) (h : wp_X16_free ra jx rm v1 σ Q X) : Ok l D cA tys A yX16_free (.code yX16_free cX16_free 2 none) 0 0 [.ref rm, .int (i32 v1)] σ (QnV dm ra jx rm Q) (QxR dm ra jx rm X) := by
  unfold wp_X16_free at h
  exact ok_V (plainFor_of_name (by decide)) (by exact Nat.le_of_ble_eq_true rfl) hT (fun p e R s m args below meth c K hQ hX H locs ls hH hl hc => a_X16_free_0 K hQ hX σ v1 g1 h hG hS H locs ls hH (lv_sub (l' := [(0, .ref rm), (1, .int (i32 v1))]) hl [0, 1] rfl) hc)
theorem dX16_gathered_0 : decode cX16_gathered 0 = .ok (.iload_n 0, 1) := by decide +kernel
theorem dX16_gathered_1 : decode cX16_gathered 1 = .ok (.iconst 2, 1) := by decide +kernel
theorem dX16_gathered_2 : decode cX16_gathered 2 = .ok (.if_icmp .ge 9, 3) := by decide +kernel
theorem dX16_gathered_5 : decode cX16_gathered 5 = .ok (.lload_n 1, 1) := by decide +kernel
theorem dX16_gathered_6 : decode cX16_gathered 6 = .ok (.lload_n 3, 1) := by decide +kernel
theorem dX16_gathered_7 : decode cX16_gathered 7 = .ok (.ladd, 1) := by decide +kernel
theorem dX16_gathered_8 : decode cX16_gathered 8 = .ok (.goto 21, 3) := by decide +kernel
theorem dX16_gathered_11 : decode cX16_gathered 11 = .ok (.iload_n 0, 1) := by decide +kernel
theorem dX16_gathered_12 : decode cX16_gathered 12 = .ok (.iconst 2, 1) := by decide +kernel
theorem dX16_gathered_13 : decode cX16_gathered 13 = .ok (.if_icmp .ne 11, 3) := by decide +kernel
theorem dX16_gathered_16 : decode cX16_gathered 16 = .ok (.lload_n 1, 1) := by decide +kernel
theorem dX16_gathered_17 : decode cX16_gathered 17 = .ok (.lload_n 3, 1) := by decide +kernel
theorem dX16_gathered_18 : decode cX16_gathered 18 = .ok (.invokestatic 581, 3) := by decide +kernel
theorem dX16_gathered_21 : decode cX16_gathered 21 = .ok (.goto 8, 3) := by decide +kernel
theorem dX16_gathered_24 : decode cX16_gathered 24 = .ok (.lload_n 1, 1) := by decide +kernel
theorem dX16_gathered_25 : decode cX16_gathered 25 = .ok (.lload_n 3, 1) := by decide +kernel
theorem dX16_gathered_26 : decode cX16_gathered 26 = .ok (.invokestatic 586, 3) := by decide +kernel
theorem dX16_gathered_29 : decode cX16_gathered 29 = .ok (.lreturn, 1) := by decide +kernel
set_option maxRecDepth 20000 in
theorem a_X16_gathered_29 {Q : Sg → Int64 → Prop} {X : Sg → String → Prop} (K : MC R p s m args c cX16_gathered 5 RX16 D cA tys A n0 s0 1 23 []) (hQ : HQJ p l e R s m args below meth c cX16_gathered D cA A n0 s0 QM dm ra jx rm Q) (hX : HX p l e R s m args below meth c 5 D cA A n0 s0 QM dm ra jx rm X) : ∀ (σ : Sg) (u0 : Int64), w_X16_gathered_29 ra jx rm Q X σ u0 → RG σ → Shp dm ra jx rm σ → JJ p l e R s m args below meth c 5 D cA A n0 s0 QM σ 29 [] [.long u0] := by
  intro σ u0 h hGσ hS H locs ls hH hl hc
  have B := K.1
  unfold w_X16_gathered_29 at h
  exact hQ _ _ _ _ _ _ dX16_gathered_29 hH hc h hGσ hS
set_option maxRecDepth 20000 in
theorem a_X16_gathered_24 {Q : Sg → Int64 → Prop} {X : Sg → String → Prop} (K : MC R p s m args c cX16_gathered 5 RX16 D cA tys A n0 s0 1 23 []) (hQ : HQJ p l e R s m args below meth c cX16_gathered D cA A n0 s0 QM dm ra jx rm Q) (hX : HX p l e R s m args below meth c 5 D cA A n0 s0 QM dm ra jx rm X) : ∀ (σ : Sg) (v1 : Int64) (v3 : Int64), w_X16_gathered_24 ra jx rm Q X σ v1 v3 → RG σ → Shp dm ra jx rm σ → JJ p l e R s m args below meth c 5 D cA A n0 s0 QM σ 24 [(1, .long v1), (3, .long v3)] [] := by
  intro σ v1 v3 h hGσ hS H locs ls hH hl hc
  have B := K.1
  unfold w_X16_gathered_24 at h
  refine lv_lload_n B.1 B.2.1 dX16_gathered_24 rfl (lv_at hl 0 rfl) ?_
  refine lv_lload_n B.1 B.2.1 dX16_gathered_25 rfl (lv_at hl 1 rfl) ?_
  refine c_S B hH hl hc K.2.2.1 (As := [.long v1, .long v3]) (ok_J9_max_f86c9 (dm := dm) (ra := ra) (jx := jx) (rm := rm) K.2.1 σ v1 v3 hGσ hS mj_J9_max_f86c9) wc_X16_586 2 hd_J9_max_f86c9 ⟨Nat.le_trans (Nat.le_of_ble_eq_true rfl) K.2.2.2.1, Nat.le_trans (Nat.le_of_ble_eq_true rfl) K.2.2.2.2.1⟩ rfl (rest := []) rfl (Nat.le_of_ble_eq_true rfl) dX16_gathered_26 (fun σm1 w hq => ?_) (fun σ9 E9 hx9 => False.elim hx9.1)
  obtain ⟨rm9, rfl, ⟨e9, rfl⟩, hG9, hS9⟩ := hq
  subst e9
  intro H locs ls hH hl hc
  refine W.eq (g2 := F0 m 29 ls [.long (maxJ v1 v3)]) (rfl) ?_
  exact a_X16_gathered_29 K hQ hX _ _ h hGσ hS _ _ _ hH (lv_sub (l' := []) hl [] rfl) hc
set_option maxRecDepth 20000 in
theorem a_X16_gathered_16 {Q : Sg → Int64 → Prop} {X : Sg → String → Prop} (K : MC R p s m args c cX16_gathered 5 RX16 D cA tys A n0 s0 1 23 []) (hQ : HQJ p l e R s m args below meth c cX16_gathered D cA A n0 s0 QM dm ra jx rm Q) (hX : HX p l e R s m args below meth c 5 D cA A n0 s0 QM dm ra jx rm X) : ∀ (σ : Sg) (v1 : Int64) (v3 : Int64), w_X16_gathered_16 ra jx rm Q X σ v1 v3 → RG σ → Shp dm ra jx rm σ → JJ p l e R s m args below meth c 5 D cA A n0 s0 QM σ 16 [(1, .long v1), (3, .long v3)] [] := by
  intro σ v1 v3 h hGσ hS H locs ls hH hl hc
  have B := K.1
  unfold w_X16_gathered_16 at h
  refine lv_lload_n B.1 B.2.1 dX16_gathered_16 rfl (lv_at hl 0 rfl) ?_
  refine lv_lload_n B.1 B.2.1 dX16_gathered_17 rfl (lv_at hl 1 rfl) ?_
  refine c_S B hH hl hc K.2.2.1 (As := [.long v1, .long v3]) (ok_J9_min_f86c9 (dm := dm) (ra := ra) (jx := jx) (rm := rm) K.2.1 σ v1 v3 hGσ hS mj_J9_min_f86c9) wc_X16_581 2 hd_J9_min_f86c9 ⟨Nat.le_trans (Nat.le_of_ble_eq_true rfl) K.2.2.2.1, Nat.le_trans (Nat.le_of_ble_eq_true rfl) K.2.2.2.2.1⟩ rfl (rest := []) rfl (Nat.le_of_ble_eq_true rfl) dX16_gathered_18 (fun σm1 w hq => ?_) (fun σ9 E9 hx9 => False.elim hx9.1)
  obtain ⟨rm9, rfl, ⟨e9, rfl⟩, hG9, hS9⟩ := hq
  subst e9
  intro H locs ls hH hl hc
  refine W.eq (g2 := F0 m 21 ls [.long (minJ v1 v3)]) (rfl) ?_
  refine lv_goto (tgt := 29) B.1 B.2.1 dX16_gathered_21 (by decide) ?_
  exact a_X16_gathered_29 K hQ hX _ _ h hGσ hS _ _ _ hH (lv_sub (l' := []) hl [] rfl) hc
set_option maxRecDepth 20000 in
theorem a_X16_gathered_11 {Q : Sg → Int64 → Prop} {X : Sg → String → Prop} (K : MC R p s m args c cX16_gathered 5 RX16 D cA tys A n0 s0 1 23 []) (hQ : HQJ p l e R s m args below meth c cX16_gathered D cA A n0 s0 QM dm ra jx rm Q) (hX : HX p l e R s m args below meth c 5 D cA A n0 s0 QM dm ra jx rm X) : ∀ (σ : Sg) (v0 : Int) (v1 : Int64) (v3 : Int64) (g0 : rng v0), w_X16_gathered_11 ra jx rm Q X σ v0 v1 v3 → RG σ → Shp dm ra jx rm σ → JJ p l e R s m args below meth c 5 D cA A n0 s0 QM σ 11 [(0, .int (i32 v0)), (1, .long v1), (3, .long v3)] [] := by
  intro σ v0 v1 v3 g0 h hGσ hS H locs ls hH hl hc
  have B := K.1
  unfold w_X16_gathered_11 at h
  refine lv_iload_n B.1 B.2.1 dX16_gathered_11 rfl (lv_at hl 0 rfl) ?_
  refine lv_iconst (v := i32 2) B.1 B.2.1 dX16_gathered_12 (by decide) ?_
  refine lv_icmp_ne (tgt := 24) B.1 B.2.1 dX16_gathered_13 (by decide) (fun h9 => ?_) (fun h9 => ?_)
  · rw [if_pos (fun q => h9 ((i32_eq g0 (by unfold rng; omega)).mpr q))] at h
    exact a_X16_gathered_24 K hQ hX _ _ _ h hGσ hS _ _ _ hH (lv_sub (l' := [(1, .long v1), (3, .long v3)]) hl [1, 2] rfl) hc
  · rw [if_neg (fun q => q ((i32_eq g0 (by unfold rng; omega)).mp h9))] at h
    exact a_X16_gathered_16 K hQ hX _ _ _ h hGσ hS _ _ _ hH (lv_sub (l' := [(1, .long v1), (3, .long v3)]) hl [1, 2] rfl) hc
set_option maxRecDepth 20000 in
theorem a_X16_gathered_5 {Q : Sg → Int64 → Prop} {X : Sg → String → Prop} (K : MC R p s m args c cX16_gathered 5 RX16 D cA tys A n0 s0 1 23 []) (hQ : HQJ p l e R s m args below meth c cX16_gathered D cA A n0 s0 QM dm ra jx rm Q) (hX : HX p l e R s m args below meth c 5 D cA A n0 s0 QM dm ra jx rm X) : ∀ (σ : Sg) (v1 : Int64) (v3 : Int64), w_X16_gathered_5 ra jx rm Q X σ v1 v3 → RG σ → Shp dm ra jx rm σ → JJ p l e R s m args below meth c 5 D cA A n0 s0 QM σ 5 [(1, .long v1), (3, .long v3)] [] := by
  intro σ v1 v3 h hGσ hS H locs ls hH hl hc
  have B := K.1
  unfold w_X16_gathered_5 at h
  refine lv_lload_n B.1 B.2.1 dX16_gathered_5 rfl (lv_at hl 0 rfl) ?_
  refine lv_lload_n B.1 B.2.1 dX16_gathered_6 rfl (lv_at hl 1 rfl) ?_
  refine lv_ladd B.1 B.2.1 dX16_gathered_7 ?_
  refine lv_goto (tgt := 29) B.1 B.2.1 dX16_gathered_8 (by decide) ?_
  exact a_X16_gathered_29 K hQ hX _ _ h hGσ hS _ _ _ hH (lv_sub (l' := []) hl [] rfl) hc
set_option maxRecDepth 20000 in
theorem a_X16_gathered_0 {Q : Sg → Int64 → Prop} {X : Sg → String → Prop} (K : MC R p s m args c cX16_gathered 5 RX16 D cA tys A n0 s0 1 23 []) (hQ : HQJ p l e R s m args below meth c cX16_gathered D cA A n0 s0 QM dm ra jx rm Q) (hX : HX p l e R s m args below meth c 5 D cA A n0 s0 QM dm ra jx rm X) : ∀ (σ : Sg) (v0 : Int) (v1 : Int64) (v3 : Int64) (g0 : rng v0), w_X16_gathered_0 ra jx rm Q X σ v0 v1 v3 → RG σ → Shp dm ra jx rm σ → JJ p l e R s m args below meth c 5 D cA A n0 s0 QM σ 0 [(0, .int (i32 v0)), (1, .long v1), (3, .long v3)] [] := by
  intro σ v0 v1 v3 g0 h hGσ hS H locs ls hH hl hc
  have B := K.1
  unfold w_X16_gathered_0 at h
  refine lv_iload_n B.1 B.2.1 dX16_gathered_0 rfl (lv_at hl 0 rfl) ?_
  refine lv_iconst (v := i32 2) B.1 B.2.1 dX16_gathered_1 (by decide) ?_
  refine lv_icmp_ge (tgt := 11) B.1 B.2.1 dX16_gathered_2 (by decide) (fun h9 => ?_) (fun h9 => ?_)
  · rw [if_pos ((i32_le (by unfold rng; omega) g0).mp h9)] at h
    exact a_X16_gathered_11 K hQ hX _ _ _ _ g0 h hGσ hS _ _ _ hH (lv_sub (l' := [(0, .int (i32 v0)), (1, .long v1), (3, .long v3)]) hl [0, 1, 2] rfl) hc
  · rw [if_neg (fun q => h9 ((i32_le (by unfold rng; omega) g0).mpr q))] at h
    exact a_X16_gathered_5 K hQ hX _ _ _ h hGσ hS _ _ _ hH (lv_sub (l' := [(1, .long v1), (3, .long v3)]) hl [1, 2] rfl) hc
theorem ok_X16_gathered (hT : Tys cA tys) {Q : Sg → Int64 → Prop} {X : Sg → String → Prop} (σ : Sg) (v0 : Int) (v1 : Int64) (v3 : Int64) (g0 : rng v0) (hG : RG σ) (hS : Shp dm ra jx rm σ) (h : wp_X16_gathered ra jx rm v0 v1 v3 σ Q X) : Ok l D cA tys A yX16_gathered (.code yX16_gathered cX16_gathered 5 (some .long)) 1 23 [.int (i32 v0), .long v1, .long v3] σ (QnJ dm ra jx rm Q) (QxR dm ra jx rm X) := by
  unfold wp_X16_gathered at h
  exact ok_J (plainFor_of_name (by decide)) (by exact Nat.le_of_ble_eq_true rfl) hT (fun p e R s m args below meth c K hQ hX H locs ls hH hl hc => a_X16_gathered_0 K hQ hX σ v0 v1 v3 g0 h hG hS H locs ls hH (lv_sub (l' := [(0, .int (i32 v0)), (1, .long v1), (3, .long v3)]) hl [0, 1, 2] rfl) hc)
theorem dX16_gather_0 : decode cX16_gather 0 = .ok (.iconst 0, 1) := by decide +kernel
theorem dX16_gather_1 : decode cX16_gather 1 = .ok (.istore 5, 2) := by decide +kernel
theorem dX16_gather_3 : decode cX16_gather 3 = .ok (.iload 5, 2) := by decide +kernel
theorem dX16_gather_5 : decode cX16_gather 5 = .ok (.aload_n 0, 1) := by decide +kernel
theorem dX16_gather_6 : decode cX16_gather 6 = .ok (.getfield 356, 3) := by decide +kernel
theorem dX16_gather_9 : decode cX16_gather 9 = .ok (.getfield 222, 3) := by decide +kernel
theorem dX16_gather_12 : decode cX16_gather 12 = .ok (.iload_n 1, 1) := by decide +kernel
theorem dX16_gather_13 : decode cX16_gather 13 = .ok (.iaload, 1) := by decide +kernel
theorem dX16_gather_14 : decode cX16_gather 14 = .ok (.if_icmp .ge 58, 3) := by decide +kernel
theorem dX16_gather_17 : decode cX16_gather 17 = .ok (.aload_n 0, 1) := by decide +kernel
theorem dX16_gather_18 : decode cX16_gather 18 = .ok (.getfield 528, 3) := by decide +kernel
theorem dX16_gather_21 : decode cX16_gather 21 = .ok (.bipush 8, 2) := by decide +kernel
theorem dX16_gather_23 : decode cX16_gather 23 = .ok (.iload_n 2, 1) := by decide +kernel
theorem dX16_gather_24 : decode cX16_gather 24 = .ok (.imul, 1) := by decide +kernel
theorem dX16_gather_25 : decode cX16_gather 25 = .ok (.iload 5, 2) := by decide +kernel
theorem dX16_gather_27 : decode cX16_gather 27 = .ok (.iadd, 1) := by decide +kernel
theorem dX16_gather_28 : decode cX16_gather 28 = .ok (.aload_n 0, 1) := by decide +kernel
theorem dX16_gather_29 : decode cX16_gather 29 = .ok (.getfield 356, 3) := by decide +kernel
theorem dX16_gather_32 : decode cX16_gather 32 = .ok (.getfield 261, 3) := by decide +kernel
theorem dX16_gather_35 : decode cX16_gather 35 = .ok (.bipush 8, 2) := by decide +kernel
theorem dX16_gather_37 : decode cX16_gather 37 = .ok (.iload_n 1, 1) := by decide +kernel
theorem dX16_gather_38 : decode cX16_gather 38 = .ok (.imul, 1) := by decide +kernel
theorem dX16_gather_39 : decode cX16_gather 39 = .ok (.iload 5, 2) := by decide +kernel
theorem dX16_gather_41 : decode cX16_gather 41 = .ok (.iadd, 1) := by decide +kernel
theorem dX16_gather_42 : decode cX16_gather 42 = .ok (.iaload, 1) := by decide +kernel
theorem dX16_gather_43 : decode cX16_gather 43 = .ok (.aload_n 0, 1) := by decide +kernel
theorem dX16_gather_44 : decode cX16_gather 44 = .ok (.getfield 528, 3) := by decide +kernel
theorem dX16_gather_47 : decode cX16_gather 47 = .ok (.bipush 8, 2) := by decide +kernel
theorem dX16_gather_49 : decode cX16_gather 49 = .ok (.iload_n 2, 1) := by decide +kernel
theorem dX16_gather_50 : decode cX16_gather 50 = .ok (.imul, 1) := by decide +kernel
theorem dX16_gather_51 : decode cX16_gather 51 = .ok (.iload 5, 2) := by decide +kernel
theorem dX16_gather_53 : decode cX16_gather 53 = .ok (.iadd, 1) := by decide +kernel
theorem dX16_gather_54 : decode cX16_gather 54 = .ok (.laload, 1) := by decide +kernel
theorem dX16_gather_55 : decode cX16_gather 55 = .ok (.aload_n 3, 1) := by decide +kernel
theorem dX16_gather_56 : decode cX16_gather 56 = .ok (.iload 4, 2) := by decide +kernel
theorem dX16_gather_58 : decode cX16_gather 58 = .ok (.iload 5, 2) := by decide +kernel
theorem dX16_gather_60 : decode cX16_gather 60 = .ok (.iadd, 1) := by decide +kernel
theorem dX16_gather_61 : decode cX16_gather 61 = .ok (.laload, 1) := by decide +kernel
theorem dX16_gather_62 : decode cX16_gather 62 = .ok (.invokestatic 589, 3) := by decide +kernel
theorem dX16_gather_65 : decode cX16_gather 65 = .ok (.lastore, 1) := by decide +kernel
theorem dX16_gather_66 : decode cX16_gather 66 = .ok (.iinc 5 1, 3) := by decide +kernel
theorem dX16_gather_69 : decode cX16_gather 69 = .ok (.goto (-66), 3) := by decide +kernel
theorem dX16_gather_72 : decode cX16_gather 72 = .ok (.return_, 1) := by decide +kernel
set_option maxRecDepth 20000 in
theorem a_X16_gather_72 {Q : Sg → Unit → Prop} {X : Sg → String → Prop} (K : MC R p s m args c cX16_gather 6 RX16 D cA tys A n0 s0 2 47 []) (hQ : HQV p l e R s m args below meth c cX16_gather D cA A n0 s0 QM dm ra jx rm Q) (hX : HX p l e R s m args below meth c 6 D cA A n0 s0 QM dm ra jx rm X) : ∀ (σ : Sg), w_X16_gather_72 ra jx rm Q X σ → RG σ → Shp dm ra jx rm σ → JJ p l e R s m args below meth c 6 D cA A n0 s0 QM σ 72 [(0, .ref rm)] [] := by
  intro σ h hGσ hS H locs ls hH hl hc
  have B := K.1
  unfold w_X16_gather_72 at h
  exact hQ _ _ _ _ _ dX16_gather_72 hH hc h hGσ hS
set_option maxRecDepth 20000 in
theorem a_X16_gather_17 {Q : Sg → Unit → Prop} {X : Sg → String → Prop} (K : MC R p s m args c cX16_gather 6 RX16 D cA tys A n0 s0 2 47 []) (hQ : HQV p l e R s m args below meth c cX16_gather D cA A n0 s0 QM dm ra jx rm Q) (hX : HX p l e R s m args below meth c 6 D cA A n0 s0 QM dm ra jx rm X) {K3 : Sg → Int → Int → Option Nat → Int → Int → Prop} (hK3 : ∀ (σ : Sg) (v1 : Int) (v2 : Int) (v3 : Option Nat) (v4 : Int) (v5 : Int) (g1 : rng v1) (g2 : rng v2) (g4 : rng v4) (g5 : rng v5), K3 σ v1 v2 v3 v4 v5 → RG σ → Shp dm ra jx rm σ → JJ p l e R s m args below meth c 6 D cA A n0 s0 QM σ 3 [(0, .ref rm), (1, .int (i32 v1)), (2, .int (i32 v2)), (3, va_rf v3), (4, .int (i32 v4)), (5, .int (i32 v5))] []) : ∀ (σ : Sg) (v1 : Int) (v2 : Int) (v3 : Option Nat) (v4 : Int) (v5 : Int) (g1 : rng v1) (g2 : rng v2) (g4 : rng v4) (g5 : rng v5), w_X16_gather_17 ra jx rm K3 Q X σ v1 v2 v3 v4 v5 → RG σ → Shp dm ra jx rm σ → JJ p l e R s m args below meth c 6 D cA A n0 s0 QM σ 17 [(0, .ref rm), (1, .int (i32 v1)), (2, .int (i32 v2)), (3, va_rf v3), (4, .int (i32 v4)), (5, .int (i32 v5))] [] := by
  intro σ v1 v2 v3 v4 v5 g1 g2 g4 g5 h hGσ hS H locs ls hH hl hc
  have B := K.1
  unfold w_X16_gather_17 at h
  refine lv_aload_n B.1 B.2.1 dX16_gather_17 rfl (lv_at hl 0 rfl) ?_
  refine r_arr B hH hS 73 (kd := 101) (n := 32000) (by decide) (by decide) wf_X16_528 rfl rfl dX16_gather_18 ?_
  refine lv_bipush (v := i32 8) B.1 B.2.1 dX16_gather_21 (by decide) ?_
  refine lv_iload_n B.1 B.2.1 dX16_gather_23 rfl (lv_at hl 2 rfl) ?_
  obtain ⟨q1, h⟩ := h
  refine lv_imul B.1 B.2.1 dX16_gather_24 ?_
  rw [i32_mul]
  refine lv_iload B.1 B.2.1 dX16_gather_25 (lv_at hl 5 rfl) ?_
  obtain ⟨q2, h⟩ := h
  refine lv_iadd B.1 B.2.1 dX16_gather_27 ?_
  rw [i32_add]
  refine lv_aload_n B.1 B.2.1 dX16_gather_28 rfl (lv_at hl 0 rfl) ?_
  refine r_getp B hH hS 17 (by decide) wf_X16_356 rfl rfl dX16_gather_29 ?_
  obtain ⟨a15, ea15, ja15, h⟩ := h
  refine W.eq (g2 := F0 m 32 ls [.ref a15, .int (i32 ((8 * v2) + v5)), .ref (ra 73)]) (by rw [ea15]; rfl) ?_
  refine n_arr B hH hS ja15 14 (kd := 100) (n := 128) (by decide) (by decide) (List.mem_of_getElem? (i := 14) rfl) rfl dX16_gather_32 ?_
  refine lv_bipush (v := i32 8) B.1 B.2.1 dX16_gather_35 (by decide) ?_
  refine lv_iload_n B.1 B.2.1 dX16_gather_37 rfl (lv_at hl 1 rfl) ?_
  obtain ⟨q4, h⟩ := h
  refine lv_imul B.1 B.2.1 dX16_gather_38 ?_
  rw [i32_mul]
  refine lv_iload B.1 B.2.1 dX16_gather_39 (lv_at hl 5 rfl) ?_
  obtain ⟨q5, h⟩ := h
  refine lv_iadd B.1 B.2.1 dX16_gather_41 ?_
  rw [i32_add]
  obtain ⟨q6, h⟩ := h
  refine x_iald B K.2.1 hH (hS.ja ja15 (k := 14) (kd := 100) (n := 128) (by decide)) (by decide) q6 dX16_gather_42 ?_
  refine lv_aload_n B.1 B.2.1 dX16_gather_43 rfl (lv_at hl 0 rfl) ?_
  refine r_arr B hH hS 73 (kd := 101) (n := 32000) (by decide) (by decide) wf_X16_528 rfl rfl dX16_gather_44 ?_
  refine lv_bipush (v := i32 8) B.1 B.2.1 dX16_gather_47 (by decide) ?_
  refine lv_iload_n B.1 B.2.1 dX16_gather_49 rfl (lv_at hl 2 rfl) ?_
  obtain ⟨q7, h⟩ := h
  refine lv_imul B.1 B.2.1 dX16_gather_50 ?_
  rw [i32_mul]
  refine lv_iload B.1 B.2.1 dX16_gather_51 (lv_at hl 5 rfl) ?_
  obtain ⟨q8, h⟩ := h
  refine lv_iadd B.1 B.2.1 dX16_gather_53 ?_
  rw [i32_add]
  obtain ⟨q9, h⟩ := h
  refine x_lald B K.2.1 hH (hS.ar (k := 73) (kd := 101) (n := 32000) (by decide)) (by decide) q9 dX16_gather_54 ?_
  refine lv_aload_nQ B.1 B.2.1 dX16_gather_55 rfl (lv_at hl 3 rfl) ?_
  refine lv_iload B.1 B.2.1 dX16_gather_56 (lv_at hl 4 rfl) ?_
  refine lv_iload B.1 B.2.1 dX16_gather_58 (lv_at hl 5 rfl) ?_
  obtain ⟨q10, h⟩ := h
  refine lv_iadd B.1 B.2.1 dX16_gather_60 ?_
  rw [i32_add]
  obtain ⟨b16, n17, eb16, jb16, ib16, h⟩ := h
  refine W.eq (g2 := F0 m 61 ls [.int (i32 (v4 + v5)), .ref b16, .long (gJ σ (ra 73) ((8 * v2) + v5).toNat), .int (i32 (gI σ (jx a15 14) ((8 * v1) + v5).toNat)), .int (i32 ((8 * v2) + v5)), .ref (ra 73)]) (by rw [eb16]; rfl) ?_
  refine x_lald B K.2.1 hH (hS.any jb16) (rAr_lt jb16) ib16 dX16_gather_61 ?_
  refine c_S B hH hl hc K.2.2.1 (As := [.int (i32 (gI σ (jx a15 14) ((8 * v1) + v5).toNat)), .long (gJ σ (ra 73) ((8 * v2) + v5).toNat), .long (gJ σ b16 (v4 + v5).toNat)]) (ok_X16_gathered K.2.1 σ (gI σ (jx a15 14) ((8 * v1) + v5).toNat) (gJ σ (ra 73) ((8 * v2) + v5).toNat) (gJ σ b16 (v4 + v5).toNat) (hGσ _ _) hGσ hS h) wc_X16_589 3 hd_X16_gathered ⟨Nat.le_trans (Nat.le_of_ble_eq_true rfl) K.2.2.2.1, Nat.le_trans (Nat.le_of_ble_eq_true rfl) K.2.2.2.2.1⟩ rfl (rest := [.int (i32 ((8 * v2) + v5)), .ref (ra 73)]) rfl (Nat.le_of_ble_eq_true rfl) dX16_gather_62 (fun σ18 w hq => ?_) (fun σ9 E9 hx9 => hX σ9 E9 _ _ _ (tb_out K.2.2.2.2.2 rfl) hx9.1 hx9.2.1 hx9.2.2)
  obtain ⟨r19, rfl, h, hGσ18, hS⟩ := hq
  intro H locs ls hH hl hc
  refine W.eq (g2 := F0 m 65 ls [.long r19, .int (i32 ((8 * v2) + v5)), .ref (ra 73)]) (rfl) ?_
  try dsimp only at h
  obtain ⟨q12, h⟩ := h
  obtain ⟨σ20, eσ20⟩ : ∃ z, z = pJ σ18 (ra 73) ((8 * v2) + v5).toNat r19 := ⟨_, rfl⟩
  have h := h σ20 eσ20
  refine x_last B K.2.1 hH (hS.ar (k := 73) (kd := 101) (n := 32000) (by decide)) (by decide) q12 dX16_gather_65 (fun H locs hH => ?_)
  have hH : Hd D cA A s (pJ σ18 (ra 73) ((8 * v2) + v5).toNat r19) H locs := hH
  rw [← eσ20] at hH
  have hGσ20 : RG σ20 := by rw [eσ20]; exact hGσ18.pJ
  have hS : Shp dm ra jx rm σ20 := by rw [eσ20]; exact hS
  have hc : CB n0 s0 σ20 := by rw [eσ20]; exact hc
  rw [show gc σ18 = gc σ20 by rw [eσ20], show gs σ18 = gs σ20 by rw [eσ20]]
  obtain ⟨q14, h⟩ := h
  refine lv_iinc (k := 5) (v := i32 (v5 + 1)) (lv' := [(5, .int (i32 (v5 + 1))), (0, .ref rm), (1, .int (i32 v1)), (2, .int (i32 v2)), (3, va_rf v3), (4, .int (i32 v4))]) B.1 B.2.1 dX16_gather_66 hl rfl (i32_add _ _) (by decide) rfl (fun ls hl => ?_)
  refine lv_goto (tgt := 3) B.1 B.2.1 dX16_gather_69 (by decide) ?_
  exact hK3 _ _ _ _ _ _ g1 g2 g4 q14 h hGσ20 hS _ _ _ hH (lv_sub (l' := [(0, .ref rm), (1, .int (i32 v1)), (2, .int (i32 v2)), (3, va_rf v3), (4, .int (i32 v4)), (5, .int (i32 (v5 + 1)))]) hl [1, 2, 3, 4, 5, 0] rfl) hc
set_option maxRecDepth 20000 in
theorem a_X16_gather_3 {Q : Sg → Unit → Prop} {X : Sg → String → Prop} (K : MC R p s m args c cX16_gather 6 RX16 D cA tys A n0 s0 2 47 []) (hQ : HQV p l e R s m args below meth c cX16_gather D cA A n0 s0 QM dm ra jx rm Q) (hX : HX p l e R s m args below meth c 6 D cA A n0 s0 QM dm ra jx rm X) {K3 : Sg → Int → Int → Option Nat → Int → Int → Prop} (hK3 : ∀ (σ : Sg) (v1 : Int) (v2 : Int) (v3 : Option Nat) (v4 : Int) (v5 : Int) (g1 : rng v1) (g2 : rng v2) (g4 : rng v4) (g5 : rng v5), K3 σ v1 v2 v3 v4 v5 → RG σ → Shp dm ra jx rm σ → JJ p l e R s m args below meth c 6 D cA A n0 s0 QM σ 3 [(0, .ref rm), (1, .int (i32 v1)), (2, .int (i32 v2)), (3, va_rf v3), (4, .int (i32 v4)), (5, .int (i32 v5))] []) : ∀ (σ : Sg) (v1 : Int) (v2 : Int) (v3 : Option Nat) (v4 : Int) (v5 : Int) (g1 : rng v1) (g2 : rng v2) (g4 : rng v4) (g5 : rng v5), w_X16_gather_3 ra jx rm K3 Q X σ v1 v2 v3 v4 v5 → RG σ → Shp dm ra jx rm σ → JJ p l e R s m args below meth c 6 D cA A n0 s0 QM σ 3 [(0, .ref rm), (1, .int (i32 v1)), (2, .int (i32 v2)), (3, va_rf v3), (4, .int (i32 v4)), (5, .int (i32 v5))] [] := by
  intro σ v1 v2 v3 v4 v5 g1 g2 g4 g5 h hGσ hS H locs ls hH hl hc
  have B := K.1
  unfold w_X16_gather_3 at h
  refine lv_iload B.1 B.2.1 dX16_gather_3 (lv_at hl 5 rfl) ?_
  refine lv_aload_n B.1 B.2.1 dX16_gather_5 rfl (lv_at hl 0 rfl) ?_
  refine r_getp B hH hS 17 (by decide) wf_X16_356 rfl rfl dX16_gather_6 ?_
  obtain ⟨a21, ea21, ja21, h⟩ := h
  refine W.eq (g2 := F0 m 9 ls [.ref a21, .int (i32 v5)]) (by rw [ea21]; rfl) ?_
  refine n_arr B hH hS ja21 12 (kd := 100) (n := 16) (by decide) (by decide) (List.mem_of_getElem? (i := 12) rfl) rfl dX16_gather_9 ?_
  refine lv_iload_n B.1 B.2.1 dX16_gather_12 rfl (lv_at hl 1 rfl) ?_
  obtain ⟨q2, h⟩ := h
  refine x_iald B K.2.1 hH (hS.ja ja21 (k := 12) (kd := 100) (n := 16) (by decide)) (by decide) q2 dX16_gather_13 ?_
  refine lv_icmp_ge (tgt := 72) B.1 B.2.1 dX16_gather_14 (by decide) (fun h9 => ?_) (fun h9 => ?_)
  · rw [if_pos ((i32_le (hGσ _ _) g5).mp h9)] at h
    exact a_X16_gather_72 K hQ hX _ h hGσ hS _ _ _ hH (lv_sub (l' := [(0, .ref rm)]) hl [0] rfl) hc
  · rw [if_neg (fun q => h9 ((i32_le (hGσ _ _) g5).mpr q))] at h
    exact a_X16_gather_17 K hQ hX hK3 _ _ _ _ _ _ g1 g2 g4 g5 h hGσ hS _ _ _ hH (lv_sub (l' := [(0, .ref rm), (1, .int (i32 v1)), (2, .int (i32 v2)), (3, va_rf v3), (4, .int (i32 v4)), (5, .int (i32 v5))]) hl [0, 1, 2, 3, 4, 5] rfl) hc
theorem al_X16_gather_3 {Q : Sg → Unit → Prop} {X : Sg → String → Prop} (K : MC R p s m args c cX16_gather 6 RX16 D cA tys A n0 s0 2 47 []) (hQ : HQV p l e R s m args below meth c cX16_gather D cA A n0 s0 QM dm ra jx rm Q) (hX : HX p l e R s m args below meth c 6 D cA A n0 s0 QM dm ra jx rm X) : ∀ (n : Nat), ∀ (σ : Sg) (v1 : Int) (v2 : Int) (v3 : Option Nat) (v4 : Int) (v5 : Int) (g1 : rng v1) (g2 : rng v2) (g4 : rng v4) (g5 : rng v5), wl_X16_gather_3 ra jx rm Q X n σ v1 v2 v3 v4 v5 → RG σ → Shp dm ra jx rm σ → JJ p l e R s m args below meth c 6 D cA A n0 s0 QM σ 3 [(0, .ref rm), (1, .int (i32 v1)), (2, .int (i32 v2)), (3, va_rf v3), (4, .int (i32 v4)), (5, .int (i32 v5))] [] := by
  intro n
  induction n with
  | zero => intro σ v1 v2 v3 v4 v5 g1 g2 g4 g5 h; exact h.elim
  | succ n ih => exact fun σ v1 v2 v3 v4 v5 g1 g2 g4 g5 h => a_X16_gather_3 K hQ hX ih σ v1 v2 v3 v4 v5 g1 g2 g4 g5 h
set_option maxRecDepth 20000 in
theorem a_X16_gather_0 {Q : Sg → Unit → Prop} {X : Sg → String → Prop} (K : MC R p s m args c cX16_gather 6 RX16 D cA tys A n0 s0 2 47 []) (hQ : HQV p l e R s m args below meth c cX16_gather D cA A n0 s0 QM dm ra jx rm Q) (hX : HX p l e R s m args below meth c 6 D cA A n0 s0 QM dm ra jx rm X) : ∀ (σ : Sg) (v1 : Int) (v2 : Int) (v3 : Option Nat) (v4 : Int) (g1 : rng v1) (g2 : rng v2) (g4 : rng v4), w_X16_gather_0 ra jx rm Q X σ v1 v2 v3 v4 → RG σ → Shp dm ra jx rm σ → JJ p l e R s m args below meth c 6 D cA A n0 s0 QM σ 0 [(0, .ref rm), (1, .int (i32 v1)), (2, .int (i32 v2)), (3, va_rf v3), (4, .int (i32 v4))] [] := by
  intro σ v1 v2 v3 v4 g1 g2 g4 h hGσ hS H locs ls hH hl hc
  have B := K.1
  unfold w_X16_gather_0 at h
  refine lv_iconst (v := i32 0) B.1 B.2.1 dX16_gather_0 (by decide) ?_
  refine lv_istore (lv' := [(5, .int (i32 0)), (0, .ref rm), (1, .int (i32 v1)), (2, .int (i32 v2)), (3, va_rf v3), (4, .int (i32 v4))]) B.1 B.2.1 dX16_gather_1 hl (by decide) rfl (fun ls hl => ?_)
  obtain ⟨n9, h⟩ := h
  exact al_X16_gather_3 K hQ hX n9 _ _ _ _ _ _ g1 g2 g4 (by unfold rng; omega) h hGσ hS _ _ _ hH (lv_sub (l' := [(0, .ref rm), (1, .int (i32 v1)), (2, .int (i32 v2)), (3, va_rf v3), (4, .int (i32 v4)), (5, .int (i32 0))]) hl [1, 2, 3, 4, 5, 0] rfl) hc
theorem ok_X16_gather (hT : Tys cA tys) {Q : Sg → Unit → Prop} {X : Sg → String → Prop} (σ : Sg) (v1 : Int) (v2 : Int) (v3 : Option Nat) (v4 : Int) (g1 : rng v1) (g2 : rng v2) (g4 : rng v4) (hG : RG σ) (hS : Shp dm ra jx rm σ) (h : wp_X16_gather ra jx rm v1 v2 v3 v4 σ Q X) : Ok l D cA tys A yX16_gather (.code yX16_gather cX16_gather 6 none) 2 47 [.ref rm, .int (i32 v1), .int (i32 v2), va_rf v3, .int (i32 v4)] σ (QnV dm ra jx rm Q) (QxR dm ra jx rm X) := by
  unfold wp_X16_gather at h
  exact ok_V (plainFor_of_name (by decide)) (by cases v3 <;> exact Nat.le_of_ble_eq_true rfl) hT (fun p e R s m args below meth c K hQ hX H locs ls hH hl hc => a_X16_gather_0 K hQ hX σ v1 v2 v3 v4 g1 g2 g4 h hG hS H locs ls hH (lv_sub (l' := [(0, .ref rm), (1, .int (i32 v1)), (2, .int (i32 v2)), (3, va_rf v3), (4, .int (i32 v4))]) hl [0, 1, 2, 3, 4] (by cases v3 <;> rfl)) hc)
theorem dX16_pass_0 : decode cX16_pass 0 = .ok (.aload_n 0, 1) := by decide +kernel
theorem dX16_pass_1 : decode cX16_pass 1 = .ok (.getfield 861, 3) := by decide +kernel
theorem dX16_pass_4 : decode cX16_pass 4 = .ok (.sipush 4000, 3) := by decide +kernel
theorem dX16_pass_7 : decode cX16_pass 7 = .ok (.if_icmp .ne 8, 3) := by decide +kernel
theorem dX16_pass_10 : decode cX16_pass 10 = .ok (.aload_n 0, 1) := by decide +kernel
theorem dX16_pass_11 : decode cX16_pass 11 = .ok (.getfield 346, 3) := by decide +kernel
theorem dX16_pass_14 : decode cX16_pass 14 = .ok (.athrow, 1) := by decide +kernel
theorem dX16_pass_15 : decode cX16_pass 15 = .ok (.aload_n 0, 1) := by decide +kernel
theorem dX16_pass_16 : decode cX16_pass 16 = .ok (.getfield 864, 3) := by decide +kernel
theorem dX16_pass_19 : decode cX16_pass 19 = .ok (.aload_n 0, 1) := by decide +kernel
theorem dX16_pass_20 : decode cX16_pass 20 = .ok (.getfield 861, 3) := by decide +kernel
theorem dX16_pass_23 : decode cX16_pass 23 = .ok (.lload_n 1, 1) := by decide +kernel
theorem dX16_pass_24 : decode cX16_pass 24 = .ok (.lastore, 1) := by decide +kernel
theorem dX16_pass_25 : decode cX16_pass 25 = .ok (.iconst 0, 1) := by decide +kernel
theorem dX16_pass_26 : decode cX16_pass 26 = .ok (.istore 5, 2) := by decide +kernel
theorem dX16_pass_28 : decode cX16_pass 28 = .ok (.iload 5, 2) := by decide +kernel
theorem dX16_pass_30 : decode cX16_pass 30 = .ok (.bipush 8, 2) := by decide +kernel
theorem dX16_pass_32 : decode cX16_pass 32 = .ok (.if_icmp .ge 31, 3) := by decide +kernel
theorem dX16_pass_35 : decode cX16_pass 35 = .ok (.aload_n 0, 1) := by decide +kernel
theorem dX16_pass_36 : decode cX16_pass 36 = .ok (.getfield 867, 3) := by decide +kernel
theorem dX16_pass_39 : decode cX16_pass 39 = .ok (.bipush 8, 2) := by decide +kernel
theorem dX16_pass_41 : decode cX16_pass 41 = .ok (.aload_n 0, 1) := by decide +kernel
theorem dX16_pass_42 : decode cX16_pass 42 = .ok (.getfield 861, 3) := by decide +kernel
theorem dX16_pass_45 : decode cX16_pass 45 = .ok (.imul, 1) := by decide +kernel
theorem dX16_pass_46 : decode cX16_pass 46 = .ok (.iload 5, 2) := by decide +kernel
theorem dX16_pass_48 : decode cX16_pass 48 = .ok (.iadd, 1) := by decide +kernel
theorem dX16_pass_49 : decode cX16_pass 49 = .ok (.aload_n 3, 1) := by decide +kernel
theorem dX16_pass_50 : decode cX16_pass 50 = .ok (.iload 4, 2) := by decide +kernel
theorem dX16_pass_52 : decode cX16_pass 52 = .ok (.iload 5, 2) := by decide +kernel
theorem dX16_pass_54 : decode cX16_pass 54 = .ok (.iadd, 1) := by decide +kernel
theorem dX16_pass_55 : decode cX16_pass 55 = .ok (.laload, 1) := by decide +kernel
theorem dX16_pass_56 : decode cX16_pass 56 = .ok (.lastore, 1) := by decide +kernel
theorem dX16_pass_57 : decode cX16_pass 57 = .ok (.iinc 5 1, 3) := by decide +kernel
theorem dX16_pass_60 : decode cX16_pass 60 = .ok (.goto (-32), 3) := by decide +kernel
theorem dX16_pass_63 : decode cX16_pass 63 = .ok (.aload_n 0, 1) := by decide +kernel
theorem dX16_pass_64 : decode cX16_pass 64 = .ok (.dup, 1) := by decide +kernel
theorem dX16_pass_65 : decode cX16_pass 65 = .ok (.getfield 861, 3) := by decide +kernel
theorem dX16_pass_68 : decode cX16_pass 68 = .ok (.iconst 1, 1) := by decide +kernel
theorem dX16_pass_69 : decode cX16_pass 69 = .ok (.iadd, 1) := by decide +kernel
theorem dX16_pass_70 : decode cX16_pass 70 = .ok (.putfield 861, 3) := by decide +kernel
theorem dX16_pass_73 : decode cX16_pass 73 = .ok (.return_, 1) := by decide +kernel
set_option maxRecDepth 20000 in
theorem a_X16_pass_63 {Q : Sg → Unit → Prop} {X : Sg → String → Prop} (K : MC R p s m args c cX16_pass 6 RX16 D cA tys A n0 s0 0 0 []) (hQ : HQV p l e R s m args below meth c cX16_pass D cA A n0 s0 QM dm ra jx rm Q) (hX : HX p l e R s m args below meth c 6 D cA A n0 s0 QM dm ra jx rm X) : ∀ (σ : Sg), w_X16_pass_63 ra jx rm Q X σ → RG σ → Shp dm ra jx rm σ → JJ p l e R s m args below meth c 6 D cA A n0 s0 QM σ 63 [(0, .ref rm)] [] := by
  intro σ h hGσ hS H locs ls hH hl hc
  have B := K.1
  unfold w_X16_pass_63 at h
  refine lv_aload_n B.1 B.2.1 dX16_pass_63 rfl (lv_at hl 0 rfl) ?_
  refine lv_dup B.1 B.2.1 dX16_pass_64 rfl ?_
  refine r_geti B hH hS 117 (by decide) wf_X16_861 rfl rfl dX16_pass_65 ?_
  refine lv_iconst (v := i32 1) B.1 B.2.1 dX16_pass_68 (by decide) ?_
  obtain ⟨q1, h⟩ := h
  refine lv_iadd B.1 B.2.1 dX16_pass_69 ?_
  rw [i32_add]
  obtain ⟨σ11, eσ11⟩ : ∃ z, z = pI σ rm 117 (gI σ rm 117 + 1) := ⟨_, rfl⟩
  have h := h σ11 eσ11
  refine r_puti B hH hS 117 (ty := .int) (by decide) wf_X16_861 rfl rfl rfl rfl rfl rfl dX16_pass_70 (fun H locs hH => ?_)
  have hH : Hd D cA A s (pI σ rm 117 (gI σ rm 117 + 1)) H locs := hH
  rw [← eσ11] at hH
  have hGσ11 : RG σ11 := by rw [eσ11]; exact hGσ.pI q1
  have hS : Shp dm ra jx rm σ11 := by rw [eσ11]; exact hS
  have hc : CB n0 s0 σ11 := by rw [eσ11]; exact hc
  rw [show gc σ = gc σ11 by rw [eσ11], show gs σ = gs σ11 by rw [eσ11]]
  exact hQ _ _ _ _ _ dX16_pass_73 hH hc h hGσ11 hS
set_option maxRecDepth 20000 in
theorem a_X16_pass_35 {Q : Sg → Unit → Prop} {X : Sg → String → Prop} (K : MC R p s m args c cX16_pass 6 RX16 D cA tys A n0 s0 0 0 []) (hQ : HQV p l e R s m args below meth c cX16_pass D cA A n0 s0 QM dm ra jx rm Q) (hX : HX p l e R s m args below meth c 6 D cA A n0 s0 QM dm ra jx rm X) {K28 : Sg → Option Nat → Int → Int → Prop} (hK28 : ∀ (σ : Sg) (v3 : Option Nat) (v4 : Int) (v5 : Int) (g4 : rng v4) (g5 : rng v5), K28 σ v3 v4 v5 → RG σ → Shp dm ra jx rm σ → JJ p l e R s m args below meth c 6 D cA A n0 s0 QM σ 28 [(0, .ref rm), (3, va_rf v3), (4, .int (i32 v4)), (5, .int (i32 v5))] []) : ∀ (σ : Sg) (v3 : Option Nat) (v4 : Int) (v5 : Int) (g4 : rng v4) (g5 : rng v5), w_X16_pass_35 ra jx rm K28 Q X σ v3 v4 v5 → RG σ → Shp dm ra jx rm σ → JJ p l e R s m args below meth c 6 D cA A n0 s0 QM σ 35 [(0, .ref rm), (3, va_rf v3), (4, .int (i32 v4)), (5, .int (i32 v5))] [] := by
  intro σ v3 v4 v5 g4 g5 h hGσ hS H locs ls hH hl hc
  have B := K.1
  unfold w_X16_pass_35 at h
  refine lv_aload_n B.1 B.2.1 dX16_pass_35 rfl (lv_at hl 0 rfl) ?_
  refine r_arr B hH hS 116 (kd := 101) (n := 32000) (by decide) (by decide) wf_X16_867 rfl rfl dX16_pass_36 ?_
  refine lv_bipush (v := i32 8) B.1 B.2.1 dX16_pass_39 (by decide) ?_
  refine lv_aload_n B.1 B.2.1 dX16_pass_41 rfl (lv_at hl 0 rfl) ?_
  refine r_geti B hH hS 117 (by decide) wf_X16_861 rfl rfl dX16_pass_42 ?_
  obtain ⟨q1, h⟩ := h
  refine lv_imul B.1 B.2.1 dX16_pass_45 ?_
  rw [i32_mul]
  refine lv_iload B.1 B.2.1 dX16_pass_46 (lv_at hl 3 rfl) ?_
  obtain ⟨q2, h⟩ := h
  refine lv_iadd B.1 B.2.1 dX16_pass_48 ?_
  rw [i32_add]
  refine lv_aload_nQ B.1 B.2.1 dX16_pass_49 rfl (lv_at hl 1 rfl) ?_
  refine lv_iload B.1 B.2.1 dX16_pass_50 (lv_at hl 2 rfl) ?_
  refine lv_iload B.1 B.2.1 dX16_pass_52 (lv_at hl 3 rfl) ?_
  obtain ⟨q3, h⟩ := h
  refine lv_iadd B.1 B.2.1 dX16_pass_54 ?_
  rw [i32_add]
  obtain ⟨b12, n13, eb12, jb12, ib12, h⟩ := h
  refine W.eq (g2 := F0 m 55 ls [.int (i32 (v4 + v5)), .ref b12, .int (i32 ((8 * gI σ rm 117) + v5)), .ref (ra 116)]) (by rw [eb12]; rfl) ?_
  refine x_lald B K.2.1 hH (hS.any jb12) (rAr_lt jb12) ib12 dX16_pass_55 ?_
  obtain ⟨q5, h⟩ := h
  obtain ⟨σ14, eσ14⟩ : ∃ z, z = pJ σ (ra 116) ((8 * gI σ rm 117) + v5).toNat (gJ σ b12 (v4 + v5).toNat) := ⟨_, rfl⟩
  have h := h σ14 eσ14
  refine x_last B K.2.1 hH (hS.ar (k := 116) (kd := 101) (n := 32000) (by decide)) (by decide) q5 dX16_pass_56 (fun H locs hH => ?_)
  have hH : Hd D cA A s (pJ σ (ra 116) ((8 * gI σ rm 117) + v5).toNat (gJ σ b12 (v4 + v5).toNat)) H locs := hH
  rw [← eσ14] at hH
  have hGσ14 : RG σ14 := by rw [eσ14]; exact hGσ.pJ
  have hS : Shp dm ra jx rm σ14 := by rw [eσ14]; exact hS
  have hc : CB n0 s0 σ14 := by rw [eσ14]; exact hc
  rw [show gc σ = gc σ14 by rw [eσ14], show gs σ = gs σ14 by rw [eσ14]]
  obtain ⟨q7, h⟩ := h
  refine lv_iinc (k := 3) (v := i32 (v5 + 1)) (lv' := [(5, .int (i32 (v5 + 1))), (0, .ref rm), (3, va_rf v3), (4, .int (i32 v4))]) B.1 B.2.1 dX16_pass_57 hl rfl (i32_add _ _) (by decide) rfl (fun ls hl => ?_)
  refine lv_goto (tgt := 28) B.1 B.2.1 dX16_pass_60 (by decide) ?_
  exact hK28 _ _ _ _ g4 q7 h hGσ14 hS _ _ _ hH (lv_sub (l' := [(0, .ref rm), (3, va_rf v3), (4, .int (i32 v4)), (5, .int (i32 (v5 + 1)))]) hl [1, 2, 3, 0] rfl) hc
set_option maxRecDepth 20000 in
theorem a_X16_pass_28 {Q : Sg → Unit → Prop} {X : Sg → String → Prop} (K : MC R p s m args c cX16_pass 6 RX16 D cA tys A n0 s0 0 0 []) (hQ : HQV p l e R s m args below meth c cX16_pass D cA A n0 s0 QM dm ra jx rm Q) (hX : HX p l e R s m args below meth c 6 D cA A n0 s0 QM dm ra jx rm X) {K28 : Sg → Option Nat → Int → Int → Prop} (hK28 : ∀ (σ : Sg) (v3 : Option Nat) (v4 : Int) (v5 : Int) (g4 : rng v4) (g5 : rng v5), K28 σ v3 v4 v5 → RG σ → Shp dm ra jx rm σ → JJ p l e R s m args below meth c 6 D cA A n0 s0 QM σ 28 [(0, .ref rm), (3, va_rf v3), (4, .int (i32 v4)), (5, .int (i32 v5))] []) : ∀ (σ : Sg) (v3 : Option Nat) (v4 : Int) (v5 : Int) (g4 : rng v4) (g5 : rng v5), w_X16_pass_28 ra jx rm K28 Q X σ v3 v4 v5 → RG σ → Shp dm ra jx rm σ → JJ p l e R s m args below meth c 6 D cA A n0 s0 QM σ 28 [(0, .ref rm), (3, va_rf v3), (4, .int (i32 v4)), (5, .int (i32 v5))] [] := by
  intro σ v3 v4 v5 g4 g5 h hGσ hS H locs ls hH hl hc
  have B := K.1
  unfold w_X16_pass_28 at h
  refine lv_iload B.1 B.2.1 dX16_pass_28 (lv_at hl 3 rfl) ?_
  refine lv_bipush (v := i32 8) B.1 B.2.1 dX16_pass_30 (by decide) ?_
  refine lv_icmp_ge (tgt := 63) B.1 B.2.1 dX16_pass_32 (by decide) (fun h9 => ?_) (fun h9 => ?_)
  · rw [if_pos ((i32_le (by unfold rng; omega) g5).mp h9)] at h
    exact a_X16_pass_63 K hQ hX _ h hGσ hS _ _ _ hH (lv_sub (l' := [(0, .ref rm)]) hl [0] rfl) hc
  · rw [if_neg (fun q => h9 ((i32_le (by unfold rng; omega) g5).mpr q))] at h
    exact a_X16_pass_35 K hQ hX hK28 _ _ _ _ g4 g5 h hGσ hS _ _ _ hH (lv_sub (l' := [(0, .ref rm), (3, va_rf v3), (4, .int (i32 v4)), (5, .int (i32 v5))]) hl [0, 1, 2, 3] rfl) hc
theorem al_X16_pass_28 {Q : Sg → Unit → Prop} {X : Sg → String → Prop} (K : MC R p s m args c cX16_pass 6 RX16 D cA tys A n0 s0 0 0 []) (hQ : HQV p l e R s m args below meth c cX16_pass D cA A n0 s0 QM dm ra jx rm Q) (hX : HX p l e R s m args below meth c 6 D cA A n0 s0 QM dm ra jx rm X) : ∀ (n : Nat), ∀ (σ : Sg) (v3 : Option Nat) (v4 : Int) (v5 : Int) (g4 : rng v4) (g5 : rng v5), wl_X16_pass_28 ra jx rm Q X n σ v3 v4 v5 → RG σ → Shp dm ra jx rm σ → JJ p l e R s m args below meth c 6 D cA A n0 s0 QM σ 28 [(0, .ref rm), (3, va_rf v3), (4, .int (i32 v4)), (5, .int (i32 v5))] [] := by
  intro n
  induction n with
  | zero => intro σ v3 v4 v5 g4 g5 h; exact h.elim
  | succ n ih => exact fun σ v3 v4 v5 g4 g5 h => a_X16_pass_28 K hQ hX ih σ v3 v4 v5 g4 g5 h
set_option maxRecDepth 20000 in
theorem a_X16_pass_15 {Q : Sg → Unit → Prop} {X : Sg → String → Prop} (K : MC R p s m args c cX16_pass 6 RX16 D cA tys A n0 s0 0 0 []) (hQ : HQV p l e R s m args below meth c cX16_pass D cA A n0 s0 QM dm ra jx rm Q) (hX : HX p l e R s m args below meth c 6 D cA A n0 s0 QM dm ra jx rm X) : ∀ (σ : Sg) (v1 : Int64) (v3 : Option Nat) (v4 : Int) (g4 : rng v4), w_X16_pass_15 ra jx rm Q X σ v1 v3 v4 → RG σ → Shp dm ra jx rm σ → JJ p l e R s m args below meth c 6 D cA A n0 s0 QM σ 15 [(0, .ref rm), (1, .long v1), (3, va_rf v3), (4, .int (i32 v4))] [] := by
  intro σ v1 v3 v4 g4 h hGσ hS H locs ls hH hl hc
  have B := K.1
  unfold w_X16_pass_15 at h
  refine lv_aload_n B.1 B.2.1 dX16_pass_15 rfl (lv_at hl 0 rfl) ?_
  refine r_arr B hH hS 115 (kd := 101) (n := 4000) (by decide) (by decide) wf_X16_864 rfl rfl dX16_pass_16 ?_
  refine lv_aload_n B.1 B.2.1 dX16_pass_19 rfl (lv_at hl 0 rfl) ?_
  refine r_geti B hH hS 117 (by decide) wf_X16_861 rfl rfl dX16_pass_20 ?_
  refine lv_lload_n B.1 B.2.1 dX16_pass_23 rfl (lv_at hl 1 rfl) ?_
  obtain ⟨q1, h⟩ := h
  obtain ⟨σ15, eσ15⟩ : ∃ z, z = pJ σ (ra 115) (gI σ rm 117).toNat v1 := ⟨_, rfl⟩
  have h := h σ15 eσ15
  refine x_last B K.2.1 hH (hS.ar (k := 115) (kd := 101) (n := 4000) (by decide)) (by decide) q1 dX16_pass_24 (fun H locs hH => ?_)
  have hH : Hd D cA A s (pJ σ (ra 115) (gI σ rm 117).toNat v1) H locs := hH
  rw [← eσ15] at hH
  have hGσ15 : RG σ15 := by rw [eσ15]; exact hGσ.pJ
  have hS : Shp dm ra jx rm σ15 := by rw [eσ15]; exact hS
  have hc : CB n0 s0 σ15 := by rw [eσ15]; exact hc
  rw [show gc σ = gc σ15 by rw [eσ15], show gs σ = gs σ15 by rw [eσ15]]
  refine lv_iconst (v := i32 0) B.1 B.2.1 dX16_pass_25 (by decide) ?_
  refine lv_istore (lv' := [(5, .int (i32 0)), (0, .ref rm), (1, .long v1), (3, va_rf v3), (4, .int (i32 v4))]) B.1 B.2.1 dX16_pass_26 hl (by decide) rfl (fun ls hl => ?_)
  obtain ⟨n9, h⟩ := h
  exact al_X16_pass_28 K hQ hX n9 _ _ _ _ g4 (by unfold rng; omega) h hGσ15 hS _ _ _ hH (lv_sub (l' := [(0, .ref rm), (3, va_rf v3), (4, .int (i32 v4)), (5, .int (i32 0))]) hl [1, 3, 4, 0] rfl) hc
set_option maxRecDepth 20000 in
theorem a_X16_pass_10 {Q : Sg → Unit → Prop} {X : Sg → String → Prop} (K : MC R p s m args c cX16_pass 6 RX16 D cA tys A n0 s0 0 0 []) (hQ : HQV p l e R s m args below meth c cX16_pass D cA A n0 s0 QM dm ra jx rm Q) (hX : HX p l e R s m args below meth c 6 D cA A n0 s0 QM dm ra jx rm X) : ∀ (σ : Sg), w_X16_pass_10 ra jx rm Q X σ → RG σ → Shp dm ra jx rm σ → JJ p l e R s m args below meth c 6 D cA A n0 s0 QM σ 10 [(0, .ref rm)] [] := by
  intro σ h hGσ hS H locs ls hH hl hc
  have B := K.1
  unfold w_X16_pass_10 at h
  refine lv_aload_n B.1 B.2.1 dX16_pass_10 rfl (lv_at hl 0 rfl) ?_
  refine r_obj B hH hS 28 (ci := 13) (by decide) (by decide) wf_X16_346 rfl rfl dX16_pass_11 ?_
  refine W.eq (g2 := F0 m 14 ls [va_rf (some (ra 28))]) (rfl) ?_
  obtain ⟨qt, h⟩ := h
  rcases qt with qt | qt
  · refine W.eq (g2 := F0 m 14 ls [.ref (ra 28)]) (by rw [qt]; rfl) ?_
    have hx9 := And.intro h (And.intro hGσ hS)
    refine h_athrow B hH hl hc (ci := 13) (hS.ob (k := 28) (ci := 13) (by decide)).1 (hS.ob (k := 28) (ci := 13) (by decide)).2 (by decide) rfl dX16_pass_14 ?_
    exact hX σ _ _ _ _ (tb_out K.2.2.2.2.2 rfl) hx9.1 hx9.2.1 hx9.2.2
  · refine W.eq (g2 := F0 m 14 ls [.ref (ra 29)]) (by rw [qt]; rfl) ?_
    have hx9 := And.intro h (And.intro hGσ hS)
    refine h_athrow B hH hl hc (ci := 13) (hS.ob (k := 29) (ci := 13) (by decide)).1 (hS.ob (k := 29) (ci := 13) (by decide)).2 (by decide) rfl dX16_pass_14 ?_
    exact hX σ _ _ _ _ (tb_out K.2.2.2.2.2 rfl) hx9.1 hx9.2.1 hx9.2.2
set_option maxRecDepth 20000 in
theorem a_X16_pass_0 {Q : Sg → Unit → Prop} {X : Sg → String → Prop} (K : MC R p s m args c cX16_pass 6 RX16 D cA tys A n0 s0 0 0 []) (hQ : HQV p l e R s m args below meth c cX16_pass D cA A n0 s0 QM dm ra jx rm Q) (hX : HX p l e R s m args below meth c 6 D cA A n0 s0 QM dm ra jx rm X) : ∀ (σ : Sg) (v1 : Int64) (v3 : Option Nat) (v4 : Int) (g4 : rng v4), w_X16_pass_0 ra jx rm Q X σ v1 v3 v4 → RG σ → Shp dm ra jx rm σ → JJ p l e R s m args below meth c 6 D cA A n0 s0 QM σ 0 [(0, .ref rm), (1, .long v1), (3, va_rf v3), (4, .int (i32 v4))] [] := by
  intro σ v1 v3 v4 g4 h hGσ hS H locs ls hH hl hc
  have B := K.1
  unfold w_X16_pass_0 at h
  refine lv_aload_n B.1 B.2.1 dX16_pass_0 rfl (lv_at hl 0 rfl) ?_
  refine r_geti B hH hS 117 (by decide) wf_X16_861 rfl rfl dX16_pass_1 ?_
  refine lv_sipush (v := i32 4000) B.1 B.2.1 dX16_pass_4 (by decide) ?_
  refine lv_icmp_ne (tgt := 15) B.1 B.2.1 dX16_pass_7 (by decide) (fun h9 => ?_) (fun h9 => ?_)
  · rw [if_pos (fun q => h9 ((i32_eq (hGσ _ _) (by unfold rng; omega)).mpr q))] at h
    exact a_X16_pass_15 K hQ hX _ _ _ _ g4 h hGσ hS _ _ _ hH (lv_sub (l' := [(0, .ref rm), (1, .long v1), (3, va_rf v3), (4, .int (i32 v4))]) hl [0, 1, 2, 3] rfl) hc
  · rw [if_neg (fun q => q ((i32_eq (hGσ _ _) (by unfold rng; omega)).mp h9))] at h
    exact a_X16_pass_10 K hQ hX _ h hGσ hS _ _ _ hH (lv_sub (l' := [(0, .ref rm)]) hl [0] rfl) hc
theorem ok_X16_pass (hT : Tys cA tys) {Q : Sg → Unit → Prop} {X : Sg → String → Prop} (σ : Sg) (v1 : Int64) (v3 : Option Nat) (v4 : Int) (g4 : rng v4) (hG : RG σ) (hS : Shp dm ra jx rm σ) (h : wp_X16_pass ra jx rm v1 v3 v4 σ Q X) : Ok l D cA tys A yX16_pass (.code yX16_pass cX16_pass 6 none) 0 0 [.ref rm, .long v1, va_rf v3, .int (i32 v4)] σ (QnV dm ra jx rm Q) (QxR dm ra jx rm X) := by
  unfold wp_X16_pass at h
  exact ok_V (plainFor_of_name (by decide)) (by cases v3 <;> exact Nat.le_of_ble_eq_true rfl) hT (fun p e R s m args below meth c K hQ hX H locs ls hH hl hc => a_X16_pass_0 K hQ hX σ v1 v3 v4 g4 h hG hS H locs ls hH (lv_sub (l' := [(0, .ref rm), (1, .long v1), (3, va_rf v3), (4, .int (i32 v4))]) hl [0, 1, 2, 3] (by cases v3 <;> rfl)) hc)
theorem dX16_gatherIn_0 : decode cX16_gatherIn 0 = .ok (.aload_n 0, 1) := by decide +kernel
theorem dX16_gatherIn_1 : decode cX16_gatherIn 1 = .ok (.getfield 578, 3) := by decide +kernel
theorem dX16_gatherIn_4 : decode cX16_gatherIn 4 = .ok (.iconst 0, 1) := by decide +kernel
theorem dX16_gatherIn_5 : decode cX16_gatherIn 5 = .ok (.lload_n 3, 1) := by decide +kernel
theorem dX16_gatherIn_6 : decode cX16_gatherIn 6 = .ok (.lastore, 1) := by decide +kernel
theorem dX16_gatherIn_7 : decode cX16_gatherIn 7 = .ok (.iload_n 2, 1) := by decide +kernel
theorem dX16_gatherIn_8 : decode cX16_gatherIn 8 = .ok (.istore 10, 2) := by decide +kernel
theorem dX16_gatherIn_10 : decode cX16_gatherIn 10 = .ok (.iload 10, 2) := by decide +kernel
theorem dX16_gatherIn_12 : decode cX16_gatherIn 12 = .ok (.aload_n 0, 1) := by decide +kernel
theorem dX16_gatherIn_13 : decode cX16_gatherIn 13 = .ok (.getfield 861, 3) := by decide +kernel
theorem dX16_gatherIn_16 : decode cX16_gatherIn 16 = .ok (.if_icmp .ge 148, 3) := by decide +kernel
theorem dX16_gatherIn_19 : decode cX16_gatherIn 19 = .ok (.aload_n 0, 1) := by decide +kernel
theorem dX16_gatherIn_20 : decode cX16_gatherIn 20 = .ok (.getfield 867, 3) := by decide +kernel
theorem dX16_gatherIn_23 : decode cX16_gatherIn 23 = .ok (.bipush 8, 2) := by decide +kernel
theorem dX16_gatherIn_25 : decode cX16_gatherIn 25 = .ok (.iload 10, 2) := by decide +kernel
theorem dX16_gatherIn_27 : decode cX16_gatherIn 27 = .ok (.imul, 1) := by decide +kernel
theorem dX16_gatherIn_28 : decode cX16_gatherIn 28 = .ok (.laload, 1) := by decide +kernel
theorem dX16_gatherIn_29 : decode cX16_gatherIn 29 = .ok (.lload_n 3, 1) := by decide +kernel
theorem dX16_gatherIn_30 : decode cX16_gatherIn 30 = .ok (.lcmp, 1) := by decide +kernel
theorem dX16_gatherIn_31 : decode cX16_gatherIn 31 = .ok (.ifCond .ne 127, 3) := by decide +kernel
theorem dX16_gatherIn_34 : decode cX16_gatherIn 34 = .ok (.iload 9, 2) := by decide +kernel
theorem dX16_gatherIn_36 : decode cX16_gatherIn 36 = .ok (.ifCond .eq 19, 3) := by decide +kernel
theorem dX16_gatherIn_39 : decode cX16_gatherIn 39 = .ok (.aload_n 0, 1) := by decide +kernel
theorem dX16_gatherIn_40 : decode cX16_gatherIn 40 = .ok (.getfield 864, 3) := by decide +kernel
theorem dX16_gatherIn_43 : decode cX16_gatherIn 43 = .ok (.iload 10, 2) := by decide +kernel
theorem dX16_gatherIn_45 : decode cX16_gatherIn 45 = .ok (.laload, 1) := by decide +kernel
theorem dX16_gatherIn_46 : decode cX16_gatherIn 46 = .ok (.lload 5, 2) := by decide +kernel
theorem dX16_gatherIn_48 : decode cX16_gatherIn 48 = .ok (.lcmp, 1) := by decide +kernel
theorem dX16_gatherIn_49 : decode cX16_gatherIn 49 = .ok (.ifCond .lt 109, 3) := by decide +kernel
theorem dX16_gatherIn_52 : decode cX16_gatherIn 52 = .ok (.goto 16, 3) := by decide +kernel
theorem dX16_gatherIn_55 : decode cX16_gatherIn 55 = .ok (.aload_n 0, 1) := by decide +kernel
theorem dX16_gatherIn_56 : decode cX16_gatherIn 56 = .ok (.getfield 864, 3) := by decide +kernel
theorem dX16_gatherIn_59 : decode cX16_gatherIn 59 = .ok (.iload 10, 2) := by decide +kernel
theorem dX16_gatherIn_61 : decode cX16_gatherIn 61 = .ok (.laload, 1) := by decide +kernel
theorem dX16_gatherIn_62 : decode cX16_gatherIn 62 = .ok (.lload 7, 2) := by decide +kernel
theorem dX16_gatherIn_64 : decode cX16_gatherIn 64 = .ok (.lcmp, 1) := by decide +kernel
theorem dX16_gatherIn_65 : decode cX16_gatherIn 65 = .ok (.ifCond .ne 93, 3) := by decide +kernel
theorem dX16_gatherIn_68 : decode cX16_gatherIn 68 = .ok (.iconst 0, 1) := by decide +kernel
theorem dX16_gatherIn_69 : decode cX16_gatherIn 69 = .ok (.istore 11, 2) := by decide +kernel
theorem dX16_gatherIn_71 : decode cX16_gatherIn 71 = .ok (.iload 11, 2) := by decide +kernel
theorem dX16_gatherIn_73 : decode cX16_gatherIn 73 = .ok (.aload_n 0, 1) := by decide +kernel
theorem dX16_gatherIn_74 : decode cX16_gatherIn 74 = .ok (.getfield 356, 3) := by decide +kernel
theorem dX16_gatherIn_77 : decode cX16_gatherIn 77 = .ok (.getfield 222, 3) := by decide +kernel
theorem dX16_gatherIn_80 : decode cX16_gatherIn 80 = .ok (.iload_n 1, 1) := by decide +kernel
theorem dX16_gatherIn_81 : decode cX16_gatherIn 81 = .ok (.iaload, 1) := by decide +kernel
theorem dX16_gatherIn_82 : decode cX16_gatherIn 82 = .ok (.if_icmp .ge 66, 3) := by decide +kernel
theorem dX16_gatherIn_85 : decode cX16_gatherIn 85 = .ok (.aload_n 0, 1) := by decide +kernel
theorem dX16_gatherIn_86 : decode cX16_gatherIn 86 = .ok (.getfield 867, 3) := by decide +kernel
theorem dX16_gatherIn_89 : decode cX16_gatherIn 89 = .ok (.bipush 8, 2) := by decide +kernel
theorem dX16_gatherIn_91 : decode cX16_gatherIn 91 = .ok (.iload 10, 2) := by decide +kernel
theorem dX16_gatherIn_93 : decode cX16_gatherIn 93 = .ok (.imul, 1) := by decide +kernel
theorem dX16_gatherIn_94 : decode cX16_gatherIn 94 = .ok (.iconst 1, 1) := by decide +kernel
theorem dX16_gatherIn_95 : decode cX16_gatherIn 95 = .ok (.iadd, 1) := by decide +kernel
theorem dX16_gatherIn_96 : decode cX16_gatherIn 96 = .ok (.iload 11, 2) := by decide +kernel
theorem dX16_gatherIn_98 : decode cX16_gatherIn 98 = .ok (.iadd, 1) := by decide +kernel
theorem dX16_gatherIn_99 : decode cX16_gatherIn 99 = .ok (.aload_n 0, 1) := by decide +kernel
theorem dX16_gatherIn_100 : decode cX16_gatherIn 100 = .ok (.getfield 356, 3) := by decide +kernel
theorem dX16_gatherIn_103 : decode cX16_gatherIn 103 = .ok (.getfield 261, 3) := by decide +kernel
theorem dX16_gatherIn_106 : decode cX16_gatherIn 106 = .ok (.bipush 8, 2) := by decide +kernel
theorem dX16_gatherIn_108 : decode cX16_gatherIn 108 = .ok (.iload_n 1, 1) := by decide +kernel
theorem dX16_gatherIn_109 : decode cX16_gatherIn 109 = .ok (.imul, 1) := by decide +kernel
theorem dX16_gatherIn_110 : decode cX16_gatherIn 110 = .ok (.iload 11, 2) := by decide +kernel
theorem dX16_gatherIn_112 : decode cX16_gatherIn 112 = .ok (.iadd, 1) := by decide +kernel
theorem dX16_gatherIn_113 : decode cX16_gatherIn 113 = .ok (.iaload, 1) := by decide +kernel
theorem dX16_gatherIn_114 : decode cX16_gatherIn 114 = .ok (.aload_n 0, 1) := by decide +kernel
theorem dX16_gatherIn_115 : decode cX16_gatherIn 115 = .ok (.getfield 867, 3) := by decide +kernel
theorem dX16_gatherIn_118 : decode cX16_gatherIn 118 = .ok (.bipush 8, 2) := by decide +kernel
theorem dX16_gatherIn_120 : decode cX16_gatherIn 120 = .ok (.iload 10, 2) := by decide +kernel
theorem dX16_gatherIn_122 : decode cX16_gatherIn 122 = .ok (.imul, 1) := by decide +kernel
theorem dX16_gatherIn_123 : decode cX16_gatherIn 123 = .ok (.iconst 1, 1) := by decide +kernel
theorem dX16_gatherIn_124 : decode cX16_gatherIn 124 = .ok (.iadd, 1) := by decide +kernel
theorem dX16_gatherIn_125 : decode cX16_gatherIn 125 = .ok (.iload 11, 2) := by decide +kernel
theorem dX16_gatherIn_127 : decode cX16_gatherIn 127 = .ok (.iadd, 1) := by decide +kernel
theorem dX16_gatherIn_128 : decode cX16_gatherIn 128 = .ok (.laload, 1) := by decide +kernel
theorem dX16_gatherIn_129 : decode cX16_gatherIn 129 = .ok (.aload_n 0, 1) := by decide +kernel
theorem dX16_gatherIn_130 : decode cX16_gatherIn 130 = .ok (.getfield 578, 3) := by decide +kernel
theorem dX16_gatherIn_133 : decode cX16_gatherIn 133 = .ok (.iconst 1, 1) := by decide +kernel
theorem dX16_gatherIn_134 : decode cX16_gatherIn 134 = .ok (.iload 11, 2) := by decide +kernel
theorem dX16_gatherIn_136 : decode cX16_gatherIn 136 = .ok (.iadd, 1) := by decide +kernel
theorem dX16_gatherIn_137 : decode cX16_gatherIn 137 = .ok (.laload, 1) := by decide +kernel
theorem dX16_gatherIn_138 : decode cX16_gatherIn 138 = .ok (.invokestatic 589, 3) := by decide +kernel
theorem dX16_gatherIn_141 : decode cX16_gatherIn 141 = .ok (.lastore, 1) := by decide +kernel
theorem dX16_gatherIn_142 : decode cX16_gatherIn 142 = .ok (.iinc 11 1, 3) := by decide +kernel
theorem dX16_gatherIn_145 : decode cX16_gatherIn 145 = .ok (.goto (-74), 3) := by decide +kernel
theorem dX16_gatherIn_148 : decode cX16_gatherIn 148 = .ok (.aload_n 0, 1) := by decide +kernel
theorem dX16_gatherIn_149 : decode cX16_gatherIn 149 = .ok (.getfield 864, 3) := by decide +kernel
theorem dX16_gatherIn_152 : decode cX16_gatherIn 152 = .ok (.iload 10, 2) := by decide +kernel
theorem dX16_gatherIn_154 : decode cX16_gatherIn 154 = .ok (.lload 7, 2) := by decide +kernel
theorem dX16_gatherIn_156 : decode cX16_gatherIn 156 = .ok (.lastore, 1) := by decide +kernel
theorem dX16_gatherIn_157 : decode cX16_gatherIn 157 = .ok (.return_, 1) := by decide +kernel
theorem dX16_gatherIn_158 : decode cX16_gatherIn 158 = .ok (.iinc 10 1, 3) := by decide +kernel
theorem dX16_gatherIn_161 : decode cX16_gatherIn 161 = .ok (.goto (-151), 3) := by decide +kernel
theorem dX16_gatherIn_164 : decode cX16_gatherIn 164 = .ok (.aload_n 0, 1) := by decide +kernel
theorem dX16_gatherIn_165 : decode cX16_gatherIn 165 = .ok (.lload 7, 2) := by decide +kernel
theorem dX16_gatherIn_167 : decode cX16_gatherIn 167 = .ok (.aload_n 0, 1) := by decide +kernel
theorem dX16_gatherIn_168 : decode cX16_gatherIn 168 = .ok (.getfield 578, 3) := by decide +kernel
theorem dX16_gatherIn_171 : decode cX16_gatherIn 171 = .ok (.iconst 0, 1) := by decide +kernel
theorem dX16_gatherIn_172 : decode cX16_gatherIn 172 = .ok (.invokevirtual 870, 3) := by decide +kernel
theorem dX16_gatherIn_175 : decode cX16_gatherIn 175 = .ok (.return_, 1) := by decide +kernel
set_option maxRecDepth 20000 in
theorem a_X16_gatherIn_164 {Q : Sg → Unit → Prop} {X : Sg → String → Prop} (K : MC R p s m args c cX16_gatherIn 12 RX16 D cA tys A n0 s0 2 47 []) (hQ : HQV p l e R s m args below meth c cX16_gatherIn D cA A n0 s0 QM dm ra jx rm Q) (hX : HX p l e R s m args below meth c 12 D cA A n0 s0 QM dm ra jx rm X) : ∀ (σ : Sg) (v7 : Int64), w_X16_gatherIn_164 ra jx rm Q X σ v7 → RG σ → Shp dm ra jx rm σ → JJ p l e R s m args below meth c 12 D cA A n0 s0 QM σ 164 [(0, .ref rm), (7, .long v7)] [] := by
  intro σ v7 h hGσ hS H locs ls hH hl hc
  have B := K.1
  unfold w_X16_gatherIn_164 at h
  refine lv_aload_n B.1 B.2.1 dX16_gatherIn_164 rfl (lv_at hl 0 rfl) ?_
  refine lv_lload B.1 B.2.1 dX16_gatherIn_165 (lv_at hl 1 rfl) ?_
  refine lv_aload_n B.1 B.2.1 dX16_gatherIn_167 rfl (lv_at hl 0 rfl) ?_
  refine r_arr B hH hS 82 (kd := 101) (n := 16) (by decide) (by decide) wf_X16_578 rfl rfl dX16_gatherIn_168 ?_
  refine lv_iconst (v := i32 0) B.1 B.2.1 dX16_gatherIn_171 (by decide) ?_
  refine c_V B hH hl hc K.2.2.1 (C := RX16) (T := TX16) (N := 123) (ci := 16) (As := [.long v7, va_rf (some (ra 82)), .int (i32 0)]) (ok_X16_pass K.2.1 σ v7 (some (ra 82)) 0 (by unfold rng; omega) hGσ hS h) wc_X16_870 3 hd_X16_pass ⟨Nat.le_trans (Nat.le_of_ble_eq_true rfl) K.2.2.2.1, Nat.le_trans (Nat.le_of_ble_eq_true rfl) K.2.2.2.2.1⟩ hS.1.1 hS.1.2 (by decide) rfl rfl (rest := []) rfl (Nat.le_of_ble_eq_true rfl) dX16_gatherIn_172 (fun σ17 w hq => ?_) (fun σ9 E9 hx9 => hX σ9 E9 _ _ _ (tb_out K.2.2.2.2.2 rfl) hx9.1 hx9.2.1 hx9.2.2)
  obtain ⟨rfl, h, hGσ17, hS⟩ := hq
  intro H locs ls hH hl hc
  refine W.eq (g2 := F0 m 175 ls []) (rfl) ?_
  try dsimp only at h
  exact hQ _ _ _ _ _ dX16_gatherIn_175 hH hc h hGσ17 hS
set_option maxRecDepth 20000 in
theorem a_X16_gatherIn_158 {Q : Sg → Unit → Prop} {X : Sg → String → Prop} (K : MC R p s m args c cX16_gatherIn 12 RX16 D cA tys A n0 s0 2 47 []) (hQ : HQV p l e R s m args below meth c cX16_gatherIn D cA A n0 s0 QM dm ra jx rm Q) (hX : HX p l e R s m args below meth c 12 D cA A n0 s0 QM dm ra jx rm X) {K10 : Sg → Int → Int64 → Int64 → Int64 → Int → Int → Prop} (hK10 : ∀ (σ : Sg) (v1 : Int) (v3 : Int64) (v5 : Int64) (v7 : Int64) (v9 : Int) (v10 : Int) (g1 : rng v1) (g9 : rng v9) (g10 : rng v10), K10 σ v1 v3 v5 v7 v9 v10 → RG σ → Shp dm ra jx rm σ → JJ p l e R s m args below meth c 12 D cA A n0 s0 QM σ 10 [(0, .ref rm), (1, .int (i32 v1)), (3, .long v3), (5, .long v5), (7, .long v7), (9, .int (i32 v9)), (10, .int (i32 v10))] []) : ∀ (σ : Sg) (v1 : Int) (v3 : Int64) (v5 : Int64) (v7 : Int64) (v9 : Int) (v10 : Int) (g1 : rng v1) (g9 : rng v9) (g10 : rng v10), w_X16_gatherIn_158 ra jx rm K10 Q X σ v1 v3 v5 v7 v9 v10 → RG σ → Shp dm ra jx rm σ → JJ p l e R s m args below meth c 12 D cA A n0 s0 QM σ 158 [(0, .ref rm), (1, .int (i32 v1)), (3, .long v3), (5, .long v5), (7, .long v7), (9, .int (i32 v9)), (10, .int (i32 v10))] [] := by
  intro σ v1 v3 v5 v7 v9 v10 g1 g9 g10 h hGσ hS H locs ls hH hl hc
  have B := K.1
  unfold w_X16_gatherIn_158 at h
  obtain ⟨q1, h⟩ := h
  refine lv_iinc (k := 6) (v := i32 (v10 + 1)) (lv' := [(10, .int (i32 (v10 + 1))), (0, .ref rm), (1, .int (i32 v1)), (3, .long v3), (5, .long v5), (7, .long v7), (9, .int (i32 v9))]) B.1 B.2.1 dX16_gatherIn_158 hl rfl (i32_add _ _) (by decide) rfl (fun ls hl => ?_)
  refine lv_goto (tgt := 10) B.1 B.2.1 dX16_gatherIn_161 (by decide) ?_
  exact hK10 _ _ _ _ _ _ _ g1 g9 q1 h hGσ hS _ _ _ hH (lv_sub (l' := [(0, .ref rm), (1, .int (i32 v1)), (3, .long v3), (5, .long v5), (7, .long v7), (9, .int (i32 v9)), (10, .int (i32 (v10 + 1)))]) hl [1, 2, 3, 4, 5, 6, 0] rfl) hc
set_option maxRecDepth 20000 in
theorem a_X16_gatherIn_148 {Q : Sg → Unit → Prop} {X : Sg → String → Prop} (K : MC R p s m args c cX16_gatherIn 12 RX16 D cA tys A n0 s0 2 47 []) (hQ : HQV p l e R s m args below meth c cX16_gatherIn D cA A n0 s0 QM dm ra jx rm Q) (hX : HX p l e R s m args below meth c 12 D cA A n0 s0 QM dm ra jx rm X) : ∀ (σ : Sg) (v7 : Int64) (v10 : Int) (g10 : rng v10), w_X16_gatherIn_148 ra jx rm Q X σ v7 v10 → RG σ → Shp dm ra jx rm σ → JJ p l e R s m args below meth c 12 D cA A n0 s0 QM σ 148 [(0, .ref rm), (7, .long v7), (10, .int (i32 v10))] [] := by
  intro σ v7 v10 g10 h hGσ hS H locs ls hH hl hc
  have B := K.1
  unfold w_X16_gatherIn_148 at h
  refine lv_aload_n B.1 B.2.1 dX16_gatherIn_148 rfl (lv_at hl 0 rfl) ?_
  refine r_arr B hH hS 115 (kd := 101) (n := 4000) (by decide) (by decide) wf_X16_864 rfl rfl dX16_gatherIn_149 ?_
  refine lv_iload B.1 B.2.1 dX16_gatherIn_152 (lv_at hl 2 rfl) ?_
  refine lv_lload B.1 B.2.1 dX16_gatherIn_154 (lv_at hl 1 rfl) ?_
  obtain ⟨q1, h⟩ := h
  obtain ⟨σ18, eσ18⟩ : ∃ z, z = pJ σ (ra 115) v10.toNat v7 := ⟨_, rfl⟩
  have h := h σ18 eσ18
  refine x_last B K.2.1 hH (hS.ar (k := 115) (kd := 101) (n := 4000) (by decide)) (by decide) q1 dX16_gatherIn_156 (fun H locs hH => ?_)
  have hH : Hd D cA A s (pJ σ (ra 115) v10.toNat v7) H locs := hH
  rw [← eσ18] at hH
  have hGσ18 : RG σ18 := by rw [eσ18]; exact hGσ.pJ
  have hS : Shp dm ra jx rm σ18 := by rw [eσ18]; exact hS
  have hc : CB n0 s0 σ18 := by rw [eσ18]; exact hc
  rw [show gc σ = gc σ18 by rw [eσ18], show gs σ = gs σ18 by rw [eσ18]]
  exact hQ _ _ _ _ _ dX16_gatherIn_157 hH hc h hGσ18 hS
set_option maxRecDepth 20000 in
theorem a_X16_gatherIn_85 {Q : Sg → Unit → Prop} {X : Sg → String → Prop} (K : MC R p s m args c cX16_gatherIn 12 RX16 D cA tys A n0 s0 2 47 []) (hQ : HQV p l e R s m args below meth c cX16_gatherIn D cA A n0 s0 QM dm ra jx rm Q) (hX : HX p l e R s m args below meth c 12 D cA A n0 s0 QM dm ra jx rm X) {K71 : Sg → Int → Int64 → Int → Int → Prop} (hK71 : ∀ (σ : Sg) (v1 : Int) (v7 : Int64) (v10 : Int) (v11 : Int) (g1 : rng v1) (g10 : rng v10) (g11 : rng v11), K71 σ v1 v7 v10 v11 → RG σ → Shp dm ra jx rm σ → JJ p l e R s m args below meth c 12 D cA A n0 s0 QM σ 71 [(0, .ref rm), (1, .int (i32 v1)), (7, .long v7), (10, .int (i32 v10)), (11, .int (i32 v11))] []) : ∀ (σ : Sg) (v1 : Int) (v7 : Int64) (v10 : Int) (v11 : Int) (g1 : rng v1) (g10 : rng v10) (g11 : rng v11), w_X16_gatherIn_85 ra jx rm K71 Q X σ v1 v7 v10 v11 → RG σ → Shp dm ra jx rm σ → JJ p l e R s m args below meth c 12 D cA A n0 s0 QM σ 85 [(0, .ref rm), (1, .int (i32 v1)), (7, .long v7), (10, .int (i32 v10)), (11, .int (i32 v11))] [] := by
  intro σ v1 v7 v10 v11 g1 g10 g11 h hGσ hS H locs ls hH hl hc
  have B := K.1
  unfold w_X16_gatherIn_85 at h
  refine lv_aload_n B.1 B.2.1 dX16_gatherIn_85 rfl (lv_at hl 0 rfl) ?_
  refine r_arr B hH hS 116 (kd := 101) (n := 32000) (by decide) (by decide) wf_X16_867 rfl rfl dX16_gatherIn_86 ?_
  refine lv_bipush (v := i32 8) B.1 B.2.1 dX16_gatherIn_89 (by decide) ?_
  refine lv_iload B.1 B.2.1 dX16_gatherIn_91 (lv_at hl 3 rfl) ?_
  obtain ⟨q1, h⟩ := h
  refine lv_imul B.1 B.2.1 dX16_gatherIn_93 ?_
  rw [i32_mul]
  refine lv_iconst (v := i32 1) B.1 B.2.1 dX16_gatherIn_94 (by decide) ?_
  obtain ⟨q2, h⟩ := h
  refine lv_iadd B.1 B.2.1 dX16_gatherIn_95 ?_
  rw [i32_add]
  refine lv_iload B.1 B.2.1 dX16_gatherIn_96 (lv_at hl 4 rfl) ?_
  obtain ⟨q3, h⟩ := h
  refine lv_iadd B.1 B.2.1 dX16_gatherIn_98 ?_
  rw [i32_add]
  refine lv_aload_n B.1 B.2.1 dX16_gatherIn_99 rfl (lv_at hl 0 rfl) ?_
  refine r_getp B hH hS 17 (by decide) wf_X16_356 rfl rfl dX16_gatherIn_100 ?_
  obtain ⟨a19, ea19, ja19, h⟩ := h
  refine W.eq (g2 := F0 m 103 ls [.ref a19, .int (i32 (((8 * v10) + 1) + v11)), .ref (ra 116)]) (by rw [ea19]; rfl) ?_
  refine n_arr B hH hS ja19 14 (kd := 100) (n := 128) (by decide) (by decide) (List.mem_of_getElem? (i := 14) rfl) rfl dX16_gatherIn_103 ?_
  refine lv_bipush (v := i32 8) B.1 B.2.1 dX16_gatherIn_106 (by decide) ?_
  refine lv_iload_n B.1 B.2.1 dX16_gatherIn_108 rfl (lv_at hl 1 rfl) ?_
  obtain ⟨q5, h⟩ := h
  refine lv_imul B.1 B.2.1 dX16_gatherIn_109 ?_
  rw [i32_mul]
  refine lv_iload B.1 B.2.1 dX16_gatherIn_110 (lv_at hl 4 rfl) ?_
  obtain ⟨q6, h⟩ := h
  refine lv_iadd B.1 B.2.1 dX16_gatherIn_112 ?_
  rw [i32_add]
  obtain ⟨q7, h⟩ := h
  refine x_iald B K.2.1 hH (hS.ja ja19 (k := 14) (kd := 100) (n := 128) (by decide)) (by decide) q7 dX16_gatherIn_113 ?_
  refine lv_aload_n B.1 B.2.1 dX16_gatherIn_114 rfl (lv_at hl 0 rfl) ?_
  refine r_arr B hH hS 116 (kd := 101) (n := 32000) (by decide) (by decide) wf_X16_867 rfl rfl dX16_gatherIn_115 ?_
  refine lv_bipush (v := i32 8) B.1 B.2.1 dX16_gatherIn_118 (by decide) ?_
  refine lv_iload B.1 B.2.1 dX16_gatherIn_120 (lv_at hl 3 rfl) ?_
  obtain ⟨q8, h⟩ := h
  refine lv_imul B.1 B.2.1 dX16_gatherIn_122 ?_
  rw [i32_mul]
  refine lv_iconst (v := i32 1) B.1 B.2.1 dX16_gatherIn_123 (by decide) ?_
  obtain ⟨q9, h⟩ := h
  refine lv_iadd B.1 B.2.1 dX16_gatherIn_124 ?_
  rw [i32_add]
  refine lv_iload B.1 B.2.1 dX16_gatherIn_125 (lv_at hl 4 rfl) ?_
  obtain ⟨q10, h⟩ := h
  refine lv_iadd B.1 B.2.1 dX16_gatherIn_127 ?_
  rw [i32_add]
  obtain ⟨q11, h⟩ := h
  refine x_lald B K.2.1 hH (hS.ar (k := 116) (kd := 101) (n := 32000) (by decide)) (by decide) q11 dX16_gatherIn_128 ?_
  refine lv_aload_n B.1 B.2.1 dX16_gatherIn_129 rfl (lv_at hl 0 rfl) ?_
  refine r_arr B hH hS 82 (kd := 101) (n := 16) (by decide) (by decide) wf_X16_578 rfl rfl dX16_gatherIn_130 ?_
  refine lv_iconst (v := i32 1) B.1 B.2.1 dX16_gatherIn_133 (by decide) ?_
  refine lv_iload B.1 B.2.1 dX16_gatherIn_134 (lv_at hl 4 rfl) ?_
  obtain ⟨q12, h⟩ := h
  refine lv_iadd B.1 B.2.1 dX16_gatherIn_136 ?_
  rw [i32_add]
  obtain ⟨q13, h⟩ := h
  refine x_lald B K.2.1 hH (hS.ar (k := 82) (kd := 101) (n := 16) (by decide)) (by decide) q13 dX16_gatherIn_137 ?_
  refine c_S B hH hl hc K.2.2.1 (As := [.int (i32 (gI σ (jx a19 14) ((8 * v1) + v11).toNat)), .long (gJ σ (ra 116) (((8 * v10) + 1) + v11).toNat), .long (gJ σ (ra 82) (1 + v11).toNat)]) (ok_X16_gathered K.2.1 σ (gI σ (jx a19 14) ((8 * v1) + v11).toNat) (gJ σ (ra 116) (((8 * v10) + 1) + v11).toNat) (gJ σ (ra 82) (1 + v11).toNat) (hGσ _ _) hGσ hS h) wc_X16_589 3 hd_X16_gathered ⟨Nat.le_trans (Nat.le_of_ble_eq_true rfl) K.2.2.2.1, Nat.le_trans (Nat.le_of_ble_eq_true rfl) K.2.2.2.2.1⟩ rfl (rest := [.int (i32 (((8 * v10) + 1) + v11)), .ref (ra 116)]) rfl (Nat.le_of_ble_eq_true rfl) dX16_gatherIn_138 (fun σ20 w hq => ?_) (fun σ9 E9 hx9 => hX σ9 E9 _ _ _ (tb_out K.2.2.2.2.2 rfl) hx9.1 hx9.2.1 hx9.2.2)
  obtain ⟨r21, rfl, h, hGσ20, hS⟩ := hq
  intro H locs ls hH hl hc
  refine W.eq (g2 := F0 m 141 ls [.long r21, .int (i32 (((8 * v10) + 1) + v11)), .ref (ra 116)]) (rfl) ?_
  try dsimp only at h
  obtain ⟨q14, h⟩ := h
  obtain ⟨σ22, eσ22⟩ : ∃ z, z = pJ σ20 (ra 116) (((8 * v10) + 1) + v11).toNat r21 := ⟨_, rfl⟩
  have h := h σ22 eσ22
  refine x_last B K.2.1 hH (hS.ar (k := 116) (kd := 101) (n := 32000) (by decide)) (by decide) q14 dX16_gatherIn_141 (fun H locs hH => ?_)
  have hH : Hd D cA A s (pJ σ20 (ra 116) (((8 * v10) + 1) + v11).toNat r21) H locs := hH
  rw [← eσ22] at hH
  have hGσ22 : RG σ22 := by rw [eσ22]; exact hGσ20.pJ
  have hS : Shp dm ra jx rm σ22 := by rw [eσ22]; exact hS
  have hc : CB n0 s0 σ22 := by rw [eσ22]; exact hc
  rw [show gc σ20 = gc σ22 by rw [eσ22], show gs σ20 = gs σ22 by rw [eσ22]]
  obtain ⟨q16, h⟩ := h
  refine lv_iinc (k := 4) (v := i32 (v11 + 1)) (lv' := [(11, .int (i32 (v11 + 1))), (0, .ref rm), (1, .int (i32 v1)), (7, .long v7), (10, .int (i32 v10))]) B.1 B.2.1 dX16_gatherIn_142 hl rfl (i32_add _ _) (by decide) rfl (fun ls hl => ?_)
  refine lv_goto (tgt := 71) B.1 B.2.1 dX16_gatherIn_145 (by decide) ?_
  exact hK71 _ _ _ _ _ g1 g10 q16 h hGσ22 hS _ _ _ hH (lv_sub (l' := [(0, .ref rm), (1, .int (i32 v1)), (7, .long v7), (10, .int (i32 v10)), (11, .int (i32 (v11 + 1)))]) hl [1, 2, 3, 4, 0] rfl) hc
set_option maxRecDepth 20000 in
theorem a_X16_gatherIn_71 {Q : Sg → Unit → Prop} {X : Sg → String → Prop} (K : MC R p s m args c cX16_gatherIn 12 RX16 D cA tys A n0 s0 2 47 []) (hQ : HQV p l e R s m args below meth c cX16_gatherIn D cA A n0 s0 QM dm ra jx rm Q) (hX : HX p l e R s m args below meth c 12 D cA A n0 s0 QM dm ra jx rm X) {K71 : Sg → Int → Int64 → Int → Int → Prop} (hK71 : ∀ (σ : Sg) (v1 : Int) (v7 : Int64) (v10 : Int) (v11 : Int) (g1 : rng v1) (g10 : rng v10) (g11 : rng v11), K71 σ v1 v7 v10 v11 → RG σ → Shp dm ra jx rm σ → JJ p l e R s m args below meth c 12 D cA A n0 s0 QM σ 71 [(0, .ref rm), (1, .int (i32 v1)), (7, .long v7), (10, .int (i32 v10)), (11, .int (i32 v11))] []) : ∀ (σ : Sg) (v1 : Int) (v7 : Int64) (v10 : Int) (v11 : Int) (g1 : rng v1) (g10 : rng v10) (g11 : rng v11), w_X16_gatherIn_71 ra jx rm K71 Q X σ v1 v7 v10 v11 → RG σ → Shp dm ra jx rm σ → JJ p l e R s m args below meth c 12 D cA A n0 s0 QM σ 71 [(0, .ref rm), (1, .int (i32 v1)), (7, .long v7), (10, .int (i32 v10)), (11, .int (i32 v11))] [] := by
  intro σ v1 v7 v10 v11 g1 g10 g11 h hGσ hS H locs ls hH hl hc
  have B := K.1
  unfold w_X16_gatherIn_71 at h
  refine lv_iload B.1 B.2.1 dX16_gatherIn_71 (lv_at hl 4 rfl) ?_
  refine lv_aload_n B.1 B.2.1 dX16_gatherIn_73 rfl (lv_at hl 0 rfl) ?_
  refine r_getp B hH hS 17 (by decide) wf_X16_356 rfl rfl dX16_gatherIn_74 ?_
  obtain ⟨a23, ea23, ja23, h⟩ := h
  refine W.eq (g2 := F0 m 77 ls [.ref a23, .int (i32 v11)]) (by rw [ea23]; rfl) ?_
  refine n_arr B hH hS ja23 12 (kd := 100) (n := 16) (by decide) (by decide) (List.mem_of_getElem? (i := 12) rfl) rfl dX16_gatherIn_77 ?_
  refine lv_iload_n B.1 B.2.1 dX16_gatherIn_80 rfl (lv_at hl 1 rfl) ?_
  obtain ⟨q2, h⟩ := h
  refine x_iald B K.2.1 hH (hS.ja ja23 (k := 12) (kd := 100) (n := 16) (by decide)) (by decide) q2 dX16_gatherIn_81 ?_
  refine lv_icmp_ge (tgt := 148) B.1 B.2.1 dX16_gatherIn_82 (by decide) (fun h9 => ?_) (fun h9 => ?_)
  · rw [if_pos ((i32_le (hGσ _ _) g11).mp h9)] at h
    exact a_X16_gatherIn_148 K hQ hX _ _ _ g10 h hGσ hS _ _ _ hH (lv_sub (l' := [(0, .ref rm), (7, .long v7), (10, .int (i32 v10))]) hl [0, 2, 3] rfl) hc
  · rw [if_neg (fun q => h9 ((i32_le (hGσ _ _) g11).mpr q))] at h
    exact a_X16_gatherIn_85 K hQ hX hK71 _ _ _ _ _ g1 g10 g11 h hGσ hS _ _ _ hH (lv_sub (l' := [(0, .ref rm), (1, .int (i32 v1)), (7, .long v7), (10, .int (i32 v10)), (11, .int (i32 v11))]) hl [0, 1, 2, 3, 4] rfl) hc
theorem al_X16_gatherIn_71 {Q : Sg → Unit → Prop} {X : Sg → String → Prop} (K : MC R p s m args c cX16_gatherIn 12 RX16 D cA tys A n0 s0 2 47 []) (hQ : HQV p l e R s m args below meth c cX16_gatherIn D cA A n0 s0 QM dm ra jx rm Q) (hX : HX p l e R s m args below meth c 12 D cA A n0 s0 QM dm ra jx rm X) : ∀ (n : Nat), ∀ (σ : Sg) (v1 : Int) (v7 : Int64) (v10 : Int) (v11 : Int) (g1 : rng v1) (g10 : rng v10) (g11 : rng v11), wl_X16_gatherIn_71 ra jx rm Q X n σ v1 v7 v10 v11 → RG σ → Shp dm ra jx rm σ → JJ p l e R s m args below meth c 12 D cA A n0 s0 QM σ 71 [(0, .ref rm), (1, .int (i32 v1)), (7, .long v7), (10, .int (i32 v10)), (11, .int (i32 v11))] [] := by
  intro n
  induction n with
  | zero => intro σ v1 v7 v10 v11 g1 g10 g11 h; exact h.elim
  | succ n ih => exact fun σ v1 v7 v10 v11 g1 g10 g11 h => a_X16_gatherIn_71 K hQ hX ih σ v1 v7 v10 v11 g1 g10 g11 h
set_option maxRecDepth 20000 in
theorem a_X16_gatherIn_68 {Q : Sg → Unit → Prop} {X : Sg → String → Prop} (K : MC R p s m args c cX16_gatherIn 12 RX16 D cA tys A n0 s0 2 47 []) (hQ : HQV p l e R s m args below meth c cX16_gatherIn D cA A n0 s0 QM dm ra jx rm Q) (hX : HX p l e R s m args below meth c 12 D cA A n0 s0 QM dm ra jx rm X) : ∀ (σ : Sg) (v1 : Int) (v7 : Int64) (v10 : Int) (g1 : rng v1) (g10 : rng v10), w_X16_gatherIn_68 ra jx rm Q X σ v1 v7 v10 → RG σ → Shp dm ra jx rm σ → JJ p l e R s m args below meth c 12 D cA A n0 s0 QM σ 68 [(0, .ref rm), (1, .int (i32 v1)), (7, .long v7), (10, .int (i32 v10))] [] := by
  intro σ v1 v7 v10 g1 g10 h hGσ hS H locs ls hH hl hc
  have B := K.1
  unfold w_X16_gatherIn_68 at h
  refine lv_iconst (v := i32 0) B.1 B.2.1 dX16_gatherIn_68 (by decide) ?_
  refine lv_istore (lv' := [(11, .int (i32 0)), (0, .ref rm), (1, .int (i32 v1)), (7, .long v7), (10, .int (i32 v10))]) B.1 B.2.1 dX16_gatherIn_69 hl (by decide) rfl (fun ls hl => ?_)
  obtain ⟨n9, h⟩ := h
  exact al_X16_gatherIn_71 K hQ hX n9 _ _ _ _ _ g1 g10 (by unfold rng; omega) h hGσ hS _ _ _ hH (lv_sub (l' := [(0, .ref rm), (1, .int (i32 v1)), (7, .long v7), (10, .int (i32 v10)), (11, .int (i32 0))]) hl [1, 2, 3, 4, 0] rfl) hc
set_option maxRecDepth 20000 in
theorem a_X16_gatherIn_55 {Q : Sg → Unit → Prop} {X : Sg → String → Prop} (K : MC R p s m args c cX16_gatherIn 12 RX16 D cA tys A n0 s0 2 47 []) (hQ : HQV p l e R s m args below meth c cX16_gatherIn D cA A n0 s0 QM dm ra jx rm Q) (hX : HX p l e R s m args below meth c 12 D cA A n0 s0 QM dm ra jx rm X) {K10 : Sg → Int → Int64 → Int64 → Int64 → Int → Int → Prop} (hK10 : ∀ (σ : Sg) (v1 : Int) (v3 : Int64) (v5 : Int64) (v7 : Int64) (v9 : Int) (v10 : Int) (g1 : rng v1) (g9 : rng v9) (g10 : rng v10), K10 σ v1 v3 v5 v7 v9 v10 → RG σ → Shp dm ra jx rm σ → JJ p l e R s m args below meth c 12 D cA A n0 s0 QM σ 10 [(0, .ref rm), (1, .int (i32 v1)), (3, .long v3), (5, .long v5), (7, .long v7), (9, .int (i32 v9)), (10, .int (i32 v10))] []) : ∀ (σ : Sg) (v1 : Int) (v3 : Int64) (v5 : Int64) (v7 : Int64) (v9 : Int) (v10 : Int) (g1 : rng v1) (g9 : rng v9) (g10 : rng v10), w_X16_gatherIn_55 ra jx rm K10 Q X σ v1 v3 v5 v7 v9 v10 → RG σ → Shp dm ra jx rm σ → JJ p l e R s m args below meth c 12 D cA A n0 s0 QM σ 55 [(0, .ref rm), (1, .int (i32 v1)), (3, .long v3), (5, .long v5), (7, .long v7), (9, .int (i32 v9)), (10, .int (i32 v10))] [] := by
  intro σ v1 v3 v5 v7 v9 v10 g1 g9 g10 h hGσ hS H locs ls hH hl hc
  have B := K.1
  unfold w_X16_gatherIn_55 at h
  refine lv_aload_n B.1 B.2.1 dX16_gatherIn_55 rfl (lv_at hl 0 rfl) ?_
  refine r_arr B hH hS 115 (kd := 101) (n := 4000) (by decide) (by decide) wf_X16_864 rfl rfl dX16_gatherIn_56 ?_
  refine lv_iload B.1 B.2.1 dX16_gatherIn_59 (lv_at hl 6 rfl) ?_
  obtain ⟨q1, h⟩ := h
  refine x_lald B K.2.1 hH (hS.ar (k := 115) (kd := 101) (n := 4000) (by decide)) (by decide) q1 dX16_gatherIn_61 ?_
  refine lv_lload B.1 B.2.1 dX16_gatherIn_62 (lv_at hl 4 rfl) ?_
  refine W.lcmp B.1 B.2.1 dX16_gatherIn_64 ?_
  refine lv_if_ne (tgt := 158) B.1 B.2.1 dX16_gatherIn_65 (by decide) (fun h9 => ?_) (fun h9 => ?_)
  · rw [if_pos (fun q => h9 ((lg_cmp_eq _ _).mpr q))] at h
    exact a_X16_gatherIn_158 K hQ hX hK10 _ _ _ _ _ _ _ g1 g9 g10 h hGσ hS _ _ _ hH (lv_sub (l' := [(0, .ref rm), (1, .int (i32 v1)), (3, .long v3), (5, .long v5), (7, .long v7), (9, .int (i32 v9)), (10, .int (i32 v10))]) hl [0, 1, 2, 3, 4, 5, 6] rfl) hc
  · rw [if_neg (fun q => q ((lg_cmp_eq _ _).mp h9))] at h
    exact a_X16_gatherIn_68 K hQ hX _ _ _ _ g1 g10 h hGσ hS _ _ _ hH (lv_sub (l' := [(0, .ref rm), (1, .int (i32 v1)), (7, .long v7), (10, .int (i32 v10))]) hl [0, 1, 4, 6] rfl) hc
set_option maxRecDepth 20000 in
theorem a_X16_gatherIn_52 {Q : Sg → Unit → Prop} {X : Sg → String → Prop} (K : MC R p s m args c cX16_gatherIn 12 RX16 D cA tys A n0 s0 2 47 []) (hQ : HQV p l e R s m args below meth c cX16_gatherIn D cA A n0 s0 QM dm ra jx rm Q) (hX : HX p l e R s m args below meth c 12 D cA A n0 s0 QM dm ra jx rm X) : ∀ (σ : Sg) (v1 : Int) (v7 : Int64) (v10 : Int) (g1 : rng v1) (g10 : rng v10), w_X16_gatherIn_52 ra jx rm Q X σ v1 v7 v10 → RG σ → Shp dm ra jx rm σ → JJ p l e R s m args below meth c 12 D cA A n0 s0 QM σ 52 [(0, .ref rm), (1, .int (i32 v1)), (7, .long v7), (10, .int (i32 v10))] [] := by
  intro σ v1 v7 v10 g1 g10 h hGσ hS H locs ls hH hl hc
  have B := K.1
  unfold w_X16_gatherIn_52 at h
  refine lv_goto (tgt := 68) B.1 B.2.1 dX16_gatherIn_52 (by decide) ?_
  exact a_X16_gatherIn_68 K hQ hX _ _ _ _ g1 g10 h hGσ hS _ _ _ hH (lv_sub (l' := [(0, .ref rm), (1, .int (i32 v1)), (7, .long v7), (10, .int (i32 v10))]) hl [0, 1, 2, 3] rfl) hc
set_option maxRecDepth 20000 in
theorem a_X16_gatherIn_39 {Q : Sg → Unit → Prop} {X : Sg → String → Prop} (K : MC R p s m args c cX16_gatherIn 12 RX16 D cA tys A n0 s0 2 47 []) (hQ : HQV p l e R s m args below meth c cX16_gatherIn D cA A n0 s0 QM dm ra jx rm Q) (hX : HX p l e R s m args below meth c 12 D cA A n0 s0 QM dm ra jx rm X) {K10 : Sg → Int → Int64 → Int64 → Int64 → Int → Int → Prop} (hK10 : ∀ (σ : Sg) (v1 : Int) (v3 : Int64) (v5 : Int64) (v7 : Int64) (v9 : Int) (v10 : Int) (g1 : rng v1) (g9 : rng v9) (g10 : rng v10), K10 σ v1 v3 v5 v7 v9 v10 → RG σ → Shp dm ra jx rm σ → JJ p l e R s m args below meth c 12 D cA A n0 s0 QM σ 10 [(0, .ref rm), (1, .int (i32 v1)), (3, .long v3), (5, .long v5), (7, .long v7), (9, .int (i32 v9)), (10, .int (i32 v10))] []) : ∀ (σ : Sg) (v1 : Int) (v3 : Int64) (v5 : Int64) (v7 : Int64) (v9 : Int) (v10 : Int) (g1 : rng v1) (g9 : rng v9) (g10 : rng v10), w_X16_gatherIn_39 ra jx rm K10 Q X σ v1 v3 v5 v7 v9 v10 → RG σ → Shp dm ra jx rm σ → JJ p l e R s m args below meth c 12 D cA A n0 s0 QM σ 39 [(0, .ref rm), (1, .int (i32 v1)), (3, .long v3), (5, .long v5), (7, .long v7), (9, .int (i32 v9)), (10, .int (i32 v10))] [] := by
  intro σ v1 v3 v5 v7 v9 v10 g1 g9 g10 h hGσ hS H locs ls hH hl hc
  have B := K.1
  unfold w_X16_gatherIn_39 at h
  refine lv_aload_n B.1 B.2.1 dX16_gatherIn_39 rfl (lv_at hl 0 rfl) ?_
  refine r_arr B hH hS 115 (kd := 101) (n := 4000) (by decide) (by decide) wf_X16_864 rfl rfl dX16_gatherIn_40 ?_
  refine lv_iload B.1 B.2.1 dX16_gatherIn_43 (lv_at hl 6 rfl) ?_
  obtain ⟨q1, h⟩ := h
  refine x_lald B K.2.1 hH (hS.ar (k := 115) (kd := 101) (n := 4000) (by decide)) (by decide) q1 dX16_gatherIn_45 ?_
  refine lv_lload B.1 B.2.1 dX16_gatherIn_46 (lv_at hl 3 rfl) ?_
  refine W.lcmp B.1 B.2.1 dX16_gatherIn_48 ?_
  refine lv_if_lt (tgt := 158) B.1 B.2.1 dX16_gatherIn_49 (by decide) (fun h9 => ?_) (fun h9 => ?_)
  · rw [if_pos ((lg_cmp_lt _ _).mp h9)] at h
    exact a_X16_gatherIn_158 K hQ hX hK10 _ _ _ _ _ _ _ g1 g9 g10 h hGσ hS _ _ _ hH (lv_sub (l' := [(0, .ref rm), (1, .int (i32 v1)), (3, .long v3), (5, .long v5), (7, .long v7), (9, .int (i32 v9)), (10, .int (i32 v10))]) hl [0, 1, 2, 3, 4, 5, 6] rfl) hc
  · rw [if_neg (fun q => h9 ((lg_cmp_lt _ _).mpr q))] at h
    exact a_X16_gatherIn_52 K hQ hX _ _ _ _ g1 g10 h hGσ hS _ _ _ hH (lv_sub (l' := [(0, .ref rm), (1, .int (i32 v1)), (7, .long v7), (10, .int (i32 v10))]) hl [0, 1, 4, 6] rfl) hc
set_option maxRecDepth 20000 in
theorem a_X16_gatherIn_34 {Q : Sg → Unit → Prop} {X : Sg → String → Prop} (K : MC R p s m args c cX16_gatherIn 12 RX16 D cA tys A n0 s0 2 47 []) (hQ : HQV p l e R s m args below meth c cX16_gatherIn D cA A n0 s0 QM dm ra jx rm Q) (hX : HX p l e R s m args below meth c 12 D cA A n0 s0 QM dm ra jx rm X) {K10 : Sg → Int → Int64 → Int64 → Int64 → Int → Int → Prop} (hK10 : ∀ (σ : Sg) (v1 : Int) (v3 : Int64) (v5 : Int64) (v7 : Int64) (v9 : Int) (v10 : Int) (g1 : rng v1) (g9 : rng v9) (g10 : rng v10), K10 σ v1 v3 v5 v7 v9 v10 → RG σ → Shp dm ra jx rm σ → JJ p l e R s m args below meth c 12 D cA A n0 s0 QM σ 10 [(0, .ref rm), (1, .int (i32 v1)), (3, .long v3), (5, .long v5), (7, .long v7), (9, .int (i32 v9)), (10, .int (i32 v10))] []) : ∀ (σ : Sg) (v1 : Int) (v3 : Int64) (v5 : Int64) (v7 : Int64) (v9 : Int) (v10 : Int) (g1 : rng v1) (g9 : rng v9) (g10 : rng v10), w_X16_gatherIn_34 ra jx rm K10 Q X σ v1 v3 v5 v7 v9 v10 → RG σ → Shp dm ra jx rm σ → JJ p l e R s m args below meth c 12 D cA A n0 s0 QM σ 34 [(0, .ref rm), (1, .int (i32 v1)), (3, .long v3), (5, .long v5), (7, .long v7), (9, .int (i32 v9)), (10, .int (i32 v10))] [] := by
  intro σ v1 v3 v5 v7 v9 v10 g1 g9 g10 h hGσ hS H locs ls hH hl hc
  have B := K.1
  unfold w_X16_gatherIn_34 at h
  refine lv_iload B.1 B.2.1 dX16_gatherIn_34 (lv_at hl 5 rfl) ?_
  refine lv_if_eq (tgt := 55) B.1 B.2.1 dX16_gatherIn_36 (by decide) (fun h9 => ?_) (fun h9 => ?_)
  · rw [if_pos ((z_eq g9).mp h9)] at h
    exact a_X16_gatherIn_55 K hQ hX hK10 _ _ _ _ _ _ _ g1 g9 g10 h hGσ hS _ _ _ hH (lv_sub (l' := [(0, .ref rm), (1, .int (i32 v1)), (3, .long v3), (5, .long v5), (7, .long v7), (9, .int (i32 v9)), (10, .int (i32 v10))]) hl [0, 1, 2, 3, 4, 5, 6] rfl) hc
  · rw [if_neg (fun q => h9 ((z_eq g9).mpr q))] at h
    exact a_X16_gatherIn_39 K hQ hX hK10 _ _ _ _ _ _ _ g1 g9 g10 h hGσ hS _ _ _ hH (lv_sub (l' := [(0, .ref rm), (1, .int (i32 v1)), (3, .long v3), (5, .long v5), (7, .long v7), (9, .int (i32 v9)), (10, .int (i32 v10))]) hl [0, 1, 2, 3, 4, 5, 6] rfl) hc
set_option maxRecDepth 20000 in
theorem a_X16_gatherIn_19 {Q : Sg → Unit → Prop} {X : Sg → String → Prop} (K : MC R p s m args c cX16_gatherIn 12 RX16 D cA tys A n0 s0 2 47 []) (hQ : HQV p l e R s m args below meth c cX16_gatherIn D cA A n0 s0 QM dm ra jx rm Q) (hX : HX p l e R s m args below meth c 12 D cA A n0 s0 QM dm ra jx rm X) {K10 : Sg → Int → Int64 → Int64 → Int64 → Int → Int → Prop} (hK10 : ∀ (σ : Sg) (v1 : Int) (v3 : Int64) (v5 : Int64) (v7 : Int64) (v9 : Int) (v10 : Int) (g1 : rng v1) (g9 : rng v9) (g10 : rng v10), K10 σ v1 v3 v5 v7 v9 v10 → RG σ → Shp dm ra jx rm σ → JJ p l e R s m args below meth c 12 D cA A n0 s0 QM σ 10 [(0, .ref rm), (1, .int (i32 v1)), (3, .long v3), (5, .long v5), (7, .long v7), (9, .int (i32 v9)), (10, .int (i32 v10))] []) : ∀ (σ : Sg) (v1 : Int) (v3 : Int64) (v5 : Int64) (v7 : Int64) (v9 : Int) (v10 : Int) (g1 : rng v1) (g9 : rng v9) (g10 : rng v10), w_X16_gatherIn_19 ra jx rm K10 Q X σ v1 v3 v5 v7 v9 v10 → RG σ → Shp dm ra jx rm σ → JJ p l e R s m args below meth c 12 D cA A n0 s0 QM σ 19 [(0, .ref rm), (1, .int (i32 v1)), (3, .long v3), (5, .long v5), (7, .long v7), (9, .int (i32 v9)), (10, .int (i32 v10))] [] := by
  intro σ v1 v3 v5 v7 v9 v10 g1 g9 g10 h hGσ hS H locs ls hH hl hc
  have B := K.1
  unfold w_X16_gatherIn_19 at h
  refine lv_aload_n B.1 B.2.1 dX16_gatherIn_19 rfl (lv_at hl 0 rfl) ?_
  refine r_arr B hH hS 116 (kd := 101) (n := 32000) (by decide) (by decide) wf_X16_867 rfl rfl dX16_gatherIn_20 ?_
  refine lv_bipush (v := i32 8) B.1 B.2.1 dX16_gatherIn_23 (by decide) ?_
  refine lv_iload B.1 B.2.1 dX16_gatherIn_25 (lv_at hl 6 rfl) ?_
  obtain ⟨q1, h⟩ := h
  refine lv_imul B.1 B.2.1 dX16_gatherIn_27 ?_
  rw [i32_mul]
  obtain ⟨q2, h⟩ := h
  refine x_lald B K.2.1 hH (hS.ar (k := 116) (kd := 101) (n := 32000) (by decide)) (by decide) q2 dX16_gatherIn_28 ?_
  refine lv_lload_n B.1 B.2.1 dX16_gatherIn_29 rfl (lv_at hl 2 rfl) ?_
  refine W.lcmp B.1 B.2.1 dX16_gatherIn_30 ?_
  refine lv_if_ne (tgt := 158) B.1 B.2.1 dX16_gatherIn_31 (by decide) (fun h9 => ?_) (fun h9 => ?_)
  · rw [if_pos (fun q => h9 ((lg_cmp_eq _ _).mpr q))] at h
    exact a_X16_gatherIn_158 K hQ hX hK10 _ _ _ _ _ _ _ g1 g9 g10 h hGσ hS _ _ _ hH (lv_sub (l' := [(0, .ref rm), (1, .int (i32 v1)), (3, .long v3), (5, .long v5), (7, .long v7), (9, .int (i32 v9)), (10, .int (i32 v10))]) hl [0, 1, 2, 3, 4, 5, 6] rfl) hc
  · rw [if_neg (fun q => q ((lg_cmp_eq _ _).mp h9))] at h
    exact a_X16_gatherIn_34 K hQ hX hK10 _ _ _ _ _ _ _ g1 g9 g10 h hGσ hS _ _ _ hH (lv_sub (l' := [(0, .ref rm), (1, .int (i32 v1)), (3, .long v3), (5, .long v5), (7, .long v7), (9, .int (i32 v9)), (10, .int (i32 v10))]) hl [0, 1, 2, 3, 4, 5, 6] rfl) hc
set_option maxRecDepth 20000 in
theorem a_X16_gatherIn_10 {Q : Sg → Unit → Prop} {X : Sg → String → Prop} (K : MC R p s m args c cX16_gatherIn 12 RX16 D cA tys A n0 s0 2 47 []) (hQ : HQV p l e R s m args below meth c cX16_gatherIn D cA A n0 s0 QM dm ra jx rm Q) (hX : HX p l e R s m args below meth c 12 D cA A n0 s0 QM dm ra jx rm X) {K10 : Sg → Int → Int64 → Int64 → Int64 → Int → Int → Prop} (hK10 : ∀ (σ : Sg) (v1 : Int) (v3 : Int64) (v5 : Int64) (v7 : Int64) (v9 : Int) (v10 : Int) (g1 : rng v1) (g9 : rng v9) (g10 : rng v10), K10 σ v1 v3 v5 v7 v9 v10 → RG σ → Shp dm ra jx rm σ → JJ p l e R s m args below meth c 12 D cA A n0 s0 QM σ 10 [(0, .ref rm), (1, .int (i32 v1)), (3, .long v3), (5, .long v5), (7, .long v7), (9, .int (i32 v9)), (10, .int (i32 v10))] []) : ∀ (σ : Sg) (v1 : Int) (v3 : Int64) (v5 : Int64) (v7 : Int64) (v9 : Int) (v10 : Int) (g1 : rng v1) (g9 : rng v9) (g10 : rng v10), w_X16_gatherIn_10 ra jx rm K10 Q X σ v1 v3 v5 v7 v9 v10 → RG σ → Shp dm ra jx rm σ → JJ p l e R s m args below meth c 12 D cA A n0 s0 QM σ 10 [(0, .ref rm), (1, .int (i32 v1)), (3, .long v3), (5, .long v5), (7, .long v7), (9, .int (i32 v9)), (10, .int (i32 v10))] [] := by
  intro σ v1 v3 v5 v7 v9 v10 g1 g9 g10 h hGσ hS H locs ls hH hl hc
  have B := K.1
  unfold w_X16_gatherIn_10 at h
  refine lv_iload B.1 B.2.1 dX16_gatherIn_10 (lv_at hl 6 rfl) ?_
  refine lv_aload_n B.1 B.2.1 dX16_gatherIn_12 rfl (lv_at hl 0 rfl) ?_
  refine r_geti B hH hS 117 (by decide) wf_X16_861 rfl rfl dX16_gatherIn_13 ?_
  refine lv_icmp_ge (tgt := 164) B.1 B.2.1 dX16_gatherIn_16 (by decide) (fun h9 => ?_) (fun h9 => ?_)
  · rw [if_pos ((i32_le (hGσ _ _) g10).mp h9)] at h
    exact a_X16_gatherIn_164 K hQ hX _ _ h hGσ hS _ _ _ hH (lv_sub (l' := [(0, .ref rm), (7, .long v7)]) hl [0, 4] rfl) hc
  · rw [if_neg (fun q => h9 ((i32_le (hGσ _ _) g10).mpr q))] at h
    exact a_X16_gatherIn_19 K hQ hX hK10 _ _ _ _ _ _ _ g1 g9 g10 h hGσ hS _ _ _ hH (lv_sub (l' := [(0, .ref rm), (1, .int (i32 v1)), (3, .long v3), (5, .long v5), (7, .long v7), (9, .int (i32 v9)), (10, .int (i32 v10))]) hl [0, 1, 2, 3, 4, 5, 6] rfl) hc
theorem al_X16_gatherIn_10 {Q : Sg → Unit → Prop} {X : Sg → String → Prop} (K : MC R p s m args c cX16_gatherIn 12 RX16 D cA tys A n0 s0 2 47 []) (hQ : HQV p l e R s m args below meth c cX16_gatherIn D cA A n0 s0 QM dm ra jx rm Q) (hX : HX p l e R s m args below meth c 12 D cA A n0 s0 QM dm ra jx rm X) : ∀ (n : Nat), ∀ (σ : Sg) (v1 : Int) (v3 : Int64) (v5 : Int64) (v7 : Int64) (v9 : Int) (v10 : Int) (g1 : rng v1) (g9 : rng v9) (g10 : rng v10), wl_X16_gatherIn_10 ra jx rm Q X n σ v1 v3 v5 v7 v9 v10 → RG σ → Shp dm ra jx rm σ → JJ p l e R s m args below meth c 12 D cA A n0 s0 QM σ 10 [(0, .ref rm), (1, .int (i32 v1)), (3, .long v3), (5, .long v5), (7, .long v7), (9, .int (i32 v9)), (10, .int (i32 v10))] [] := by
  intro n
  induction n with
  | zero => intro σ v1 v3 v5 v7 v9 v10 g1 g9 g10 h; exact h.elim
  | succ n ih => exact fun σ v1 v3 v5 v7 v9 v10 g1 g9 g10 h => a_X16_gatherIn_10 K hQ hX ih σ v1 v3 v5 v7 v9 v10 g1 g9 g10 h
set_option maxRecDepth 20000 in
theorem a_X16_gatherIn_0 {Q : Sg → Unit → Prop} {X : Sg → String → Prop} (K : MC R p s m args c cX16_gatherIn 12 RX16 D cA tys A n0 s0 2 47 []) (hQ : HQV p l e R s m args below meth c cX16_gatherIn D cA A n0 s0 QM dm ra jx rm Q) (hX : HX p l e R s m args below meth c 12 D cA A n0 s0 QM dm ra jx rm X) : ∀ (σ : Sg) (v1 : Int) (v2 : Int) (v3 : Int64) (v5 : Int64) (v7 : Int64) (v9 : Int) (g1 : rng v1) (g2 : rng v2) (g9 : rng v9), w_X16_gatherIn_0 ra jx rm Q X σ v1 v2 v3 v5 v7 v9 → RG σ → Shp dm ra jx rm σ → JJ p l e R s m args below meth c 12 D cA A n0 s0 QM σ 0 [(0, .ref rm), (1, .int (i32 v1)), (2, .int (i32 v2)), (3, .long v3), (5, .long v5), (7, .long v7), (9, .int (i32 v9))] [] := by
  intro σ v1 v2 v3 v5 v7 v9 g1 g2 g9 h hGσ hS H locs ls hH hl hc
  have B := K.1
  unfold w_X16_gatherIn_0 at h
  refine lv_aload_n B.1 B.2.1 dX16_gatherIn_0 rfl (lv_at hl 0 rfl) ?_
  refine r_arr B hH hS 82 (kd := 101) (n := 16) (by decide) (by decide) wf_X16_578 rfl rfl dX16_gatherIn_1 ?_
  refine lv_iconst (v := i32 0) B.1 B.2.1 dX16_gatherIn_4 (by decide) ?_
  refine lv_lload_n B.1 B.2.1 dX16_gatherIn_5 rfl (lv_at hl 3 rfl) ?_
  obtain ⟨σ24, eσ24⟩ : ∃ z, z = pJ σ (ra 82) 0 v3 := ⟨_, rfl⟩
  have h := h σ24 eσ24
  refine x_last B K.2.1 hH (hS.ar (k := 82) (kd := 101) (n := 16) (by decide)) (by decide) (by decide) dX16_gatherIn_6 (fun H locs hH => ?_)
  have hH : Hd D cA A s (pJ σ (ra 82) 0 v3) H locs := hH
  rw [← eσ24] at hH
  have hGσ24 : RG σ24 := by rw [eσ24]; exact hGσ.pJ
  have hS : Shp dm ra jx rm σ24 := by rw [eσ24]; exact hS
  have hc : CB n0 s0 σ24 := by rw [eσ24]; exact hc
  rw [show gc σ = gc σ24 by rw [eσ24], show gs σ = gs σ24 by rw [eσ24]]
  refine lv_iload_n B.1 B.2.1 dX16_gatherIn_7 rfl (lv_at hl 2 rfl) ?_
  refine lv_istore (lv' := [(10, .int (i32 v2)), (0, .ref rm), (1, .int (i32 v1)), (2, .int (i32 v2)), (3, .long v3), (5, .long v5), (7, .long v7), (9, .int (i32 v9))]) B.1 B.2.1 dX16_gatherIn_8 hl (by decide) rfl (fun ls hl => ?_)
  obtain ⟨n9, h⟩ := h
  exact al_X16_gatherIn_10 K hQ hX n9 _ _ _ _ _ _ _ g1 g9 g2 h hGσ24 hS _ _ _ hH (lv_sub (l' := [(0, .ref rm), (1, .int (i32 v1)), (3, .long v3), (5, .long v5), (7, .long v7), (9, .int (i32 v9)), (10, .int (i32 v2))]) hl [1, 2, 4, 5, 6, 7, 0] rfl) hc
theorem ok_X16_gatherIn (hT : Tys cA tys) {Q : Sg → Unit → Prop} {X : Sg → String → Prop} (σ : Sg) (v1 : Int) (v2 : Int) (v3 : Int64) (v5 : Int64) (v7 : Int64) (v9 : Int) (g1 : rng v1) (g2 : rng v2) (g9 : rng v9) (hG : RG σ) (hS : Shp dm ra jx rm σ) (h : wp_X16_gatherIn ra jx rm v1 v2 v3 v5 v7 v9 σ Q X) : Ok l D cA tys A yX16_gatherIn (.code yX16_gatherIn cX16_gatherIn 12 none) 2 47 [.ref rm, .int (i32 v1), .int (i32 v2), .long v3, .long v5, .long v7, .int (i32 v9)] σ (QnV dm ra jx rm Q) (QxR dm ra jx rm X) := by
  unfold wp_X16_gatherIn at h
  exact ok_V (plainFor_of_name (by decide)) (by exact Nat.le_of_ble_eq_true rfl) hT (fun p e R s m args below meth c K hQ hX H locs ls hH hl hc => a_X16_gatherIn_0 K hQ hX σ v1 v2 v3 v5 v7 v9 g1 g2 g9 h hG hS H locs ls hH (lv_sub (l' := [(0, .ref rm), (1, .int (i32 v1)), (2, .int (i32 v2)), (3, .long v3), (5, .long v5), (7, .long v7), (9, .int (i32 v9))]) hl [0, 1, 2, 3, 4, 5, 6] rfl) hc)
theorem dX16_give_0 : decode cX16_give 0 = .ok (.aload_n 0, 1) := by decide +kernel
theorem dX16_give_1 : decode cX16_give 1 = .ok (.iload_n 1, 1) := by decide +kernel
theorem dX16_give_2 : decode cX16_give 2 = .ok (.i2l, 1) := by decide +kernel
theorem dX16_give_3 : decode cX16_give 3 = .ok (.lconst 0, 1) := by decide +kernel
theorem dX16_give_4 : decode cX16_give 4 = .ok (.ldc2_w 186, 3) := by decide +kernel
theorem dX16_give_7 : decode cX16_give 7 = .ok (.invokestatic 45, 3) := by decide +kernel
theorem dX16_give_10 : decode cX16_give 10 = .ok (.ifCond .ne 7, 3) := by decide +kernel
theorem dX16_give_13 : decode cX16_give 13 = .ok (.iconst 1, 1) := by decide +kernel
theorem dX16_give_14 : decode cX16_give 14 = .ok (.goto 56, 3) := by decide +kernel
theorem dX16_give_17 : decode cX16_give 17 = .ok (.aload_n 0, 1) := by decide +kernel
theorem dX16_give_18 : decode cX16_give 18 = .ok (.iload_n 1, 1) := by decide +kernel
theorem dX16_give_19 : decode cX16_give 19 = .ok (.invokevirtual 984, 3) := by decide +kernel
theorem dX16_give_22 : decode cX16_give 22 = .ok (.ifCond .eq 12, 3) := by decide +kernel
theorem dX16_give_25 : decode cX16_give 25 = .ok (.aload_n 0, 1) := by decide +kernel
theorem dX16_give_26 : decode cX16_give 26 = .ok (.getfield 779, 3) := by decide +kernel
theorem dX16_give_29 : decode cX16_give 29 = .ok (.iload_n 1, 1) := by decide +kernel
theorem dX16_give_30 : decode cX16_give 30 = .ok (.baload, 1) := by decide +kernel
theorem dX16_give_31 : decode cX16_give 31 = .ok (.ifCond .eq 7, 3) := by decide +kernel
theorem dX16_give_34 : decode cX16_give 34 = .ok (.iconst 2, 1) := by decide +kernel
theorem dX16_give_35 : decode cX16_give 35 = .ok (.goto 35, 3) := by decide +kernel
theorem dX16_give_38 : decode cX16_give 38 = .ok (.iload_n 2, 1) := by decide +kernel
theorem dX16_give_39 : decode cX16_give 39 = .ok (.i2l, 1) := by decide +kernel
theorem dX16_give_40 : decode cX16_give 40 = .ok (.lconst 0, 1) := by decide +kernel
theorem dX16_give_41 : decode cX16_give 41 = .ok (.ldc2_w 987, 3) := by decide +kernel
theorem dX16_give_44 : decode cX16_give 44 = .ok (.invokestatic 45, 3) := by decide +kernel
theorem dX16_give_47 : decode cX16_give 47 = .ok (.ifCond .ne 7, 3) := by decide +kernel
theorem dX16_give_50 : decode cX16_give 50 = .ok (.iconst 3, 1) := by decide +kernel
theorem dX16_give_51 : decode cX16_give 51 = .ok (.goto 19, 3) := by decide +kernel
theorem dX16_give_54 : decode cX16_give 54 = .ok (.aload_n 0, 1) := by decide +kernel
theorem dX16_give_55 : decode cX16_give 55 = .ok (.getfield 763, 3) := by decide +kernel
theorem dX16_give_58 : decode cX16_give 58 = .ok (.iload_n 1, 1) := by decide +kernel
theorem dX16_give_59 : decode cX16_give 59 = .ok (.iaload, 1) := by decide +kernel
theorem dX16_give_60 : decode cX16_give 60 = .ok (.bipush 64, 2) := by decide +kernel
theorem dX16_give_62 : decode cX16_give 62 = .ok (.if_icmp .ne 7, 3) := by decide +kernel
theorem dX16_give_65 : decode cX16_give 65 = .ok (.iconst 4, 1) := by decide +kernel
theorem dX16_give_66 : decode cX16_give 66 = .ok (.goto 4, 3) := by decide +kernel
theorem dX16_give_69 : decode cX16_give 69 = .ok (.iconst 0, 1) := by decide +kernel
theorem dX16_give_70 : decode cX16_give 70 = .ok (.putfield 1, 3) := by decide +kernel
theorem dX16_give_73 : decode cX16_give 73 = .ok (.aload_n 0, 1) := by decide +kernel
theorem dX16_give_74 : decode cX16_give 74 = .ok (.getfield 1, 3) := by decide +kernel
theorem dX16_give_77 : decode cX16_give 77 = .ok (.ifCond .le 5, 3) := by decide +kernel
theorem dX16_give_80 : decode cX16_give 80 = .ok (.iconst 0, 1) := by decide +kernel
theorem dX16_give_81 : decode cX16_give 81 = .ok (.ireturn, 1) := by decide +kernel
theorem dX16_give_82 : decode cX16_give 82 = .ok (.bipush 64, 2) := by decide +kernel
theorem dX16_give_84 : decode cX16_give 84 = .ok (.iload_n 1, 1) := by decide +kernel
theorem dX16_give_85 : decode cX16_give 85 = .ok (.imul, 1) := by decide +kernel
theorem dX16_give_86 : decode cX16_give 86 = .ok (.aload_n 0, 1) := by decide +kernel
theorem dX16_give_87 : decode cX16_give 87 = .ok (.getfield 763, 3) := by decide +kernel
theorem dX16_give_90 : decode cX16_give 90 = .ok (.iload_n 1, 1) := by decide +kernel
theorem dX16_give_91 : decode cX16_give 91 = .ok (.iaload, 1) := by decide +kernel
theorem dX16_give_92 : decode cX16_give 92 = .ok (.iadd, 1) := by decide +kernel
theorem dX16_give_93 : decode cX16_give 93 = .ok (.istore 11, 2) := by decide +kernel
theorem dX16_give_95 : decode cX16_give 95 = .ok (.aload_n 0, 1) := by decide +kernel
theorem dX16_give_96 : decode cX16_give 96 = .ok (.getfield 754, 3) := by decide +kernel
theorem dX16_give_99 : decode cX16_give 99 = .ok (.iload 11, 2) := by decide +kernel
theorem dX16_give_101 : decode cX16_give 101 = .ok (.iload_n 2, 1) := by decide +kernel
theorem dX16_give_102 : decode cX16_give 102 = .ok (.i2l, 1) := by decide +kernel
theorem dX16_give_103 : decode cX16_give 103 = .ok (.lastore, 1) := by decide +kernel
theorem dX16_give_104 : decode cX16_give 104 = .ok (.aload_n 0, 1) := by decide +kernel
theorem dX16_give_105 : decode cX16_give 105 = .ok (.getfield 772, 3) := by decide +kernel
theorem dX16_give_108 : decode cX16_give 108 = .ok (.iconst 4, 1) := by decide +kernel
theorem dX16_give_109 : decode cX16_give 109 = .ok (.iload 11, 2) := by decide +kernel
theorem dX16_give_111 : decode cX16_give 111 = .ok (.imul, 1) := by decide +kernel
theorem dX16_give_112 : decode cX16_give 112 = .ok (.lload_n 3, 1) := by decide +kernel
theorem dX16_give_113 : decode cX16_give 113 = .ok (.lastore, 1) := by decide +kernel
theorem dX16_give_114 : decode cX16_give 114 = .ok (.aload_n 0, 1) := by decide +kernel
theorem dX16_give_115 : decode cX16_give 115 = .ok (.getfield 772, 3) := by decide +kernel
theorem dX16_give_118 : decode cX16_give 118 = .ok (.iconst 4, 1) := by decide +kernel
theorem dX16_give_119 : decode cX16_give 119 = .ok (.iload 11, 2) := by decide +kernel
theorem dX16_give_121 : decode cX16_give 121 = .ok (.imul, 1) := by decide +kernel
theorem dX16_give_122 : decode cX16_give 122 = .ok (.iconst 1, 1) := by decide +kernel
theorem dX16_give_123 : decode cX16_give 123 = .ok (.iadd, 1) := by decide +kernel
theorem dX16_give_124 : decode cX16_give 124 = .ok (.lload 5, 2) := by decide +kernel
theorem dX16_give_126 : decode cX16_give 126 = .ok (.lastore, 1) := by decide +kernel
theorem dX16_give_127 : decode cX16_give 127 = .ok (.aload_n 0, 1) := by decide +kernel
theorem dX16_give_128 : decode cX16_give 128 = .ok (.getfield 772, 3) := by decide +kernel
theorem dX16_give_131 : decode cX16_give 131 = .ok (.iconst 4, 1) := by decide +kernel
theorem dX16_give_132 : decode cX16_give 132 = .ok (.iload 11, 2) := by decide +kernel
theorem dX16_give_134 : decode cX16_give 134 = .ok (.imul, 1) := by decide +kernel
theorem dX16_give_135 : decode cX16_give 135 = .ok (.iconst 2, 1) := by decide +kernel
theorem dX16_give_136 : decode cX16_give 136 = .ok (.iadd, 1) := by decide +kernel
theorem dX16_give_137 : decode cX16_give 137 = .ok (.lload 7, 2) := by decide +kernel
theorem dX16_give_139 : decode cX16_give 139 = .ok (.lastore, 1) := by decide +kernel
theorem dX16_give_140 : decode cX16_give 140 = .ok (.aload_n 0, 1) := by decide +kernel
theorem dX16_give_141 : decode cX16_give 141 = .ok (.getfield 772, 3) := by decide +kernel
theorem dX16_give_144 : decode cX16_give 144 = .ok (.iconst 4, 1) := by decide +kernel
theorem dX16_give_145 : decode cX16_give 145 = .ok (.iload 11, 2) := by decide +kernel
theorem dX16_give_147 : decode cX16_give 147 = .ok (.imul, 1) := by decide +kernel
theorem dX16_give_148 : decode cX16_give 148 = .ok (.iconst 3, 1) := by decide +kernel
theorem dX16_give_149 : decode cX16_give 149 = .ok (.iadd, 1) := by decide +kernel
theorem dX16_give_150 : decode cX16_give 150 = .ok (.lload 9, 2) := by decide +kernel
theorem dX16_give_152 : decode cX16_give 152 = .ok (.lastore, 1) := by decide +kernel
theorem dX16_give_153 : decode cX16_give 153 = .ok (.aload_n 0, 1) := by decide +kernel
theorem dX16_give_154 : decode cX16_give 154 = .ok (.getfield 763, 3) := by decide +kernel
theorem dX16_give_157 : decode cX16_give 157 = .ok (.iload_n 1, 1) := by decide +kernel
theorem dX16_give_158 : decode cX16_give 158 = .ok (.dup2, 1) := by decide +kernel
theorem dX16_give_159 : decode cX16_give 159 = .ok (.iaload, 1) := by decide +kernel
theorem dX16_give_160 : decode cX16_give 160 = .ok (.iconst 1, 1) := by decide +kernel
theorem dX16_give_161 : decode cX16_give 161 = .ok (.iadd, 1) := by decide +kernel
theorem dX16_give_162 : decode cX16_give 162 = .ok (.iastore, 1) := by decide +kernel
theorem dX16_give_163 : decode cX16_give 163 = .ok (.aload_n 0, 1) := by decide +kernel
theorem dX16_give_164 : decode cX16_give 164 = .ok (.getfield 763, 3) := by decide +kernel
theorem dX16_give_167 : decode cX16_give 167 = .ok (.iload_n 1, 1) := by decide +kernel
theorem dX16_give_168 : decode cX16_give 168 = .ok (.iaload, 1) := by decide +kernel
theorem dX16_give_169 : decode cX16_give 169 = .ok (.iconst 1, 1) := by decide +kernel
theorem dX16_give_170 : decode cX16_give 170 = .ok (.isub, 1) := by decide +kernel
theorem dX16_give_171 : decode cX16_give 171 = .ok (.ireturn, 1) := by decide +kernel
set_option maxRecDepth 20000 in
theorem a_X16_give_82 {Q : Sg → Int → Prop} {X : Sg → String → Prop} (K : MC R p s m args c cX16_give 12 RX16 D cA tys A n0 s0 1 25 []) (hQ : HQI p l e R s m args below meth c cX16_give D cA A n0 s0 QM dm ra jx rm Q) (hX : HX p l e R s m args below meth c 12 D cA A n0 s0 QM dm ra jx rm X) : ∀ (σ : Sg) (v1 : Int) (v2 : Int) (v3 : Int64) (v5 : Int64) (v7 : Int64) (v9 : Int64) (g1 : rng v1) (g2 : rng v2), w_X16_give_82 ra jx rm Q X σ v1 v2 v3 v5 v7 v9 → RG σ → Shp dm ra jx rm σ → JJ p l e R s m args below meth c 12 D cA A n0 s0 QM σ 82 [(0, .ref rm), (1, .int (i32 v1)), (2, .int (i32 v2)), (3, .long v3), (5, .long v5), (7, .long v7), (9, .long v9)] [] := by
  intro σ v1 v2 v3 v5 v7 v9 g1 g2 h hGσ hS H locs ls hH hl hc
  have B := K.1
  unfold w_X16_give_82 at h
  refine lv_bipush (v := i32 64) B.1 B.2.1 dX16_give_82 (by decide) ?_
  refine lv_iload_n B.1 B.2.1 dX16_give_84 rfl (lv_at hl 1 rfl) ?_
  obtain ⟨q1, h⟩ := h
  refine lv_imul B.1 B.2.1 dX16_give_85 ?_
  rw [i32_mul]
  refine lv_aload_n B.1 B.2.1 dX16_give_86 rfl (lv_at hl 0 rfl) ?_
  refine r_arr B hH hS 22 (kd := 100) (n := 4) (by decide) (by decide) wf_X16_763 rfl rfl dX16_give_87 ?_
  refine lv_iload_n B.1 B.2.1 dX16_give_90 rfl (lv_at hl 1 rfl) ?_
  obtain ⟨q2, h⟩ := h
  refine x_iald B K.2.1 hH (hS.ar (k := 22) (kd := 100) (n := 4) (by decide)) (by decide) q2 dX16_give_91 ?_
  obtain ⟨q3, h⟩ := h
  refine lv_iadd B.1 B.2.1 dX16_give_92 ?_
  rw [i32_add]
  refine lv_istore (lv' := [(11, .int (i32 ((64 * v1) + (gI σ (ra 22) v1.toNat)))), (0, .ref rm), (1, .int (i32 v1)), (2, .int (i32 v2)), (3, .long v3), (5, .long v5), (7, .long v7), (9, .long v9)]) B.1 B.2.1 dX16_give_93 hl (by decide) rfl (fun ls hl => ?_)
  refine lv_aload_n B.1 B.2.1 dX16_give_95 rfl (lv_at hl 1 rfl) ?_
  refine r_arr B hH hS 23 (kd := 101) (n := 256) (by decide) (by decide) wf_X16_754 rfl rfl dX16_give_96 ?_
  refine lv_iload B.1 B.2.1 dX16_give_99 (lv_at hl 0 rfl) ?_
  refine lv_iload_n B.1 B.2.1 dX16_give_101 rfl (lv_at hl 3 rfl) ?_
  refine lv_i2l B.1 B.2.1 dX16_give_102 (i32_i64 g2) ?_
  obtain ⟨q4, h⟩ := h
  obtain ⟨σ27, eσ27⟩ : ∃ z, z = pJ σ (ra 23) ((64 * v1) + (gI σ (ra 22) v1.toNat)).toNat (Int64.ofInt v2) := ⟨_, rfl⟩
  have h := h σ27 eσ27
  refine x_last B K.2.1 hH (hS.ar (k := 23) (kd := 101) (n := 256) (by decide)) (by decide) q4 dX16_give_103 (fun H locs hH => ?_)
  have hH : Hd D cA A s (pJ σ (ra 23) ((64 * v1) + (gI σ (ra 22) v1.toNat)).toNat (Int64.ofInt v2)) H locs := hH
  rw [← eσ27] at hH
  have hGσ27 : RG σ27 := by rw [eσ27]; exact hGσ.pJ
  have hS : Shp dm ra jx rm σ27 := by rw [eσ27]; exact hS
  have hc : CB n0 s0 σ27 := by rw [eσ27]; exact hc
  rw [show gc σ = gc σ27 by rw [eσ27], show gs σ = gs σ27 by rw [eσ27]]
  refine lv_aload_n B.1 B.2.1 dX16_give_104 rfl (lv_at hl 1 rfl) ?_
  refine r_arr B hH hS 24 (kd := 101) (n := 1024) (by decide) (by decide) wf_X16_772 rfl rfl dX16_give_105 ?_
  refine lv_iconst (v := i32 4) B.1 B.2.1 dX16_give_108 (by decide) ?_
  refine lv_iload B.1 B.2.1 dX16_give_109 (lv_at hl 0 rfl) ?_
  obtain ⟨q6, h⟩ := h
  refine lv_imul B.1 B.2.1 dX16_give_111 ?_
  rw [i32_mul]
  refine lv_lload_n B.1 B.2.1 dX16_give_112 rfl (lv_at hl 4 rfl) ?_
  obtain ⟨q7, h⟩ := h
  obtain ⟨σ28, eσ28⟩ : ∃ z, z = pJ σ27 (ra 24) (4 * ((64 * v1) + (gI σ (ra 22) v1.toNat))).toNat v3 := ⟨_, rfl⟩
  have h := h σ28 eσ28
  refine x_last B K.2.1 hH (hS.ar (k := 24) (kd := 101) (n := 1024) (by decide)) (by decide) q7 dX16_give_113 (fun H locs hH => ?_)
  have hH : Hd D cA A s (pJ σ27 (ra 24) (4 * ((64 * v1) + (gI σ (ra 22) v1.toNat))).toNat v3) H locs := hH
  rw [← eσ28] at hH
  have hGσ28 : RG σ28 := by rw [eσ28]; exact hGσ27.pJ
  have hS : Shp dm ra jx rm σ28 := by rw [eσ28]; exact hS
  have hc : CB n0 s0 σ28 := by rw [eσ28]; exact hc
  rw [show gc σ27 = gc σ28 by rw [eσ28], show gs σ27 = gs σ28 by rw [eσ28]]
  refine lv_aload_n B.1 B.2.1 dX16_give_114 rfl (lv_at hl 1 rfl) ?_
  refine r_arr B hH hS 24 (kd := 101) (n := 1024) (by decide) (by decide) wf_X16_772 rfl rfl dX16_give_115 ?_
  refine lv_iconst (v := i32 4) B.1 B.2.1 dX16_give_118 (by decide) ?_
  refine lv_iload B.1 B.2.1 dX16_give_119 (lv_at hl 0 rfl) ?_
  obtain ⟨q9, h⟩ := h
  refine lv_imul B.1 B.2.1 dX16_give_121 ?_
  rw [i32_mul]
  refine lv_iconst (v := i32 1) B.1 B.2.1 dX16_give_122 (by decide) ?_
  obtain ⟨q10, h⟩ := h
  refine lv_iadd B.1 B.2.1 dX16_give_123 ?_
  rw [i32_add]
  refine lv_lload B.1 B.2.1 dX16_give_124 (lv_at hl 5 rfl) ?_
  obtain ⟨q11, h⟩ := h
  obtain ⟨σ29, eσ29⟩ : ∃ z, z = pJ σ28 (ra 24) ((4 * ((64 * v1) + (gI σ (ra 22) v1.toNat))) + 1).toNat v5 := ⟨_, rfl⟩
  have h := h σ29 eσ29
  refine x_last B K.2.1 hH (hS.ar (k := 24) (kd := 101) (n := 1024) (by decide)) (by decide) q11 dX16_give_126 (fun H locs hH => ?_)
  have hH : Hd D cA A s (pJ σ28 (ra 24) ((4 * ((64 * v1) + (gI σ (ra 22) v1.toNat))) + 1).toNat v5) H locs := hH
  rw [← eσ29] at hH
  have hGσ29 : RG σ29 := by rw [eσ29]; exact hGσ28.pJ
  have hS : Shp dm ra jx rm σ29 := by rw [eσ29]; exact hS
  have hc : CB n0 s0 σ29 := by rw [eσ29]; exact hc
  rw [show gc σ28 = gc σ29 by rw [eσ29], show gs σ28 = gs σ29 by rw [eσ29]]
  refine lv_aload_n B.1 B.2.1 dX16_give_127 rfl (lv_at hl 1 rfl) ?_
  refine r_arr B hH hS 24 (kd := 101) (n := 1024) (by decide) (by decide) wf_X16_772 rfl rfl dX16_give_128 ?_
  refine lv_iconst (v := i32 4) B.1 B.2.1 dX16_give_131 (by decide) ?_
  refine lv_iload B.1 B.2.1 dX16_give_132 (lv_at hl 0 rfl) ?_
  obtain ⟨q13, h⟩ := h
  refine lv_imul B.1 B.2.1 dX16_give_134 ?_
  rw [i32_mul]
  refine lv_iconst (v := i32 2) B.1 B.2.1 dX16_give_135 (by decide) ?_
  obtain ⟨q14, h⟩ := h
  refine lv_iadd B.1 B.2.1 dX16_give_136 ?_
  rw [i32_add]
  refine lv_lload B.1 B.2.1 dX16_give_137 (lv_at hl 6 rfl) ?_
  obtain ⟨q15, h⟩ := h
  obtain ⟨σ30, eσ30⟩ : ∃ z, z = pJ σ29 (ra 24) ((4 * ((64 * v1) + (gI σ (ra 22) v1.toNat))) + 2).toNat v7 := ⟨_, rfl⟩
  have h := h σ30 eσ30
  refine x_last B K.2.1 hH (hS.ar (k := 24) (kd := 101) (n := 1024) (by decide)) (by decide) q15 dX16_give_139 (fun H locs hH => ?_)
  have hH : Hd D cA A s (pJ σ29 (ra 24) ((4 * ((64 * v1) + (gI σ (ra 22) v1.toNat))) + 2).toNat v7) H locs := hH
  rw [← eσ30] at hH
  have hGσ30 : RG σ30 := by rw [eσ30]; exact hGσ29.pJ
  have hS : Shp dm ra jx rm σ30 := by rw [eσ30]; exact hS
  have hc : CB n0 s0 σ30 := by rw [eσ30]; exact hc
  rw [show gc σ29 = gc σ30 by rw [eσ30], show gs σ29 = gs σ30 by rw [eσ30]]
  refine lv_aload_n B.1 B.2.1 dX16_give_140 rfl (lv_at hl 1 rfl) ?_
  refine r_arr B hH hS 24 (kd := 101) (n := 1024) (by decide) (by decide) wf_X16_772 rfl rfl dX16_give_141 ?_
  refine lv_iconst (v := i32 4) B.1 B.2.1 dX16_give_144 (by decide) ?_
  refine lv_iload B.1 B.2.1 dX16_give_145 (lv_at hl 0 rfl) ?_
  obtain ⟨q17, h⟩ := h
  refine lv_imul B.1 B.2.1 dX16_give_147 ?_
  rw [i32_mul]
  refine lv_iconst (v := i32 3) B.1 B.2.1 dX16_give_148 (by decide) ?_
  obtain ⟨q18, h⟩ := h
  refine lv_iadd B.1 B.2.1 dX16_give_149 ?_
  rw [i32_add]
  refine lv_lload B.1 B.2.1 dX16_give_150 (lv_at hl 7 rfl) ?_
  obtain ⟨q19, h⟩ := h
  obtain ⟨σ31, eσ31⟩ : ∃ z, z = pJ σ30 (ra 24) ((4 * ((64 * v1) + (gI σ (ra 22) v1.toNat))) + 3).toNat v9 := ⟨_, rfl⟩
  have h := h σ31 eσ31
  refine x_last B K.2.1 hH (hS.ar (k := 24) (kd := 101) (n := 1024) (by decide)) (by decide) q19 dX16_give_152 (fun H locs hH => ?_)
  have hH : Hd D cA A s (pJ σ30 (ra 24) ((4 * ((64 * v1) + (gI σ (ra 22) v1.toNat))) + 3).toNat v9) H locs := hH
  rw [← eσ31] at hH
  have hGσ31 : RG σ31 := by rw [eσ31]; exact hGσ30.pJ
  have hS : Shp dm ra jx rm σ31 := by rw [eσ31]; exact hS
  have hc : CB n0 s0 σ31 := by rw [eσ31]; exact hc
  rw [show gc σ30 = gc σ31 by rw [eσ31], show gs σ30 = gs σ31 by rw [eσ31]]
  refine lv_aload_n B.1 B.2.1 dX16_give_153 rfl (lv_at hl 1 rfl) ?_
  refine r_arr B hH hS 22 (kd := 100) (n := 4) (by decide) (by decide) wf_X16_763 rfl rfl dX16_give_154 ?_
  refine lv_iload_n B.1 B.2.1 dX16_give_157 rfl (lv_at hl 2 rfl) ?_
  refine lv_dup2_11 B.1 B.2.1 dX16_give_158 rfl rfl ?_
  obtain ⟨q21, h⟩ := h
  refine x_iald B K.2.1 hH (hS.ar (k := 22) (kd := 100) (n := 4) (by decide)) (by decide) q21 dX16_give_159 ?_
  refine lv_iconst (v := i32 1) B.1 B.2.1 dX16_give_160 (by decide) ?_
  obtain ⟨q22, h⟩ := h
  refine lv_iadd B.1 B.2.1 dX16_give_161 ?_
  rw [i32_add]
  obtain ⟨q23, h⟩ := h
  obtain ⟨σ32, eσ32⟩ : ∃ z, z = pI σ31 (ra 22) v1.toNat ((gI σ31 (ra 22) v1.toNat) + 1) := ⟨_, rfl⟩
  have h := h σ32 eσ32
  refine x_iast B K.2.1 hH (hS.ar (k := 22) (kd := 100) (n := 4) (by decide)) (by decide) q23 dX16_give_162 (fun H locs hH => ?_)
  have hH : Hd D cA A s (pI σ31 (ra 22) v1.toNat ((gI σ31 (ra 22) v1.toNat) + 1)) H locs := hH
  rw [← eσ32] at hH
  have hGσ32 : RG σ32 := by rw [eσ32]; exact hGσ31.pI q22
  have hS : Shp dm ra jx rm σ32 := by rw [eσ32]; exact hS
  have hc : CB n0 s0 σ32 := by rw [eσ32]; exact hc
  rw [show gc σ31 = gc σ32 by rw [eσ32], show gs σ31 = gs σ32 by rw [eσ32]]
  refine lv_aload_n B.1 B.2.1 dX16_give_163 rfl (lv_at hl 1 rfl) ?_
  refine r_arr B hH hS 22 (kd := 100) (n := 4) (by decide) (by decide) wf_X16_763 rfl rfl dX16_give_164 ?_
  refine lv_iload_n B.1 B.2.1 dX16_give_167 rfl (lv_at hl 2 rfl) ?_
  obtain ⟨q25, h⟩ := h
  refine x_iald B K.2.1 hH (hS.ar (k := 22) (kd := 100) (n := 4) (by decide)) (by decide) q25 dX16_give_168 ?_
  refine lv_iconst (v := i32 1) B.1 B.2.1 dX16_give_169 (by decide) ?_
  obtain ⟨q26, h⟩ := h
  refine lv_isub B.1 B.2.1 dX16_give_170 ?_
  rw [i32_sub]
  exact hQ _ _ _ _ _ _ q26 dX16_give_171 hH hc h hGσ32 hS
set_option maxRecDepth 20000 in
theorem a_X16_give_80 {Q : Sg → Int → Prop} {X : Sg → String → Prop} (K : MC R p s m args c cX16_give 12 RX16 D cA tys A n0 s0 1 25 []) (hQ : HQI p l e R s m args below meth c cX16_give D cA A n0 s0 QM dm ra jx rm Q) (hX : HX p l e R s m args below meth c 12 D cA A n0 s0 QM dm ra jx rm X) : ∀ (σ : Sg), w_X16_give_80 ra jx rm Q X σ → RG σ → Shp dm ra jx rm σ → JJ p l e R s m args below meth c 12 D cA A n0 s0 QM σ 80 [(0, .ref rm)] [] := by
  intro σ h hGσ hS H locs ls hH hl hc
  have B := K.1
  unfold w_X16_give_80 at h
  refine lv_iconst (v := i32 0) B.1 B.2.1 dX16_give_80 (by decide) ?_
  exact hQ _ _ _ _ _ _ (by unfold rng; omega) dX16_give_81 hH hc h hGσ hS
set_option maxRecDepth 20000 in
theorem a_X16_give_70 {Q : Sg → Int → Prop} {X : Sg → String → Prop} (K : MC R p s m args c cX16_give 12 RX16 D cA tys A n0 s0 1 25 []) (hQ : HQI p l e R s m args below meth c cX16_give D cA A n0 s0 QM dm ra jx rm Q) (hX : HX p l e R s m args below meth c 12 D cA A n0 s0 QM dm ra jx rm X) : ∀ (σ : Sg) (v1 : Int) (v2 : Int) (v3 : Int64) (v5 : Int64) (v7 : Int64) (v9 : Int64) (u0 : Int) (g1 : rng v1) (g2 : rng v2) (gu0 : rng u0), w_X16_give_70 ra jx rm Q X σ v1 v2 v3 v5 v7 v9 u0 → RG σ → Shp dm ra jx rm σ → JJ p l e R s m args below meth c 12 D cA A n0 s0 QM σ 70 [(0, .ref rm), (1, .int (i32 v1)), (2, .int (i32 v2)), (3, .long v3), (5, .long v5), (7, .long v7), (9, .long v9)] [.int (i32 u0), .ref rm] := by
  intro σ v1 v2 v3 v5 v7 v9 u0 g1 g2 gu0 h hGσ hS H locs ls hH hl hc
  have B := K.1
  unfold w_X16_give_70 at h
  obtain ⟨σ33, eσ33⟩ : ∃ z, z = pI σ rm 0 u0 := ⟨_, rfl⟩
  have h := h σ33 eσ33
  refine r_puti B hH hS 0 (ty := .int) (by decide) wf_X16_1 rfl rfl rfl rfl rfl rfl dX16_give_70 (fun H locs hH => ?_)
  have hH : Hd D cA A s (pI σ rm 0 u0) H locs := hH
  rw [← eσ33] at hH
  have hGσ33 : RG σ33 := by rw [eσ33]; exact hGσ.pI gu0
  have hS : Shp dm ra jx rm σ33 := by rw [eσ33]; exact hS
  have hc : CB n0 s0 σ33 := by rw [eσ33]; exact hc
  rw [show gc σ = gc σ33 by rw [eσ33], show gs σ = gs σ33 by rw [eσ33]]
  refine lv_aload_n B.1 B.2.1 dX16_give_73 rfl (lv_at hl 0 rfl) ?_
  refine r_geti B hH hS 0 (by decide) wf_X16_1 rfl rfl dX16_give_74 ?_
  refine lv_if_le (tgt := 82) B.1 B.2.1 dX16_give_77 (by decide) (fun h9 => ?_) (fun h9 => ?_)
  · rw [if_pos ((z_le (hGσ33 _ _)).mp h9)] at h
    exact a_X16_give_82 K hQ hX _ _ _ _ _ _ _ g1 g2 h hGσ33 hS _ _ _ hH (lv_sub (l' := [(0, .ref rm), (1, .int (i32 v1)), (2, .int (i32 v2)), (3, .long v3), (5, .long v5), (7, .long v7), (9, .long v9)]) hl [0, 1, 2, 3, 4, 5, 6] rfl) hc
  · rw [if_neg (fun q => h9 ((z_le (hGσ33 _ _)).mpr q))] at h
    exact a_X16_give_80 K hQ hX _ h hGσ33 hS _ _ _ hH (lv_sub (l' := [(0, .ref rm)]) hl [0] rfl) hc
set_option maxRecDepth 20000 in
theorem a_X16_give_34 {Q : Sg → Int → Prop} {X : Sg → String → Prop} (K : MC R p s m args c cX16_give 12 RX16 D cA tys A n0 s0 1 25 []) (hQ : HQI p l e R s m args below meth c cX16_give D cA A n0 s0 QM dm ra jx rm Q) (hX : HX p l e R s m args below meth c 12 D cA A n0 s0 QM dm ra jx rm X) : ∀ (σ : Sg) (v1 : Int) (v2 : Int) (v3 : Int64) (v5 : Int64) (v7 : Int64) (v9 : Int64) (g1 : rng v1) (g2 : rng v2), w_X16_give_34 ra jx rm Q X σ v1 v2 v3 v5 v7 v9 → RG σ → Shp dm ra jx rm σ → JJ p l e R s m args below meth c 12 D cA A n0 s0 QM σ 34 [(0, .ref rm), (1, .int (i32 v1)), (2, .int (i32 v2)), (3, .long v3), (5, .long v5), (7, .long v7), (9, .long v9)] [.ref rm] := by
  intro σ v1 v2 v3 v5 v7 v9 g1 g2 h hGσ hS H locs ls hH hl hc
  have B := K.1
  unfold w_X16_give_34 at h
  refine lv_iconst (v := i32 2) B.1 B.2.1 dX16_give_34 (by decide) ?_
  refine lv_goto (tgt := 70) B.1 B.2.1 dX16_give_35 (by decide) ?_
  exact a_X16_give_70 K hQ hX _ _ _ _ _ _ _ _ g1 g2 (by unfold rng; omega) h hGσ hS _ _ _ hH (lv_sub (l' := [(0, .ref rm), (1, .int (i32 v1)), (2, .int (i32 v2)), (3, .long v3), (5, .long v5), (7, .long v7), (9, .long v9)]) hl [0, 1, 2, 3, 4, 5, 6] rfl) hc
set_option maxRecDepth 20000 in
theorem a_X16_give_69 {Q : Sg → Int → Prop} {X : Sg → String → Prop} (K : MC R p s m args c cX16_give 12 RX16 D cA tys A n0 s0 1 25 []) (hQ : HQI p l e R s m args below meth c cX16_give D cA A n0 s0 QM dm ra jx rm Q) (hX : HX p l e R s m args below meth c 12 D cA A n0 s0 QM dm ra jx rm X) : ∀ (σ : Sg) (v1 : Int) (v2 : Int) (v3 : Int64) (v5 : Int64) (v7 : Int64) (v9 : Int64) (g1 : rng v1) (g2 : rng v2), w_X16_give_69 ra jx rm Q X σ v1 v2 v3 v5 v7 v9 → RG σ → Shp dm ra jx rm σ → JJ p l e R s m args below meth c 12 D cA A n0 s0 QM σ 69 [(0, .ref rm), (1, .int (i32 v1)), (2, .int (i32 v2)), (3, .long v3), (5, .long v5), (7, .long v7), (9, .long v9)] [.ref rm] := by
  intro σ v1 v2 v3 v5 v7 v9 g1 g2 h hGσ hS H locs ls hH hl hc
  have B := K.1
  unfold w_X16_give_69 at h
  refine lv_iconst (v := i32 0) B.1 B.2.1 dX16_give_69 (by decide) ?_
  exact a_X16_give_70 K hQ hX _ _ _ _ _ _ _ _ g1 g2 (by unfold rng; omega) h hGσ hS _ _ _ hH (lv_sub (l' := [(0, .ref rm), (1, .int (i32 v1)), (2, .int (i32 v2)), (3, .long v3), (5, .long v5), (7, .long v7), (9, .long v9)]) hl [0, 1, 2, 3, 4, 5, 6] rfl) hc
set_option maxRecDepth 20000 in
theorem a_X16_give_65 {Q : Sg → Int → Prop} {X : Sg → String → Prop} (K : MC R p s m args c cX16_give 12 RX16 D cA tys A n0 s0 1 25 []) (hQ : HQI p l e R s m args below meth c cX16_give D cA A n0 s0 QM dm ra jx rm Q) (hX : HX p l e R s m args below meth c 12 D cA A n0 s0 QM dm ra jx rm X) : ∀ (σ : Sg) (v1 : Int) (v2 : Int) (v3 : Int64) (v5 : Int64) (v7 : Int64) (v9 : Int64) (g1 : rng v1) (g2 : rng v2), w_X16_give_65 ra jx rm Q X σ v1 v2 v3 v5 v7 v9 → RG σ → Shp dm ra jx rm σ → JJ p l e R s m args below meth c 12 D cA A n0 s0 QM σ 65 [(0, .ref rm), (1, .int (i32 v1)), (2, .int (i32 v2)), (3, .long v3), (5, .long v5), (7, .long v7), (9, .long v9)] [.ref rm] := by
  intro σ v1 v2 v3 v5 v7 v9 g1 g2 h hGσ hS H locs ls hH hl hc
  have B := K.1
  unfold w_X16_give_65 at h
  refine lv_iconst (v := i32 4) B.1 B.2.1 dX16_give_65 (by decide) ?_
  refine lv_goto (tgt := 70) B.1 B.2.1 dX16_give_66 (by decide) ?_
  exact a_X16_give_70 K hQ hX _ _ _ _ _ _ _ _ g1 g2 (by unfold rng; omega) h hGσ hS _ _ _ hH (lv_sub (l' := [(0, .ref rm), (1, .int (i32 v1)), (2, .int (i32 v2)), (3, .long v3), (5, .long v5), (7, .long v7), (9, .long v9)]) hl [0, 1, 2, 3, 4, 5, 6] rfl) hc
set_option maxRecDepth 20000 in
theorem a_X16_give_54 {Q : Sg → Int → Prop} {X : Sg → String → Prop} (K : MC R p s m args c cX16_give 12 RX16 D cA tys A n0 s0 1 25 []) (hQ : HQI p l e R s m args below meth c cX16_give D cA A n0 s0 QM dm ra jx rm Q) (hX : HX p l e R s m args below meth c 12 D cA A n0 s0 QM dm ra jx rm X) : ∀ (σ : Sg) (v1 : Int) (v2 : Int) (v3 : Int64) (v5 : Int64) (v7 : Int64) (v9 : Int64) (g1 : rng v1) (g2 : rng v2), w_X16_give_54 ra jx rm Q X σ v1 v2 v3 v5 v7 v9 → RG σ → Shp dm ra jx rm σ → JJ p l e R s m args below meth c 12 D cA A n0 s0 QM σ 54 [(0, .ref rm), (1, .int (i32 v1)), (2, .int (i32 v2)), (3, .long v3), (5, .long v5), (7, .long v7), (9, .long v9)] [.ref rm] := by
  intro σ v1 v2 v3 v5 v7 v9 g1 g2 h hGσ hS H locs ls hH hl hc
  have B := K.1
  unfold w_X16_give_54 at h
  refine lv_aload_n B.1 B.2.1 dX16_give_54 rfl (lv_at hl 0 rfl) ?_
  refine r_arr B hH hS 22 (kd := 100) (n := 4) (by decide) (by decide) wf_X16_763 rfl rfl dX16_give_55 ?_
  refine lv_iload_n B.1 B.2.1 dX16_give_58 rfl (lv_at hl 1 rfl) ?_
  obtain ⟨q1, h⟩ := h
  refine x_iald B K.2.1 hH (hS.ar (k := 22) (kd := 100) (n := 4) (by decide)) (by decide) q1 dX16_give_59 ?_
  refine lv_bipush (v := i32 64) B.1 B.2.1 dX16_give_60 (by decide) ?_
  refine lv_icmp_ne (tgt := 69) B.1 B.2.1 dX16_give_62 (by decide) (fun h9 => ?_) (fun h9 => ?_)
  · rw [if_pos (fun q => h9 ((i32_eq (hGσ _ _) (by unfold rng; omega)).mpr q))] at h
    exact a_X16_give_69 K hQ hX _ _ _ _ _ _ _ g1 g2 h hGσ hS _ _ _ hH (lv_sub (l' := [(0, .ref rm), (1, .int (i32 v1)), (2, .int (i32 v2)), (3, .long v3), (5, .long v5), (7, .long v7), (9, .long v9)]) hl [0, 1, 2, 3, 4, 5, 6] rfl) hc
  · rw [if_neg (fun q => q ((i32_eq (hGσ _ _) (by unfold rng; omega)).mp h9))] at h
    exact a_X16_give_65 K hQ hX _ _ _ _ _ _ _ g1 g2 h hGσ hS _ _ _ hH (lv_sub (l' := [(0, .ref rm), (1, .int (i32 v1)), (2, .int (i32 v2)), (3, .long v3), (5, .long v5), (7, .long v7), (9, .long v9)]) hl [0, 1, 2, 3, 4, 5, 6] rfl) hc
set_option maxRecDepth 20000 in
theorem a_X16_give_50 {Q : Sg → Int → Prop} {X : Sg → String → Prop} (K : MC R p s m args c cX16_give 12 RX16 D cA tys A n0 s0 1 25 []) (hQ : HQI p l e R s m args below meth c cX16_give D cA A n0 s0 QM dm ra jx rm Q) (hX : HX p l e R s m args below meth c 12 D cA A n0 s0 QM dm ra jx rm X) : ∀ (σ : Sg) (v1 : Int) (v2 : Int) (v3 : Int64) (v5 : Int64) (v7 : Int64) (v9 : Int64) (g1 : rng v1) (g2 : rng v2), w_X16_give_50 ra jx rm Q X σ v1 v2 v3 v5 v7 v9 → RG σ → Shp dm ra jx rm σ → JJ p l e R s m args below meth c 12 D cA A n0 s0 QM σ 50 [(0, .ref rm), (1, .int (i32 v1)), (2, .int (i32 v2)), (3, .long v3), (5, .long v5), (7, .long v7), (9, .long v9)] [.ref rm] := by
  intro σ v1 v2 v3 v5 v7 v9 g1 g2 h hGσ hS H locs ls hH hl hc
  have B := K.1
  unfold w_X16_give_50 at h
  refine lv_iconst (v := i32 3) B.1 B.2.1 dX16_give_50 (by decide) ?_
  refine lv_goto (tgt := 70) B.1 B.2.1 dX16_give_51 (by decide) ?_
  exact a_X16_give_70 K hQ hX _ _ _ _ _ _ _ _ g1 g2 (by unfold rng; omega) h hGσ hS _ _ _ hH (lv_sub (l' := [(0, .ref rm), (1, .int (i32 v1)), (2, .int (i32 v2)), (3, .long v3), (5, .long v5), (7, .long v7), (9, .long v9)]) hl [0, 1, 2, 3, 4, 5, 6] rfl) hc
set_option maxRecDepth 20000 in
theorem a_X16_give_38 {Q : Sg → Int → Prop} {X : Sg → String → Prop} (K : MC R p s m args c cX16_give 12 RX16 D cA tys A n0 s0 1 25 []) (hQ : HQI p l e R s m args below meth c cX16_give D cA A n0 s0 QM dm ra jx rm Q) (hX : HX p l e R s m args below meth c 12 D cA A n0 s0 QM dm ra jx rm X) : ∀ (σ : Sg) (v1 : Int) (v2 : Int) (v3 : Int64) (v5 : Int64) (v7 : Int64) (v9 : Int64) (g1 : rng v1) (g2 : rng v2), w_X16_give_38 ra jx rm Q X σ v1 v2 v3 v5 v7 v9 → RG σ → Shp dm ra jx rm σ → JJ p l e R s m args below meth c 12 D cA A n0 s0 QM σ 38 [(0, .ref rm), (1, .int (i32 v1)), (2, .int (i32 v2)), (3, .long v3), (5, .long v5), (7, .long v7), (9, .long v9)] [.ref rm] := by
  intro σ v1 v2 v3 v5 v7 v9 g1 g2 h hGσ hS H locs ls hH hl hc
  have B := K.1
  unfold w_X16_give_38 at h
  refine lv_iload_n B.1 B.2.1 dX16_give_38 rfl (lv_at hl 2 rfl) ?_
  refine lv_i2l B.1 B.2.1 dX16_give_39 (i32_i64 g2) ?_
  refine lv_lconst (v := 0) B.1 B.2.1 dX16_give_40 (by decide) ?_
  refine lv_ldc2 B.1 B.2.1 B.2.2.1 (B.2.2.2.1 _ (wk_X16_987)) dX16_give_41 ?_
  refine c_S B hH hl hc K.2.2.1 (As := [.long (Int64.ofInt v2), .long 0, .long 1000000]) (ok_X16_within K.2.1 σ (Int64.ofInt v2) 0 1000000 hGσ hS h) wc_X16_45 3 hd_X16_within ⟨Nat.le_trans (Nat.le_of_ble_eq_true rfl) K.2.2.2.1, Nat.le_trans (Nat.le_of_ble_eq_true rfl) K.2.2.2.2.1⟩ rfl (rest := [.ref rm]) rfl (Nat.le_of_ble_eq_true rfl) dX16_give_44 (fun σ34 w hq => ?_) (fun σ9 E9 hx9 => hX σ9 E9 _ _ _ (tb_out K.2.2.2.2.2 rfl) hx9.1 hx9.2.1 hx9.2.2)
  obtain ⟨r35, rfl, ⟨gr35, gzr35⟩, h, hGσ34, hS⟩ := hq
  intro H locs ls hH hl hc
  refine W.eq (g2 := F0 m 47 ls [.int (i32 r35), .ref rm]) (rfl) ?_
  try dsimp only at h
  refine lv_if_ne (tgt := 54) B.1 B.2.1 dX16_give_47 (by decide) (fun h9 => ?_) (fun h9 => ?_)
  · rw [if_pos (fun q => h9 ((z_eq gr35).mpr q))] at h
    exact a_X16_give_54 K hQ hX _ _ _ _ _ _ _ g1 g2 h hGσ34 hS _ _ _ hH (lv_sub (l' := [(0, .ref rm), (1, .int (i32 v1)), (2, .int (i32 v2)), (3, .long v3), (5, .long v5), (7, .long v7), (9, .long v9)]) hl [0, 1, 2, 3, 4, 5, 6] rfl) hc
  · rw [if_neg (fun q => q ((z_eq gr35).mp h9))] at h
    exact a_X16_give_50 K hQ hX _ _ _ _ _ _ _ g1 g2 h hGσ34 hS _ _ _ hH (lv_sub (l' := [(0, .ref rm), (1, .int (i32 v1)), (2, .int (i32 v2)), (3, .long v3), (5, .long v5), (7, .long v7), (9, .long v9)]) hl [0, 1, 2, 3, 4, 5, 6] rfl) hc
set_option maxRecDepth 20000 in
theorem a_X16_give_25 {Q : Sg → Int → Prop} {X : Sg → String → Prop} (K : MC R p s m args c cX16_give 12 RX16 D cA tys A n0 s0 1 25 []) (hQ : HQI p l e R s m args below meth c cX16_give D cA A n0 s0 QM dm ra jx rm Q) (hX : HX p l e R s m args below meth c 12 D cA A n0 s0 QM dm ra jx rm X) : ∀ (σ : Sg) (v1 : Int) (v2 : Int) (v3 : Int64) (v5 : Int64) (v7 : Int64) (v9 : Int64) (g1 : rng v1) (g2 : rng v2), w_X16_give_25 ra jx rm Q X σ v1 v2 v3 v5 v7 v9 → RG σ → Shp dm ra jx rm σ → JJ p l e R s m args below meth c 12 D cA A n0 s0 QM σ 25 [(0, .ref rm), (1, .int (i32 v1)), (2, .int (i32 v2)), (3, .long v3), (5, .long v5), (7, .long v7), (9, .long v9)] [.ref rm] := by
  intro σ v1 v2 v3 v5 v7 v9 g1 g2 h hGσ hS H locs ls hH hl hc
  have B := K.1
  unfold w_X16_give_25 at h
  refine lv_aload_n B.1 B.2.1 dX16_give_25 rfl (lv_at hl 0 rfl) ?_
  refine r_arr B hH hS 25 (kd := 103) (n := 4) (by decide) (by decide) wf_X16_779 rfl rfl dX16_give_26 ?_
  refine lv_iload_n B.1 B.2.1 dX16_give_29 rfl (lv_at hl 1 rfl) ?_
  obtain ⟨q1, h⟩ := h
  refine x_zald B K.2.1 hH (hS.ar (k := 25) (kd := 103) (n := 4) (by decide)) (by decide) q1 dX16_give_30 ?_
  refine lv_if_eq (tgt := 38) B.1 B.2.1 dX16_give_31 (by decide) (fun h9 => ?_) (fun h9 => ?_)
  · rw [if_pos ((z_eq (hGσ _ _)).mp h9)] at h
    exact a_X16_give_38 K hQ hX _ _ _ _ _ _ _ g1 g2 h hGσ hS _ _ _ hH (lv_sub (l' := [(0, .ref rm), (1, .int (i32 v1)), (2, .int (i32 v2)), (3, .long v3), (5, .long v5), (7, .long v7), (9, .long v9)]) hl [0, 1, 2, 3, 4, 5, 6] rfl) hc
  · rw [if_neg (fun q => h9 ((z_eq (hGσ _ _)).mpr q))] at h
    exact a_X16_give_34 K hQ hX _ _ _ _ _ _ _ g1 g2 h hGσ hS _ _ _ hH (lv_sub (l' := [(0, .ref rm), (1, .int (i32 v1)), (2, .int (i32 v2)), (3, .long v3), (5, .long v5), (7, .long v7), (9, .long v9)]) hl [0, 1, 2, 3, 4, 5, 6] rfl) hc
set_option maxRecDepth 20000 in
theorem a_X16_give_17 {Q : Sg → Int → Prop} {X : Sg → String → Prop} (K : MC R p s m args c cX16_give 12 RX16 D cA tys A n0 s0 1 25 []) (hQ : HQI p l e R s m args below meth c cX16_give D cA A n0 s0 QM dm ra jx rm Q) (hX : HX p l e R s m args below meth c 12 D cA A n0 s0 QM dm ra jx rm X) : ∀ (σ : Sg) (v1 : Int) (v2 : Int) (v3 : Int64) (v5 : Int64) (v7 : Int64) (v9 : Int64) (g1 : rng v1) (g2 : rng v2), w_X16_give_17 ra jx rm Q X σ v1 v2 v3 v5 v7 v9 → RG σ → Shp dm ra jx rm σ → JJ p l e R s m args below meth c 12 D cA A n0 s0 QM σ 17 [(0, .ref rm), (1, .int (i32 v1)), (2, .int (i32 v2)), (3, .long v3), (5, .long v5), (7, .long v7), (9, .long v9)] [.ref rm] := by
  intro σ v1 v2 v3 v5 v7 v9 g1 g2 h hGσ hS H locs ls hH hl hc
  have B := K.1
  unfold w_X16_give_17 at h
  refine lv_aload_n B.1 B.2.1 dX16_give_17 rfl (lv_at hl 0 rfl) ?_
  refine lv_iload_n B.1 B.2.1 dX16_give_18 rfl (lv_at hl 1 rfl) ?_
  refine c_V B hH hl hc K.2.2.1 (C := RX16) (T := TX16) (N := 123) (ci := 16) (As := [.int (i32 v1)]) (ok_X16_hasSource K.2.1 σ v1 g1 hGσ hS h) wc_X16_984 1 hd_X16_hasSource ⟨Nat.le_trans (Nat.le_of_ble_eq_true rfl) K.2.2.2.1, Nat.le_trans (Nat.le_of_ble_eq_true rfl) K.2.2.2.2.1⟩ hS.1.1 hS.1.2 (by decide) rfl rfl (rest := [.ref rm]) rfl (Nat.le_of_ble_eq_true rfl) dX16_give_19 (fun σ36 w hq => ?_) (fun σ9 E9 hx9 => hX σ9 E9 _ _ _ (tb_out K.2.2.2.2.2 rfl) hx9.1 hx9.2.1 hx9.2.2)
  obtain ⟨r37, rfl, ⟨gr37, gzr37⟩, h, hGσ36, hS⟩ := hq
  intro H locs ls hH hl hc
  refine W.eq (g2 := F0 m 22 ls [.int (i32 r37), .ref rm]) (rfl) ?_
  try dsimp only at h
  refine lv_if_eq (tgt := 34) B.1 B.2.1 dX16_give_22 (by decide) (fun h9 => ?_) (fun h9 => ?_)
  · rw [if_pos ((z_eq gr37).mp h9)] at h
    exact a_X16_give_34 K hQ hX _ _ _ _ _ _ _ g1 g2 h hGσ36 hS _ _ _ hH (lv_sub (l' := [(0, .ref rm), (1, .int (i32 v1)), (2, .int (i32 v2)), (3, .long v3), (5, .long v5), (7, .long v7), (9, .long v9)]) hl [0, 1, 2, 3, 4, 5, 6] rfl) hc
  · rw [if_neg (fun q => h9 ((z_eq gr37).mpr q))] at h
    exact a_X16_give_25 K hQ hX _ _ _ _ _ _ _ g1 g2 h hGσ36 hS _ _ _ hH (lv_sub (l' := [(0, .ref rm), (1, .int (i32 v1)), (2, .int (i32 v2)), (3, .long v3), (5, .long v5), (7, .long v7), (9, .long v9)]) hl [0, 1, 2, 3, 4, 5, 6] rfl) hc
set_option maxRecDepth 20000 in
theorem a_X16_give_13 {Q : Sg → Int → Prop} {X : Sg → String → Prop} (K : MC R p s m args c cX16_give 12 RX16 D cA tys A n0 s0 1 25 []) (hQ : HQI p l e R s m args below meth c cX16_give D cA A n0 s0 QM dm ra jx rm Q) (hX : HX p l e R s m args below meth c 12 D cA A n0 s0 QM dm ra jx rm X) : ∀ (σ : Sg) (v1 : Int) (v2 : Int) (v3 : Int64) (v5 : Int64) (v7 : Int64) (v9 : Int64) (g1 : rng v1) (g2 : rng v2), w_X16_give_13 ra jx rm Q X σ v1 v2 v3 v5 v7 v9 → RG σ → Shp dm ra jx rm σ → JJ p l e R s m args below meth c 12 D cA A n0 s0 QM σ 13 [(0, .ref rm), (1, .int (i32 v1)), (2, .int (i32 v2)), (3, .long v3), (5, .long v5), (7, .long v7), (9, .long v9)] [.ref rm] := by
  intro σ v1 v2 v3 v5 v7 v9 g1 g2 h hGσ hS H locs ls hH hl hc
  have B := K.1
  unfold w_X16_give_13 at h
  refine lv_iconst (v := i32 1) B.1 B.2.1 dX16_give_13 (by decide) ?_
  refine lv_goto (tgt := 70) B.1 B.2.1 dX16_give_14 (by decide) ?_
  exact a_X16_give_70 K hQ hX _ _ _ _ _ _ _ _ g1 g2 (by unfold rng; omega) h hGσ hS _ _ _ hH (lv_sub (l' := [(0, .ref rm), (1, .int (i32 v1)), (2, .int (i32 v2)), (3, .long v3), (5, .long v5), (7, .long v7), (9, .long v9)]) hl [0, 1, 2, 3, 4, 5, 6] rfl) hc
set_option maxRecDepth 20000 in
theorem a_X16_give_0 {Q : Sg → Int → Prop} {X : Sg → String → Prop} (K : MC R p s m args c cX16_give 12 RX16 D cA tys A n0 s0 1 25 []) (hQ : HQI p l e R s m args below meth c cX16_give D cA A n0 s0 QM dm ra jx rm Q) (hX : HX p l e R s m args below meth c 12 D cA A n0 s0 QM dm ra jx rm X) : ∀ (σ : Sg) (v1 : Int) (v2 : Int) (v3 : Int64) (v5 : Int64) (v7 : Int64) (v9 : Int64) (g1 : rng v1) (g2 : rng v2), w_X16_give_0 ra jx rm Q X σ v1 v2 v3 v5 v7 v9 → RG σ → Shp dm ra jx rm σ → JJ p l e R s m args below meth c 12 D cA A n0 s0 QM σ 0 [(0, .ref rm), (1, .int (i32 v1)), (2, .int (i32 v2)), (3, .long v3), (5, .long v5), (7, .long v7), (9, .long v9)] [] := by
  intro σ v1 v2 v3 v5 v7 v9 g1 g2 h hGσ hS H locs ls hH hl hc
  have B := K.1
  unfold w_X16_give_0 at h
  refine lv_aload_n B.1 B.2.1 dX16_give_0 rfl (lv_at hl 0 rfl) ?_
  refine lv_iload_n B.1 B.2.1 dX16_give_1 rfl (lv_at hl 1 rfl) ?_
  refine lv_i2l B.1 B.2.1 dX16_give_2 (i32_i64 g1) ?_
  refine lv_lconst (v := 0) B.1 B.2.1 dX16_give_3 (by decide) ?_
  refine lv_ldc2 B.1 B.2.1 B.2.2.1 (B.2.2.2.1 _ (wk_X16_186)) dX16_give_4 ?_
  refine c_S B hH hl hc K.2.2.1 (As := [.long (Int64.ofInt v1), .long 0, .long 3]) (ok_X16_within K.2.1 σ (Int64.ofInt v1) 0 3 hGσ hS h) wc_X16_45 3 hd_X16_within ⟨Nat.le_trans (Nat.le_of_ble_eq_true rfl) K.2.2.2.1, Nat.le_trans (Nat.le_of_ble_eq_true rfl) K.2.2.2.2.1⟩ rfl (rest := [.ref rm]) rfl (Nat.le_of_ble_eq_true rfl) dX16_give_7 (fun σ38 w hq => ?_) (fun σ9 E9 hx9 => hX σ9 E9 _ _ _ (tb_out K.2.2.2.2.2 rfl) hx9.1 hx9.2.1 hx9.2.2)
  obtain ⟨r39, rfl, ⟨gr39, gzr39⟩, h, hGσ38, hS⟩ := hq
  intro H locs ls hH hl hc
  refine W.eq (g2 := F0 m 10 ls [.int (i32 r39), .ref rm]) (rfl) ?_
  try dsimp only at h
  refine lv_if_ne (tgt := 17) B.1 B.2.1 dX16_give_10 (by decide) (fun h9 => ?_) (fun h9 => ?_)
  · rw [if_pos (fun q => h9 ((z_eq gr39).mpr q))] at h
    exact a_X16_give_17 K hQ hX _ _ _ _ _ _ _ g1 g2 h hGσ38 hS _ _ _ hH (lv_sub (l' := [(0, .ref rm), (1, .int (i32 v1)), (2, .int (i32 v2)), (3, .long v3), (5, .long v5), (7, .long v7), (9, .long v9)]) hl [0, 1, 2, 3, 4, 5, 6] rfl) hc
  · rw [if_neg (fun q => q ((z_eq gr39).mp h9))] at h
    exact a_X16_give_13 K hQ hX _ _ _ _ _ _ _ g1 g2 h hGσ38 hS _ _ _ hH (lv_sub (l' := [(0, .ref rm), (1, .int (i32 v1)), (2, .int (i32 v2)), (3, .long v3), (5, .long v5), (7, .long v7), (9, .long v9)]) hl [0, 1, 2, 3, 4, 5, 6] rfl) hc
theorem ok_X16_give (hT : Tys cA tys) {Q : Sg → Int → Prop} {X : Sg → String → Prop} (σ : Sg) (v1 : Int) (v2 : Int) (v3 : Int64) (v5 : Int64) (v7 : Int64) (v9 : Int64) (g1 : rng v1) (g2 : rng v2) (hG : RG σ) (hS : Shp dm ra jx rm σ) (h : wp_X16_give ra jx rm v1 v2 v3 v5 v7 v9 σ Q X) : Ok l D cA tys A yX16_give (.code yX16_give cX16_give 12 (some .int)) 1 25 [.ref rm, .int (i32 v1), .int (i32 v2), .long v3, .long v5, .long v7, .long v9] σ (QnI dm ra jx rm Q) (QxR dm ra jx rm X) := by
  unfold wp_X16_give at h
  exact ok_I (plainFor_of_name (by decide)) (by exact Nat.le_of_ble_eq_true rfl) hT (fun p e R s m args below meth c K hQ hX H locs ls hH hl hc => a_X16_give_0 K hQ hX σ v1 v2 v3 v5 v7 v9 g1 g2 h hG hS H locs ls hH (lv_sub (l' := [(0, .ref rm), (1, .int (i32 v1)), (2, .int (i32 v2)), (3, .long v3), (5, .long v5), (7, .long v7), (9, .long v9)]) hl [0, 1, 2, 3, 4, 5, 6] rfl) hc)
theorem dX16_order_0 : decode cX16_order 0 = .ok (.lload_n 1, 1) := by decide +kernel
theorem dX16_order_1 : decode cX16_order 1 = .ok (.lload 5, 2) := by decide +kernel
theorem dX16_order_3 : decode cX16_order 3 = .ok (.lcmp, 1) := by decide +kernel
theorem dX16_order_4 : decode cX16_order 4 = .ok (.ifCond .eq 16, 3) := by decide +kernel
theorem dX16_order_7 : decode cX16_order 7 = .ok (.lload_n 1, 1) := by decide +kernel
theorem dX16_order_8 : decode cX16_order 8 = .ok (.lload 5, 2) := by decide +kernel
theorem dX16_order_10 : decode cX16_order 10 = .ok (.lcmp, 1) := by decide +kernel
theorem dX16_order_11 : decode cX16_order 11 = .ok (.ifCond .ge 7, 3) := by decide +kernel
theorem dX16_order_14 : decode cX16_order 14 = .ok (.iconst (-1), 1) := by decide +kernel
theorem dX16_order_15 : decode cX16_order 15 = .ok (.goto 4, 3) := by decide +kernel
theorem dX16_order_18 : decode cX16_order 18 = .ok (.iconst 1, 1) := by decide +kernel
theorem dX16_order_19 : decode cX16_order 19 = .ok (.ireturn, 1) := by decide +kernel
theorem dX16_order_20 : decode cX16_order 20 = .ok (.iconst 0, 1) := by decide +kernel
theorem dX16_order_21 : decode cX16_order 21 = .ok (.istore 10, 2) := by decide +kernel
theorem dX16_order_23 : decode cX16_order 23 = .ok (.iload 10, 2) := by decide +kernel
theorem dX16_order_25 : decode cX16_order 25 = .ok (.iload 9, 2) := by decide +kernel
theorem dX16_order_27 : decode cX16_order 27 = .ok (.if_icmp .ge 53, 3) := by decide +kernel
theorem dX16_order_30 : decode cX16_order 30 = .ok (.aload_n 3, 1) := by decide +kernel
theorem dX16_order_31 : decode cX16_order 31 = .ok (.iload 4, 2) := by decide +kernel
theorem dX16_order_33 : decode cX16_order 33 = .ok (.iload 10, 2) := by decide +kernel
theorem dX16_order_35 : decode cX16_order 35 = .ok (.iadd, 1) := by decide +kernel
theorem dX16_order_36 : decode cX16_order 36 = .ok (.laload, 1) := by decide +kernel
theorem dX16_order_37 : decode cX16_order 37 = .ok (.aload 7, 2) := by decide +kernel
theorem dX16_order_39 : decode cX16_order 39 = .ok (.iload 8, 2) := by decide +kernel
theorem dX16_order_41 : decode cX16_order 41 = .ok (.iload 10, 2) := by decide +kernel
theorem dX16_order_43 : decode cX16_order 43 = .ok (.iadd, 1) := by decide +kernel
theorem dX16_order_44 : decode cX16_order 44 = .ok (.laload, 1) := by decide +kernel
theorem dX16_order_45 : decode cX16_order 45 = .ok (.lcmp, 1) := by decide +kernel
theorem dX16_order_46 : decode cX16_order 46 = .ok (.ifCond .eq 28, 3) := by decide +kernel
theorem dX16_order_49 : decode cX16_order 49 = .ok (.aload_n 3, 1) := by decide +kernel
theorem dX16_order_50 : decode cX16_order 50 = .ok (.iload 4, 2) := by decide +kernel
theorem dX16_order_52 : decode cX16_order 52 = .ok (.iload 10, 2) := by decide +kernel
theorem dX16_order_54 : decode cX16_order 54 = .ok (.iadd, 1) := by decide +kernel
theorem dX16_order_55 : decode cX16_order 55 = .ok (.laload, 1) := by decide +kernel
theorem dX16_order_56 : decode cX16_order 56 = .ok (.aload 7, 2) := by decide +kernel
theorem dX16_order_58 : decode cX16_order 58 = .ok (.iload 8, 2) := by decide +kernel
theorem dX16_order_60 : decode cX16_order 60 = .ok (.iload 10, 2) := by decide +kernel
theorem dX16_order_62 : decode cX16_order 62 = .ok (.iadd, 1) := by decide +kernel
theorem dX16_order_63 : decode cX16_order 63 = .ok (.laload, 1) := by decide +kernel
theorem dX16_order_64 : decode cX16_order 64 = .ok (.lcmp, 1) := by decide +kernel
theorem dX16_order_65 : decode cX16_order 65 = .ok (.ifCond .ge 7, 3) := by decide +kernel
theorem dX16_order_68 : decode cX16_order 68 = .ok (.iconst (-1), 1) := by decide +kernel
theorem dX16_order_69 : decode cX16_order 69 = .ok (.goto 4, 3) := by decide +kernel
theorem dX16_order_72 : decode cX16_order 72 = .ok (.iconst 1, 1) := by decide +kernel
theorem dX16_order_73 : decode cX16_order 73 = .ok (.ireturn, 1) := by decide +kernel
theorem dX16_order_74 : decode cX16_order 74 = .ok (.iinc 10 1, 3) := by decide +kernel
theorem dX16_order_77 : decode cX16_order 77 = .ok (.goto (-54), 3) := by decide +kernel
theorem dX16_order_80 : decode cX16_order 80 = .ok (.iconst 0, 1) := by decide +kernel
theorem dX16_order_81 : decode cX16_order 81 = .ok (.ireturn, 1) := by decide +kernel
set_option maxRecDepth 20000 in
theorem a_X16_order_80 {Q : Sg → Int → Prop} {X : Sg → String → Prop} (K : MC R p s m args c cX16_order 11 RX16 D cA tys A n0 s0 0 0 []) (hQ : HQI p l e R s m args below meth c cX16_order D cA A n0 s0 QM dm ra jx rm Q) (hX : HX p l e R s m args below meth c 11 D cA A n0 s0 QM dm ra jx rm X) : ∀ (σ : Sg), w_X16_order_80 ra jx rm Q X σ → RG σ → Shp dm ra jx rm σ → JJ p l e R s m args below meth c 11 D cA A n0 s0 QM σ 80 [(0, .ref rm)] [] := by
  intro σ h hGσ hS H locs ls hH hl hc
  have B := K.1
  unfold w_X16_order_80 at h
  refine lv_iconst (v := i32 0) B.1 B.2.1 dX16_order_80 (by decide) ?_
  exact hQ _ _ _ _ _ _ (by unfold rng; omega) dX16_order_81 hH hc h hGσ hS
set_option maxRecDepth 20000 in
theorem a_X16_order_74 {Q : Sg → Int → Prop} {X : Sg → String → Prop} (K : MC R p s m args c cX16_order 11 RX16 D cA tys A n0 s0 0 0 []) (hQ : HQI p l e R s m args below meth c cX16_order D cA A n0 s0 QM dm ra jx rm Q) (hX : HX p l e R s m args below meth c 11 D cA A n0 s0 QM dm ra jx rm X) {K23 : Sg → Option Nat → Int → Option Nat → Int → Int → Int → Prop} (hK23 : ∀ (σ : Sg) (v3 : Option Nat) (v4 : Int) (v7 : Option Nat) (v8 : Int) (v9 : Int) (v10 : Int) (g4 : rng v4) (g8 : rng v8) (g9 : rng v9) (g10 : rng v10), K23 σ v3 v4 v7 v8 v9 v10 → RG σ → Shp dm ra jx rm σ → JJ p l e R s m args below meth c 11 D cA A n0 s0 QM σ 23 [(0, .ref rm), (3, va_rf v3), (4, .int (i32 v4)), (7, va_rf v7), (8, .int (i32 v8)), (9, .int (i32 v9)), (10, .int (i32 v10))] []) : ∀ (σ : Sg) (v3 : Option Nat) (v4 : Int) (v7 : Option Nat) (v8 : Int) (v9 : Int) (v10 : Int) (g4 : rng v4) (g8 : rng v8) (g9 : rng v9) (g10 : rng v10), w_X16_order_74 ra jx rm K23 Q X σ v3 v4 v7 v8 v9 v10 → RG σ → Shp dm ra jx rm σ → JJ p l e R s m args below meth c 11 D cA A n0 s0 QM σ 74 [(0, .ref rm), (3, va_rf v3), (4, .int (i32 v4)), (7, va_rf v7), (8, .int (i32 v8)), (9, .int (i32 v9)), (10, .int (i32 v10))] [] := by
  intro σ v3 v4 v7 v8 v9 v10 g4 g8 g9 g10 h hGσ hS H locs ls hH hl hc
  have B := K.1
  unfold w_X16_order_74 at h
  obtain ⟨q1, h⟩ := h
  refine lv_iinc (k := 6) (v := i32 (v10 + 1)) (lv' := [(10, .int (i32 (v10 + 1))), (0, .ref rm), (3, va_rf v3), (4, .int (i32 v4)), (7, va_rf v7), (8, .int (i32 v8)), (9, .int (i32 v9))]) B.1 B.2.1 dX16_order_74 hl rfl (i32_add _ _) (by decide) rfl (fun ls hl => ?_)
  refine lv_goto (tgt := 23) B.1 B.2.1 dX16_order_77 (by decide) ?_
  exact hK23 _ _ _ _ _ _ _ g4 g8 g9 q1 h hGσ hS _ _ _ hH (lv_sub (l' := [(0, .ref rm), (3, va_rf v3), (4, .int (i32 v4)), (7, va_rf v7), (8, .int (i32 v8)), (9, .int (i32 v9)), (10, .int (i32 (v10 + 1)))]) hl [1, 2, 3, 4, 5, 6, 0] rfl) hc
set_option maxRecDepth 20000 in
theorem a_X16_order_73 {Q : Sg → Int → Prop} {X : Sg → String → Prop} (K : MC R p s m args c cX16_order 11 RX16 D cA tys A n0 s0 0 0 []) (hQ : HQI p l e R s m args below meth c cX16_order D cA A n0 s0 QM dm ra jx rm Q) (hX : HX p l e R s m args below meth c 11 D cA A n0 s0 QM dm ra jx rm X) : ∀ (σ : Sg) (u0 : Int) (gu0 : rng u0), w_X16_order_73 ra jx rm Q X σ u0 → RG σ → Shp dm ra jx rm σ → JJ p l e R s m args below meth c 11 D cA A n0 s0 QM σ 73 [(0, .ref rm)] [.int (i32 u0)] := by
  intro σ u0 gu0 h hGσ hS H locs ls hH hl hc
  have B := K.1
  unfold w_X16_order_73 at h
  exact hQ _ _ _ _ _ _ gu0 dX16_order_73 hH hc h hGσ hS
set_option maxRecDepth 20000 in
theorem a_X16_order_72 {Q : Sg → Int → Prop} {X : Sg → String → Prop} (K : MC R p s m args c cX16_order 11 RX16 D cA tys A n0 s0 0 0 []) (hQ : HQI p l e R s m args below meth c cX16_order D cA A n0 s0 QM dm ra jx rm Q) (hX : HX p l e R s m args below meth c 11 D cA A n0 s0 QM dm ra jx rm X) : ∀ (σ : Sg), w_X16_order_72 ra jx rm Q X σ → RG σ → Shp dm ra jx rm σ → JJ p l e R s m args below meth c 11 D cA A n0 s0 QM σ 72 [(0, .ref rm)] [] := by
  intro σ h hGσ hS H locs ls hH hl hc
  have B := K.1
  unfold w_X16_order_72 at h
  refine lv_iconst (v := i32 1) B.1 B.2.1 dX16_order_72 (by decide) ?_
  exact a_X16_order_73 K hQ hX _ _ (by unfold rng; omega) h hGσ hS _ _ _ hH (lv_sub (l' := [(0, .ref rm)]) hl [0] rfl) hc
set_option maxRecDepth 20000 in
theorem a_X16_order_68 {Q : Sg → Int → Prop} {X : Sg → String → Prop} (K : MC R p s m args c cX16_order 11 RX16 D cA tys A n0 s0 0 0 []) (hQ : HQI p l e R s m args below meth c cX16_order D cA A n0 s0 QM dm ra jx rm Q) (hX : HX p l e R s m args below meth c 11 D cA A n0 s0 QM dm ra jx rm X) : ∀ (σ : Sg), w_X16_order_68 ra jx rm Q X σ → RG σ → Shp dm ra jx rm σ → JJ p l e R s m args below meth c 11 D cA A n0 s0 QM σ 68 [(0, .ref rm)] [] := by
  intro σ h hGσ hS H locs ls hH hl hc
  have B := K.1
  unfold w_X16_order_68 at h
  refine lv_iconst (v := i32 (-1)) B.1 B.2.1 dX16_order_68 (by decide) ?_
  refine lv_goto (tgt := 73) B.1 B.2.1 dX16_order_69 (by decide) ?_
  exact a_X16_order_73 K hQ hX _ _ (by unfold rng; omega) h hGσ hS _ _ _ hH (lv_sub (l' := [(0, .ref rm)]) hl [0] rfl) hc
set_option maxRecDepth 20000 in
theorem a_X16_order_49 {Q : Sg → Int → Prop} {X : Sg → String → Prop} (K : MC R p s m args c cX16_order 11 RX16 D cA tys A n0 s0 0 0 []) (hQ : HQI p l e R s m args below meth c cX16_order D cA A n0 s0 QM dm ra jx rm Q) (hX : HX p l e R s m args below meth c 11 D cA A n0 s0 QM dm ra jx rm X) : ∀ (σ : Sg) (v3 : Option Nat) (v4 : Int) (v7 : Option Nat) (v8 : Int) (v10 : Int) (g4 : rng v4) (g8 : rng v8) (g10 : rng v10), w_X16_order_49 ra jx rm Q X σ v3 v4 v7 v8 v10 → RG σ → Shp dm ra jx rm σ → JJ p l e R s m args below meth c 11 D cA A n0 s0 QM σ 49 [(0, .ref rm), (3, va_rf v3), (4, .int (i32 v4)), (7, va_rf v7), (8, .int (i32 v8)), (10, .int (i32 v10))] [] := by
  intro σ v3 v4 v7 v8 v10 g4 g8 g10 h hGσ hS H locs ls hH hl hc
  have B := K.1
  unfold w_X16_order_49 at h
  refine lv_aload_nQ B.1 B.2.1 dX16_order_49 rfl (lv_at hl 1 rfl) ?_
  refine lv_iload B.1 B.2.1 dX16_order_50 (lv_at hl 2 rfl) ?_
  refine lv_iload B.1 B.2.1 dX16_order_52 (lv_at hl 5 rfl) ?_
  obtain ⟨q1, h⟩ := h
  refine lv_iadd B.1 B.2.1 dX16_order_54 ?_
  rw [i32_add]
  obtain ⟨b17, n18, eb17, jb17, ib17, h⟩ := h
  refine W.eq (g2 := F0 m 55 ls [.int (i32 (v4 + v10)), .ref b17]) (by rw [eb17]; rfl) ?_
  refine x_lald B K.2.1 hH (hS.any jb17) (rAr_lt jb17) ib17 dX16_order_55 ?_
  refine lv_aloadQ B.1 B.2.1 dX16_order_56 (lv_at hl 3 rfl) ?_
  refine lv_iload B.1 B.2.1 dX16_order_58 (lv_at hl 4 rfl) ?_
  refine lv_iload B.1 B.2.1 dX16_order_60 (lv_at hl 5 rfl) ?_
  obtain ⟨q3, h⟩ := h
  refine lv_iadd B.1 B.2.1 dX16_order_62 ?_
  rw [i32_add]
  obtain ⟨b19, n20, eb19, jb19, ib19, h⟩ := h
  refine W.eq (g2 := F0 m 63 ls [.int (i32 (v8 + v10)), .ref b19, .long (gJ σ b17 (v4 + v10).toNat)]) (by rw [eb19]; rfl) ?_
  refine x_lald B K.2.1 hH (hS.any jb19) (rAr_lt jb19) ib19 dX16_order_63 ?_
  refine W.lcmp B.1 B.2.1 dX16_order_64 ?_
  refine lv_if_ge (tgt := 72) B.1 B.2.1 dX16_order_65 (by decide) (fun h9 => ?_) (fun h9 => ?_)
  · rw [if_pos ((lg_cmp_ge _ _).mp h9)] at h
    exact a_X16_order_72 K hQ hX _ h hGσ hS _ _ _ hH (lv_sub (l' := [(0, .ref rm)]) hl [0] rfl) hc
  · rw [if_neg (fun q => h9 ((lg_cmp_ge _ _).mpr q))] at h
    exact a_X16_order_68 K hQ hX _ h hGσ hS _ _ _ hH (lv_sub (l' := [(0, .ref rm)]) hl [0] rfl) hc
set_option maxRecDepth 20000 in
theorem a_X16_order_30 {Q : Sg → Int → Prop} {X : Sg → String → Prop} (K : MC R p s m args c cX16_order 11 RX16 D cA tys A n0 s0 0 0 []) (hQ : HQI p l e R s m args below meth c cX16_order D cA A n0 s0 QM dm ra jx rm Q) (hX : HX p l e R s m args below meth c 11 D cA A n0 s0 QM dm ra jx rm X) {K23 : Sg → Option Nat → Int → Option Nat → Int → Int → Int → Prop} (hK23 : ∀ (σ : Sg) (v3 : Option Nat) (v4 : Int) (v7 : Option Nat) (v8 : Int) (v9 : Int) (v10 : Int) (g4 : rng v4) (g8 : rng v8) (g9 : rng v9) (g10 : rng v10), K23 σ v3 v4 v7 v8 v9 v10 → RG σ → Shp dm ra jx rm σ → JJ p l e R s m args below meth c 11 D cA A n0 s0 QM σ 23 [(0, .ref rm), (3, va_rf v3), (4, .int (i32 v4)), (7, va_rf v7), (8, .int (i32 v8)), (9, .int (i32 v9)), (10, .int (i32 v10))] []) : ∀ (σ : Sg) (v3 : Option Nat) (v4 : Int) (v7 : Option Nat) (v8 : Int) (v9 : Int) (v10 : Int) (g4 : rng v4) (g8 : rng v8) (g9 : rng v9) (g10 : rng v10), w_X16_order_30 ra jx rm K23 Q X σ v3 v4 v7 v8 v9 v10 → RG σ → Shp dm ra jx rm σ → JJ p l e R s m args below meth c 11 D cA A n0 s0 QM σ 30 [(0, .ref rm), (3, va_rf v3), (4, .int (i32 v4)), (7, va_rf v7), (8, .int (i32 v8)), (9, .int (i32 v9)), (10, .int (i32 v10))] [] := by
  intro σ v3 v4 v7 v8 v9 v10 g4 g8 g9 g10 h hGσ hS H locs ls hH hl hc
  have B := K.1
  unfold w_X16_order_30 at h
  refine lv_aload_nQ B.1 B.2.1 dX16_order_30 rfl (lv_at hl 1 rfl) ?_
  refine lv_iload B.1 B.2.1 dX16_order_31 (lv_at hl 2 rfl) ?_
  refine lv_iload B.1 B.2.1 dX16_order_33 (lv_at hl 6 rfl) ?_
  obtain ⟨q1, h⟩ := h
  refine lv_iadd B.1 B.2.1 dX16_order_35 ?_
  rw [i32_add]
  obtain ⟨b21, n22, eb21, jb21, ib21, h⟩ := h
  refine W.eq (g2 := F0 m 36 ls [.int (i32 (v4 + v10)), .ref b21]) (by rw [eb21]; rfl) ?_
  refine x_lald B K.2.1 hH (hS.any jb21) (rAr_lt jb21) ib21 dX16_order_36 ?_
  refine lv_aloadQ B.1 B.2.1 dX16_order_37 (lv_at hl 3 rfl) ?_
  refine lv_iload B.1 B.2.1 dX16_order_39 (lv_at hl 4 rfl) ?_
  refine lv_iload B.1 B.2.1 dX16_order_41 (lv_at hl 6 rfl) ?_
  obtain ⟨q3, h⟩ := h
  refine lv_iadd B.1 B.2.1 dX16_order_43 ?_
  rw [i32_add]
  obtain ⟨b23, n24, eb23, jb23, ib23, h⟩ := h
  refine W.eq (g2 := F0 m 44 ls [.int (i32 (v8 + v10)), .ref b23, .long (gJ σ b21 (v4 + v10).toNat)]) (by rw [eb23]; rfl) ?_
  refine x_lald B K.2.1 hH (hS.any jb23) (rAr_lt jb23) ib23 dX16_order_44 ?_
  refine W.lcmp B.1 B.2.1 dX16_order_45 ?_
  refine lv_if_eq (tgt := 74) B.1 B.2.1 dX16_order_46 (by decide) (fun h9 => ?_) (fun h9 => ?_)
  · rw [if_pos ((lg_cmp_eq _ _).mp h9)] at h
    exact a_X16_order_74 K hQ hX hK23 _ _ _ _ _ _ _ g4 g8 g9 g10 h hGσ hS _ _ _ hH (lv_sub (l' := [(0, .ref rm), (3, va_rf v3), (4, .int (i32 v4)), (7, va_rf v7), (8, .int (i32 v8)), (9, .int (i32 v9)), (10, .int (i32 v10))]) hl [0, 1, 2, 3, 4, 5, 6] rfl) hc
  · rw [if_neg (fun q => h9 ((lg_cmp_eq _ _).mpr q))] at h
    exact a_X16_order_49 K hQ hX _ _ _ _ _ _ g4 g8 g10 h hGσ hS _ _ _ hH (lv_sub (l' := [(0, .ref rm), (3, va_rf v3), (4, .int (i32 v4)), (7, va_rf v7), (8, .int (i32 v8)), (10, .int (i32 v10))]) hl [0, 1, 2, 3, 4, 6] rfl) hc
set_option maxRecDepth 20000 in
theorem a_X16_order_23 {Q : Sg → Int → Prop} {X : Sg → String → Prop} (K : MC R p s m args c cX16_order 11 RX16 D cA tys A n0 s0 0 0 []) (hQ : HQI p l e R s m args below meth c cX16_order D cA A n0 s0 QM dm ra jx rm Q) (hX : HX p l e R s m args below meth c 11 D cA A n0 s0 QM dm ra jx rm X) {K23 : Sg → Option Nat → Int → Option Nat → Int → Int → Int → Prop} (hK23 : ∀ (σ : Sg) (v3 : Option Nat) (v4 : Int) (v7 : Option Nat) (v8 : Int) (v9 : Int) (v10 : Int) (g4 : rng v4) (g8 : rng v8) (g9 : rng v9) (g10 : rng v10), K23 σ v3 v4 v7 v8 v9 v10 → RG σ → Shp dm ra jx rm σ → JJ p l e R s m args below meth c 11 D cA A n0 s0 QM σ 23 [(0, .ref rm), (3, va_rf v3), (4, .int (i32 v4)), (7, va_rf v7), (8, .int (i32 v8)), (9, .int (i32 v9)), (10, .int (i32 v10))] []) : ∀ (σ : Sg) (v3 : Option Nat) (v4 : Int) (v7 : Option Nat) (v8 : Int) (v9 : Int) (v10 : Int) (g4 : rng v4) (g8 : rng v8) (g9 : rng v9) (g10 : rng v10), w_X16_order_23 ra jx rm K23 Q X σ v3 v4 v7 v8 v9 v10 → RG σ → Shp dm ra jx rm σ → JJ p l e R s m args below meth c 11 D cA A n0 s0 QM σ 23 [(0, .ref rm), (3, va_rf v3), (4, .int (i32 v4)), (7, va_rf v7), (8, .int (i32 v8)), (9, .int (i32 v9)), (10, .int (i32 v10))] [] := by
  intro σ v3 v4 v7 v8 v9 v10 g4 g8 g9 g10 h hGσ hS H locs ls hH hl hc
  have B := K.1
  unfold w_X16_order_23 at h
  refine lv_iload B.1 B.2.1 dX16_order_23 (lv_at hl 6 rfl) ?_
  refine lv_iload B.1 B.2.1 dX16_order_25 (lv_at hl 5 rfl) ?_
  refine lv_icmp_ge (tgt := 80) B.1 B.2.1 dX16_order_27 (by decide) (fun h9 => ?_) (fun h9 => ?_)
  · rw [if_pos ((i32_le g9 g10).mp h9)] at h
    exact a_X16_order_80 K hQ hX _ h hGσ hS _ _ _ hH (lv_sub (l' := [(0, .ref rm)]) hl [0] rfl) hc
  · rw [if_neg (fun q => h9 ((i32_le g9 g10).mpr q))] at h
    exact a_X16_order_30 K hQ hX hK23 _ _ _ _ _ _ _ g4 g8 g9 g10 h hGσ hS _ _ _ hH (lv_sub (l' := [(0, .ref rm), (3, va_rf v3), (4, .int (i32 v4)), (7, va_rf v7), (8, .int (i32 v8)), (9, .int (i32 v9)), (10, .int (i32 v10))]) hl [0, 1, 2, 3, 4, 5, 6] rfl) hc
theorem al_X16_order_23 {Q : Sg → Int → Prop} {X : Sg → String → Prop} (K : MC R p s m args c cX16_order 11 RX16 D cA tys A n0 s0 0 0 []) (hQ : HQI p l e R s m args below meth c cX16_order D cA A n0 s0 QM dm ra jx rm Q) (hX : HX p l e R s m args below meth c 11 D cA A n0 s0 QM dm ra jx rm X) : ∀ (n : Nat), ∀ (σ : Sg) (v3 : Option Nat) (v4 : Int) (v7 : Option Nat) (v8 : Int) (v9 : Int) (v10 : Int) (g4 : rng v4) (g8 : rng v8) (g9 : rng v9) (g10 : rng v10), wl_X16_order_23 ra jx rm Q X n σ v3 v4 v7 v8 v9 v10 → RG σ → Shp dm ra jx rm σ → JJ p l e R s m args below meth c 11 D cA A n0 s0 QM σ 23 [(0, .ref rm), (3, va_rf v3), (4, .int (i32 v4)), (7, va_rf v7), (8, .int (i32 v8)), (9, .int (i32 v9)), (10, .int (i32 v10))] [] := by
  intro n
  induction n with
  | zero => intro σ v3 v4 v7 v8 v9 v10 g4 g8 g9 g10 h; exact h.elim
  | succ n ih => exact fun σ v3 v4 v7 v8 v9 v10 g4 g8 g9 g10 h => a_X16_order_23 K hQ hX ih σ v3 v4 v7 v8 v9 v10 g4 g8 g9 g10 h
set_option maxRecDepth 20000 in
theorem a_X16_order_20 {Q : Sg → Int → Prop} {X : Sg → String → Prop} (K : MC R p s m args c cX16_order 11 RX16 D cA tys A n0 s0 0 0 []) (hQ : HQI p l e R s m args below meth c cX16_order D cA A n0 s0 QM dm ra jx rm Q) (hX : HX p l e R s m args below meth c 11 D cA A n0 s0 QM dm ra jx rm X) : ∀ (σ : Sg) (v3 : Option Nat) (v4 : Int) (v7 : Option Nat) (v8 : Int) (v9 : Int) (g4 : rng v4) (g8 : rng v8) (g9 : rng v9), w_X16_order_20 ra jx rm Q X σ v3 v4 v7 v8 v9 → RG σ → Shp dm ra jx rm σ → JJ p l e R s m args below meth c 11 D cA A n0 s0 QM σ 20 [(0, .ref rm), (3, va_rf v3), (4, .int (i32 v4)), (7, va_rf v7), (8, .int (i32 v8)), (9, .int (i32 v9))] [] := by
  intro σ v3 v4 v7 v8 v9 g4 g8 g9 h hGσ hS H locs ls hH hl hc
  have B := K.1
  unfold w_X16_order_20 at h
  refine lv_iconst (v := i32 0) B.1 B.2.1 dX16_order_20 (by decide) ?_
  refine lv_istore (lv' := [(10, .int (i32 0)), (0, .ref rm), (3, va_rf v3), (4, .int (i32 v4)), (7, va_rf v7), (8, .int (i32 v8)), (9, .int (i32 v9))]) B.1 B.2.1 dX16_order_21 hl (by decide) rfl (fun ls hl => ?_)
  obtain ⟨n9, h⟩ := h
  exact al_X16_order_23 K hQ hX n9 _ _ _ _ _ _ _ g4 g8 g9 (by unfold rng; omega) h hGσ hS _ _ _ hH (lv_sub (l' := [(0, .ref rm), (3, va_rf v3), (4, .int (i32 v4)), (7, va_rf v7), (8, .int (i32 v8)), (9, .int (i32 v9)), (10, .int (i32 0))]) hl [1, 2, 3, 4, 5, 6, 0] rfl) hc
set_option maxRecDepth 20000 in
theorem a_X16_order_19 {Q : Sg → Int → Prop} {X : Sg → String → Prop} (K : MC R p s m args c cX16_order 11 RX16 D cA tys A n0 s0 0 0 []) (hQ : HQI p l e R s m args below meth c cX16_order D cA A n0 s0 QM dm ra jx rm Q) (hX : HX p l e R s m args below meth c 11 D cA A n0 s0 QM dm ra jx rm X) : ∀ (σ : Sg) (u0 : Int) (gu0 : rng u0), w_X16_order_19 ra jx rm Q X σ u0 → RG σ → Shp dm ra jx rm σ → JJ p l e R s m args below meth c 11 D cA A n0 s0 QM σ 19 [(0, .ref rm)] [.int (i32 u0)] := by
  intro σ u0 gu0 h hGσ hS H locs ls hH hl hc
  have B := K.1
  unfold w_X16_order_19 at h
  exact hQ _ _ _ _ _ _ gu0 dX16_order_19 hH hc h hGσ hS
set_option maxRecDepth 20000 in
theorem a_X16_order_18 {Q : Sg → Int → Prop} {X : Sg → String → Prop} (K : MC R p s m args c cX16_order 11 RX16 D cA tys A n0 s0 0 0 []) (hQ : HQI p l e R s m args below meth c cX16_order D cA A n0 s0 QM dm ra jx rm Q) (hX : HX p l e R s m args below meth c 11 D cA A n0 s0 QM dm ra jx rm X) : ∀ (σ : Sg), w_X16_order_18 ra jx rm Q X σ → RG σ → Shp dm ra jx rm σ → JJ p l e R s m args below meth c 11 D cA A n0 s0 QM σ 18 [(0, .ref rm)] [] := by
  intro σ h hGσ hS H locs ls hH hl hc
  have B := K.1
  unfold w_X16_order_18 at h
  refine lv_iconst (v := i32 1) B.1 B.2.1 dX16_order_18 (by decide) ?_
  exact a_X16_order_19 K hQ hX _ _ (by unfold rng; omega) h hGσ hS _ _ _ hH (lv_sub (l' := [(0, .ref rm)]) hl [0] rfl) hc
set_option maxRecDepth 20000 in
theorem a_X16_order_14 {Q : Sg → Int → Prop} {X : Sg → String → Prop} (K : MC R p s m args c cX16_order 11 RX16 D cA tys A n0 s0 0 0 []) (hQ : HQI p l e R s m args below meth c cX16_order D cA A n0 s0 QM dm ra jx rm Q) (hX : HX p l e R s m args below meth c 11 D cA A n0 s0 QM dm ra jx rm X) : ∀ (σ : Sg), w_X16_order_14 ra jx rm Q X σ → RG σ → Shp dm ra jx rm σ → JJ p l e R s m args below meth c 11 D cA A n0 s0 QM σ 14 [(0, .ref rm)] [] := by
  intro σ h hGσ hS H locs ls hH hl hc
  have B := K.1
  unfold w_X16_order_14 at h
  refine lv_iconst (v := i32 (-1)) B.1 B.2.1 dX16_order_14 (by decide) ?_
  refine lv_goto (tgt := 19) B.1 B.2.1 dX16_order_15 (by decide) ?_
  exact a_X16_order_19 K hQ hX _ _ (by unfold rng; omega) h hGσ hS _ _ _ hH (lv_sub (l' := [(0, .ref rm)]) hl [0] rfl) hc
set_option maxRecDepth 20000 in
theorem a_X16_order_7 {Q : Sg → Int → Prop} {X : Sg → String → Prop} (K : MC R p s m args c cX16_order 11 RX16 D cA tys A n0 s0 0 0 []) (hQ : HQI p l e R s m args below meth c cX16_order D cA A n0 s0 QM dm ra jx rm Q) (hX : HX p l e R s m args below meth c 11 D cA A n0 s0 QM dm ra jx rm X) : ∀ (σ : Sg) (v1 : Int64) (v5 : Int64), w_X16_order_7 ra jx rm Q X σ v1 v5 → RG σ → Shp dm ra jx rm σ → JJ p l e R s m args below meth c 11 D cA A n0 s0 QM σ 7 [(0, .ref rm), (1, .long v1), (5, .long v5)] [] := by
  intro σ v1 v5 h hGσ hS H locs ls hH hl hc
  have B := K.1
  unfold w_X16_order_7 at h
  refine lv_lload_n B.1 B.2.1 dX16_order_7 rfl (lv_at hl 1 rfl) ?_
  refine lv_lload B.1 B.2.1 dX16_order_8 (lv_at hl 2 rfl) ?_
  refine W.lcmp B.1 B.2.1 dX16_order_10 ?_
  refine lv_if_ge (tgt := 18) B.1 B.2.1 dX16_order_11 (by decide) (fun h9 => ?_) (fun h9 => ?_)
  · rw [if_pos ((lg_cmp_ge _ _).mp h9)] at h
    exact a_X16_order_18 K hQ hX _ h hGσ hS _ _ _ hH (lv_sub (l' := [(0, .ref rm)]) hl [0] rfl) hc
  · rw [if_neg (fun q => h9 ((lg_cmp_ge _ _).mpr q))] at h
    exact a_X16_order_14 K hQ hX _ h hGσ hS _ _ _ hH (lv_sub (l' := [(0, .ref rm)]) hl [0] rfl) hc
set_option maxRecDepth 20000 in
theorem a_X16_order_0 {Q : Sg → Int → Prop} {X : Sg → String → Prop} (K : MC R p s m args c cX16_order 11 RX16 D cA tys A n0 s0 0 0 []) (hQ : HQI p l e R s m args below meth c cX16_order D cA A n0 s0 QM dm ra jx rm Q) (hX : HX p l e R s m args below meth c 11 D cA A n0 s0 QM dm ra jx rm X) : ∀ (σ : Sg) (v1 : Int64) (v3 : Option Nat) (v4 : Int) (v5 : Int64) (v7 : Option Nat) (v8 : Int) (v9 : Int) (g4 : rng v4) (g8 : rng v8) (g9 : rng v9), w_X16_order_0 ra jx rm Q X σ v1 v3 v4 v5 v7 v8 v9 → RG σ → Shp dm ra jx rm σ → JJ p l e R s m args below meth c 11 D cA A n0 s0 QM σ 0 [(0, .ref rm), (1, .long v1), (3, va_rf v3), (4, .int (i32 v4)), (5, .long v5), (7, va_rf v7), (8, .int (i32 v8)), (9, .int (i32 v9))] [] := by
  intro σ v1 v3 v4 v5 v7 v8 v9 g4 g8 g9 h hGσ hS H locs ls hH hl hc
  have B := K.1
  unfold w_X16_order_0 at h
  refine lv_lload_n B.1 B.2.1 dX16_order_0 rfl (lv_at hl 1 rfl) ?_
  refine lv_lload B.1 B.2.1 dX16_order_1 (lv_at hl 4 rfl) ?_
  refine W.lcmp B.1 B.2.1 dX16_order_3 ?_
  refine lv_if_eq (tgt := 20) B.1 B.2.1 dX16_order_4 (by decide) (fun h9 => ?_) (fun h9 => ?_)
  · rw [if_pos ((lg_cmp_eq _ _).mp h9)] at h
    exact a_X16_order_20 K hQ hX _ _ _ _ _ _ g4 g8 g9 h hGσ hS _ _ _ hH (lv_sub (l' := [(0, .ref rm), (3, va_rf v3), (4, .int (i32 v4)), (7, va_rf v7), (8, .int (i32 v8)), (9, .int (i32 v9))]) hl [0, 2, 3, 5, 6, 7] rfl) hc
  · rw [if_neg (fun q => h9 ((lg_cmp_eq _ _).mpr q))] at h
    exact a_X16_order_7 K hQ hX _ _ _ h hGσ hS _ _ _ hH (lv_sub (l' := [(0, .ref rm), (1, .long v1), (5, .long v5)]) hl [0, 1, 4] rfl) hc
theorem ok_X16_order (hT : Tys cA tys) {Q : Sg → Int → Prop} {X : Sg → String → Prop} (σ : Sg) (v1 : Int64) (v3 : Option Nat) (v4 : Int) (v5 : Int64) (v7 : Option Nat) (v8 : Int) (v9 : Int) (g4 : rng v4) (g8 : rng v8) (g9 : rng v9) (hG : RG σ) (hS : Shp dm ra jx rm σ) (h : wp_X16_order ra jx rm v1 v3 v4 v5 v7 v8 v9 σ Q X) : Ok l D cA tys A yX16_order (.code yX16_order cX16_order 11 (some .int)) 0 0 [.ref rm, .long v1, va_rf v3, .int (i32 v4), .long v5, va_rf v7, .int (i32 v8), .int (i32 v9)] σ (QnI dm ra jx rm Q) (QxR dm ra jx rm X) := by
  unfold wp_X16_order at h
  exact ok_I (plainFor_of_name (by decide)) (by cases v3 <;> cases v7 <;> exact Nat.le_of_ble_eq_true rfl) hT (fun p e R s m args below meth c K hQ hX H locs ls hH hl hc => a_X16_order_0 K hQ hX σ v1 v3 v4 v5 v7 v8 v9 g4 g8 g9 h hG hS H locs ls hH (lv_sub (l' := [(0, .ref rm), (1, .long v1), (3, va_rf v3), (4, .int (i32 v4)), (5, .long v5), (7, va_rf v7), (8, .int (i32 v8)), (9, .int (i32 v9))]) hl [0, 1, 2, 3, 4, 5, 6, 7] (by cases v3 <;> cases v7 <;> rfl)) hc)
theorem dX16_orderOf_0 : decode cX16_orderOf 0 = .ok (.aload_n 0, 1) := by decide +kernel
theorem dX16_orderOf_1 : decode cX16_orderOf 1 = .ok (.aload_n 0, 1) := by decide +kernel
theorem dX16_orderOf_2 : decode cX16_orderOf 2 = .ok (.getfield 522, 3) := by decide +kernel
theorem dX16_orderOf_5 : decode cX16_orderOf 5 = .ok (.iload_n 1, 1) := by decide +kernel
theorem dX16_orderOf_6 : decode cX16_orderOf 6 = .ok (.laload, 1) := by decide +kernel
theorem dX16_orderOf_7 : decode cX16_orderOf 7 = .ok (.aload_n 0, 1) := by decide +kernel
theorem dX16_orderOf_8 : decode cX16_orderOf 8 = .ok (.getfield 528, 3) := by decide +kernel
theorem dX16_orderOf_11 : decode cX16_orderOf 11 = .ok (.bipush 8, 2) := by decide +kernel
theorem dX16_orderOf_13 : decode cX16_orderOf 13 = .ok (.iload_n 1, 1) := by decide +kernel
theorem dX16_orderOf_14 : decode cX16_orderOf 14 = .ok (.imul, 1) := by decide +kernel
theorem dX16_orderOf_15 : decode cX16_orderOf 15 = .ok (.aload_n 0, 1) := by decide +kernel
theorem dX16_orderOf_16 : decode cX16_orderOf 16 = .ok (.getfield 522, 3) := by decide +kernel
theorem dX16_orderOf_19 : decode cX16_orderOf 19 = .ok (.iload_n 2, 1) := by decide +kernel
theorem dX16_orderOf_20 : decode cX16_orderOf 20 = .ok (.laload, 1) := by decide +kernel
theorem dX16_orderOf_21 : decode cX16_orderOf 21 = .ok (.aload_n 0, 1) := by decide +kernel
theorem dX16_orderOf_22 : decode cX16_orderOf 22 = .ok (.getfield 528, 3) := by decide +kernel
theorem dX16_orderOf_25 : decode cX16_orderOf 25 = .ok (.bipush 8, 2) := by decide +kernel
theorem dX16_orderOf_27 : decode cX16_orderOf 27 = .ok (.iload_n 2, 1) := by decide +kernel
theorem dX16_orderOf_28 : decode cX16_orderOf 28 = .ok (.imul, 1) := by decide +kernel
theorem dX16_orderOf_29 : decode cX16_orderOf 29 = .ok (.iload_n 3, 1) := by decide +kernel
theorem dX16_orderOf_30 : decode cX16_orderOf 30 = .ok (.invokevirtual 534, 3) := by decide +kernel
theorem dX16_orderOf_33 : decode cX16_orderOf 33 = .ok (.ireturn, 1) := by decide +kernel
set_option maxRecDepth 20000 in
theorem a_X16_orderOf_0 {Q : Sg → Int → Prop} {X : Sg → String → Prop} (K : MC R p s m args c cX16_orderOf 4 RX16 D cA tys A n0 s0 1 30 []) (hQ : HQI p l e R s m args below meth c cX16_orderOf D cA A n0 s0 QM dm ra jx rm Q) (hX : HX p l e R s m args below meth c 4 D cA A n0 s0 QM dm ra jx rm X) : ∀ (σ : Sg) (v1 : Int) (v2 : Int) (v3 : Int) (g1 : rng v1) (g2 : rng v2) (g3 : rng v3), w_X16_orderOf_0 ra jx rm Q X σ v1 v2 v3 → RG σ → Shp dm ra jx rm σ → JJ p l e R s m args below meth c 4 D cA A n0 s0 QM σ 0 [(0, .ref rm), (1, .int (i32 v1)), (2, .int (i32 v2)), (3, .int (i32 v3))] [] := by
  intro σ v1 v2 v3 g1 g2 g3 h hGσ hS H locs ls hH hl hc
  have B := K.1
  unfold w_X16_orderOf_0 at h
  refine lv_aload_n B.1 B.2.1 dX16_orderOf_0 rfl (lv_at hl 0 rfl) ?_
  refine lv_aload_n B.1 B.2.1 dX16_orderOf_1 rfl (lv_at hl 0 rfl) ?_
  refine r_arr B hH hS 71 (kd := 101) (n := 4000) (by decide) (by decide) wf_X16_522 rfl rfl dX16_orderOf_2 ?_
  refine lv_iload_n B.1 B.2.1 dX16_orderOf_5 rfl (lv_at hl 1 rfl) ?_
  obtain ⟨q1, h⟩ := h
  refine x_lald B K.2.1 hH (hS.ar (k := 71) (kd := 101) (n := 4000) (by decide)) (by decide) q1 dX16_orderOf_6 ?_
  refine lv_aload_n B.1 B.2.1 dX16_orderOf_7 rfl (lv_at hl 0 rfl) ?_
  refine r_arr B hH hS 73 (kd := 101) (n := 32000) (by decide) (by decide) wf_X16_528 rfl rfl dX16_orderOf_8 ?_
  refine lv_bipush (v := i32 8) B.1 B.2.1 dX16_orderOf_11 (by decide) ?_
  refine lv_iload_n B.1 B.2.1 dX16_orderOf_13 rfl (lv_at hl 1 rfl) ?_
  obtain ⟨q2, h⟩ := h
  refine lv_imul B.1 B.2.1 dX16_orderOf_14 ?_
  rw [i32_mul]
  refine lv_aload_n B.1 B.2.1 dX16_orderOf_15 rfl (lv_at hl 0 rfl) ?_
  refine r_arr B hH hS 71 (kd := 101) (n := 4000) (by decide) (by decide) wf_X16_522 rfl rfl dX16_orderOf_16 ?_
  refine lv_iload_n B.1 B.2.1 dX16_orderOf_19 rfl (lv_at hl 2 rfl) ?_
  obtain ⟨q3, h⟩ := h
  refine x_lald B K.2.1 hH (hS.ar (k := 71) (kd := 101) (n := 4000) (by decide)) (by decide) q3 dX16_orderOf_20 ?_
  refine lv_aload_n B.1 B.2.1 dX16_orderOf_21 rfl (lv_at hl 0 rfl) ?_
  refine r_arr B hH hS 73 (kd := 101) (n := 32000) (by decide) (by decide) wf_X16_528 rfl rfl dX16_orderOf_22 ?_
  refine lv_bipush (v := i32 8) B.1 B.2.1 dX16_orderOf_25 (by decide) ?_
  refine lv_iload_n B.1 B.2.1 dX16_orderOf_27 rfl (lv_at hl 2 rfl) ?_
  obtain ⟨q4, h⟩ := h
  refine lv_imul B.1 B.2.1 dX16_orderOf_28 ?_
  rw [i32_mul]
  refine lv_iload_n B.1 B.2.1 dX16_orderOf_29 rfl (lv_at hl 3 rfl) ?_
  refine c_V B hH hl hc K.2.2.1 (C := RX16) (T := TX16) (N := 123) (ci := 16) (As := [.long (gJ σ (ra 71) v1.toNat), va_rf (some (ra 73)), .int (i32 (8 * v1)), .long (gJ σ (ra 71) v2.toNat), va_rf (some (ra 73)), .int (i32 (8 * v2)), .int (i32 v3)]) (ok_X16_order K.2.1 σ (gJ σ (ra 71) v1.toNat) (some (ra 73)) (8 * v1) (gJ σ (ra 71) v2.toNat) (some (ra 73)) (8 * v2) v3 q2 q4 g3 hGσ hS h) wc_X16_534 7 hd_X16_order ⟨Nat.le_trans (Nat.le_of_ble_eq_true rfl) K.2.2.2.1, Nat.le_trans (Nat.le_of_ble_eq_true rfl) K.2.2.2.2.1⟩ hS.1.1 hS.1.2 (by decide) rfl rfl (rest := []) rfl (Nat.le_of_ble_eq_true rfl) dX16_orderOf_30 (fun σ5 w hq => ?_) (fun σ9 E9 hx9 => hX σ9 E9 _ _ _ (tb_out K.2.2.2.2.2 rfl) hx9.1 hx9.2.1 hx9.2.2)
  obtain ⟨r6, rfl, gr6, h, hGσ5, hS⟩ := hq
  intro H locs ls hH hl hc
  refine W.eq (g2 := F0 m 33 ls [.int (i32 r6)]) (rfl) ?_
  try dsimp only at h
  exact hQ _ _ _ _ _ _ gr6 dX16_orderOf_33 hH hc h hGσ5 hS
theorem ok_X16_orderOf (hT : Tys cA tys) {Q : Sg → Int → Prop} {X : Sg → String → Prop} (σ : Sg) (v1 : Int) (v2 : Int) (v3 : Int) (g1 : rng v1) (g2 : rng v2) (g3 : rng v3) (hG : RG σ) (hS : Shp dm ra jx rm σ) (h : wp_X16_orderOf ra jx rm v1 v2 v3 σ Q X) : Ok l D cA tys A yX16_orderOf (.code yX16_orderOf cX16_orderOf 4 (some .int)) 1 30 [.ref rm, .int (i32 v1), .int (i32 v2), .int (i32 v3)] σ (QnI dm ra jx rm Q) (QxR dm ra jx rm X) := by
  unfold wp_X16_orderOf at h
  exact ok_I (plainFor_of_name (by decide)) (by exact Nat.le_of_ble_eq_true rfl) hT (fun p e R s m args below meth c K hQ hX H locs ls hH hl hc => a_X16_orderOf_0 K hQ hX σ v1 v2 v3 g1 g2 g3 h hG hS H locs ls hH (lv_sub (l' := [(0, .ref rm), (1, .int (i32 v1)), (2, .int (i32 v2)), (3, .int (i32 v3))]) hl [0, 1, 2, 3] rfl) hc)
theorem dX16_greatestOf_0 : decode cX16_greatestOf 0 = .ok (.iconst (-1), 1) := by decide +kernel
theorem dX16_greatestOf_1 : decode cX16_greatestOf 1 = .ok (.istore 7, 2) := by decide +kernel
theorem dX16_greatestOf_3 : decode cX16_greatestOf 3 = .ok (.aload_n 0, 1) := by decide +kernel
theorem dX16_greatestOf_4 : decode cX16_greatestOf 4 = .ok (.getfield 504, 3) := by decide +kernel
theorem dX16_greatestOf_7 : decode cX16_greatestOf 7 = .ok (.iload_n 1, 1) := by decide +kernel
theorem dX16_greatestOf_8 : decode cX16_greatestOf 8 = .ok (.iaload, 1) := by decide +kernel
theorem dX16_greatestOf_9 : decode cX16_greatestOf 9 = .ok (.istore 8, 2) := by decide +kernel
theorem dX16_greatestOf_11 : decode cX16_greatestOf 11 = .ok (.iload 8, 2) := by decide +kernel
theorem dX16_greatestOf_13 : decode cX16_greatestOf 13 = .ok (.iconst (-1), 1) := by decide +kernel
theorem dX16_greatestOf_14 : decode cX16_greatestOf 14 = .ok (.if_icmp .eq 89, 3) := by decide +kernel
theorem dX16_greatestOf_17 : decode cX16_greatestOf 17 = .ok (.aload_n 0, 1) := by decide +kernel
theorem dX16_greatestOf_18 : decode cX16_greatestOf 18 = .ok (.getfield 513, 3) := by decide +kernel
theorem dX16_greatestOf_21 : decode cX16_greatestOf 21 = .ok (.iload 8, 2) := by decide +kernel
theorem dX16_greatestOf_23 : decode cX16_greatestOf 23 = .ok (.iaload, 1) := by decide +kernel
theorem dX16_greatestOf_24 : decode cX16_greatestOf 24 = .ok (.iconst 1, 1) := by decide +kernel
theorem dX16_greatestOf_25 : decode cX16_greatestOf 25 = .ok (.if_icmp .ne 66, 3) := by decide +kernel
theorem dX16_greatestOf_28 : decode cX16_greatestOf 28 = .ok (.aload_n 0, 1) := by decide +kernel
theorem dX16_greatestOf_29 : decode cX16_greatestOf 29 = .ok (.getfield 519, 3) := by decide +kernel
theorem dX16_greatestOf_32 : decode cX16_greatestOf 32 = .ok (.iload 8, 2) := by decide +kernel
theorem dX16_greatestOf_34 : decode cX16_greatestOf 34 = .ok (.laload, 1) := by decide +kernel
theorem dX16_greatestOf_35 : decode cX16_greatestOf 35 = .ok (.lload_n 3, 1) := by decide +kernel
theorem dX16_greatestOf_36 : decode cX16_greatestOf 36 = .ok (.lcmp, 1) := by decide +kernel
theorem dX16_greatestOf_37 : decode cX16_greatestOf 37 = .ok (.ifCond .ne 54, 3) := by decide +kernel
theorem dX16_greatestOf_40 : decode cX16_greatestOf 40 = .ok (.aload_n 0, 1) := by decide +kernel
theorem dX16_greatestOf_41 : decode cX16_greatestOf 41 = .ok (.getfield 522, 3) := by decide +kernel
theorem dX16_greatestOf_44 : decode cX16_greatestOf 44 = .ok (.iload 8, 2) := by decide +kernel
theorem dX16_greatestOf_46 : decode cX16_greatestOf 46 = .ok (.laload, 1) := by decide +kernel
theorem dX16_greatestOf_47 : decode cX16_greatestOf 47 = .ok (.lload 5, 2) := by decide +kernel
theorem dX16_greatestOf_49 : decode cX16_greatestOf 49 = .ok (.lcmp, 1) := by decide +kernel
theorem dX16_greatestOf_50 : decode cX16_greatestOf 50 = .ok (.ifCond .gt 41, 3) := by decide +kernel
theorem dX16_greatestOf_53 : decode cX16_greatestOf 53 = .ok (.iload 7, 2) := by decide +kernel
theorem dX16_greatestOf_55 : decode cX16_greatestOf 55 = .ok (.iconst (-1), 1) := by decide +kernel
theorem dX16_greatestOf_56 : decode cX16_greatestOf 56 = .ok (.if_icmp .eq 31, 3) := by decide +kernel
theorem dX16_greatestOf_59 : decode cX16_greatestOf 59 = .ok (.aload_n 0, 1) := by decide +kernel
theorem dX16_greatestOf_60 : decode cX16_greatestOf 60 = .ok (.iload 8, 2) := by decide +kernel
theorem dX16_greatestOf_62 : decode cX16_greatestOf 62 = .ok (.iload 7, 2) := by decide +kernel
theorem dX16_greatestOf_64 : decode cX16_greatestOf 64 = .ok (.aload_n 0, 1) := by decide +kernel
theorem dX16_greatestOf_65 : decode cX16_greatestOf 65 = .ok (.getfield 356, 3) := by decide +kernel
theorem dX16_greatestOf_68 : decode cX16_greatestOf 68 = .ok (.getfield 178, 3) := by decide +kernel
theorem dX16_greatestOf_71 : decode cX16_greatestOf 71 = .ok (.aload_n 0, 1) := by decide +kernel
theorem dX16_greatestOf_72 : decode cX16_greatestOf 72 = .ok (.getfield 356, 3) := by decide +kernel
theorem dX16_greatestOf_75 : decode cX16_greatestOf 75 = .ok (.getfield 231, 3) := by decide +kernel
theorem dX16_greatestOf_78 : decode cX16_greatestOf 78 = .ok (.iload_n 2, 1) := by decide +kernel
theorem dX16_greatestOf_79 : decode cX16_greatestOf 79 = .ok (.iaload, 1) := by decide +kernel
theorem dX16_greatestOf_80 : decode cX16_greatestOf 80 = .ok (.iaload, 1) := by decide +kernel
theorem dX16_greatestOf_81 : decode cX16_greatestOf 81 = .ok (.invokevirtual 538, 3) := by decide +kernel
theorem dX16_greatestOf_84 : decode cX16_greatestOf 84 = .ok (.ifCond .le 7, 3) := by decide +kernel
theorem dX16_greatestOf_87 : decode cX16_greatestOf 87 = .ok (.iload 8, 2) := by decide +kernel
theorem dX16_greatestOf_89 : decode cX16_greatestOf 89 = .ok (.istore 7, 2) := by decide +kernel
theorem dX16_greatestOf_91 : decode cX16_greatestOf 91 = .ok (.aload_n 0, 1) := by decide +kernel
theorem dX16_greatestOf_92 : decode cX16_greatestOf 92 = .ok (.getfield 495, 3) := by decide +kernel
theorem dX16_greatestOf_95 : decode cX16_greatestOf 95 = .ok (.iload 8, 2) := by decide +kernel
theorem dX16_greatestOf_97 : decode cX16_greatestOf 97 = .ok (.iaload, 1) := by decide +kernel
theorem dX16_greatestOf_98 : decode cX16_greatestOf 98 = .ok (.istore 8, 2) := by decide +kernel
theorem dX16_greatestOf_100 : decode cX16_greatestOf 100 = .ok (.goto (-89), 3) := by decide +kernel
theorem dX16_greatestOf_103 : decode cX16_greatestOf 103 = .ok (.iload 7, 2) := by decide +kernel
theorem dX16_greatestOf_105 : decode cX16_greatestOf 105 = .ok (.ireturn, 1) := by decide +kernel
set_option maxRecDepth 20000 in
theorem a_X16_greatestOf_103 {Q : Sg → Int → Prop} {X : Sg → String → Prop} (K : MC R p s m args c cX16_greatestOf 9 RX16 D cA tys A n0 s0 2 53 []) (hQ : HQI p l e R s m args below meth c cX16_greatestOf D cA A n0 s0 QM dm ra jx rm Q) (hX : HX p l e R s m args below meth c 9 D cA A n0 s0 QM dm ra jx rm X) : ∀ (σ : Sg) (v7 : Int) (g7 : rng v7), w_X16_greatestOf_103 ra jx rm Q X σ v7 → RG σ → Shp dm ra jx rm σ → JJ p l e R s m args below meth c 9 D cA A n0 s0 QM σ 103 [(0, .ref rm), (7, .int (i32 v7))] [] := by
  intro σ v7 g7 h hGσ hS H locs ls hH hl hc
  have B := K.1
  unfold w_X16_greatestOf_103 at h
  refine lv_iload B.1 B.2.1 dX16_greatestOf_103 (lv_at hl 1 rfl) ?_
  exact hQ _ _ _ _ _ _ g7 dX16_greatestOf_105 hH hc h hGσ hS
set_option maxRecDepth 20000 in
theorem a_X16_greatestOf_91 {Q : Sg → Int → Prop} {X : Sg → String → Prop} (K : MC R p s m args c cX16_greatestOf 9 RX16 D cA tys A n0 s0 2 53 []) (hQ : HQI p l e R s m args below meth c cX16_greatestOf D cA A n0 s0 QM dm ra jx rm Q) (hX : HX p l e R s m args below meth c 9 D cA A n0 s0 QM dm ra jx rm X) {K11 : Sg → Int → Int64 → Int64 → Int → Int → Prop} (hK11 : ∀ (σ : Sg) (v2 : Int) (v3 : Int64) (v5 : Int64) (v7 : Int) (v8 : Int) (g2 : rng v2) (g7 : rng v7) (g8 : rng v8), K11 σ v2 v3 v5 v7 v8 → RG σ → Shp dm ra jx rm σ → JJ p l e R s m args below meth c 9 D cA A n0 s0 QM σ 11 [(0, .ref rm), (2, .int (i32 v2)), (3, .long v3), (5, .long v5), (7, .int (i32 v7)), (8, .int (i32 v8))] []) : ∀ (σ : Sg) (v2 : Int) (v3 : Int64) (v5 : Int64) (v7 : Int) (v8 : Int) (g2 : rng v2) (g7 : rng v7) (g8 : rng v8), w_X16_greatestOf_91 ra jx rm K11 Q X σ v2 v3 v5 v7 v8 → RG σ → Shp dm ra jx rm σ → JJ p l e R s m args below meth c 9 D cA A n0 s0 QM σ 91 [(0, .ref rm), (2, .int (i32 v2)), (3, .long v3), (5, .long v5), (7, .int (i32 v7)), (8, .int (i32 v8))] [] := by
  intro σ v2 v3 v5 v7 v8 g2 g7 g8 h hGσ hS H locs ls hH hl hc
  have B := K.1
  unfold w_X16_greatestOf_91 at h
  refine lv_aload_n B.1 B.2.1 dX16_greatestOf_91 rfl (lv_at hl 0 rfl) ?_
  refine r_arr B hH hS 75 (kd := 100) (n := 4000) (by decide) (by decide) wf_X16_495 rfl rfl dX16_greatestOf_92 ?_
  refine lv_iload B.1 B.2.1 dX16_greatestOf_95 (lv_at hl 5 rfl) ?_
  obtain ⟨q1, h⟩ := h
  refine x_iald B K.2.1 hH (hS.ar (k := 75) (kd := 100) (n := 4000) (by decide)) (by decide) q1 dX16_greatestOf_97 ?_
  refine lv_istore (lv' := [(8, .int (i32 (gI σ (ra 75) v8.toNat))), (0, .ref rm), (2, .int (i32 v2)), (3, .long v3), (5, .long v5), (7, .int (i32 v7))]) B.1 B.2.1 dX16_greatestOf_98 hl (by decide) rfl (fun ls hl => ?_)
  refine lv_goto (tgt := 11) B.1 B.2.1 dX16_greatestOf_100 (by decide) ?_
  exact hK11 _ _ _ _ _ _ g2 g7 (hGσ _ _) h hGσ hS _ _ _ hH (lv_sub (l' := [(0, .ref rm), (2, .int (i32 v2)), (3, .long v3), (5, .long v5), (7, .int (i32 v7)), (8, .int (i32 (gI σ (ra 75) v8.toNat)))]) hl [1, 2, 3, 4, 5, 0] rfl) hc
set_option maxRecDepth 20000 in
theorem a_X16_greatestOf_87 {Q : Sg → Int → Prop} {X : Sg → String → Prop} (K : MC R p s m args c cX16_greatestOf 9 RX16 D cA tys A n0 s0 2 53 []) (hQ : HQI p l e R s m args below meth c cX16_greatestOf D cA A n0 s0 QM dm ra jx rm Q) (hX : HX p l e R s m args below meth c 9 D cA A n0 s0 QM dm ra jx rm X) {K11 : Sg → Int → Int64 → Int64 → Int → Int → Prop} (hK11 : ∀ (σ : Sg) (v2 : Int) (v3 : Int64) (v5 : Int64) (v7 : Int) (v8 : Int) (g2 : rng v2) (g7 : rng v7) (g8 : rng v8), K11 σ v2 v3 v5 v7 v8 → RG σ → Shp dm ra jx rm σ → JJ p l e R s m args below meth c 9 D cA A n0 s0 QM σ 11 [(0, .ref rm), (2, .int (i32 v2)), (3, .long v3), (5, .long v5), (7, .int (i32 v7)), (8, .int (i32 v8))] []) : ∀ (σ : Sg) (v2 : Int) (v3 : Int64) (v5 : Int64) (v8 : Int) (g2 : rng v2) (g8 : rng v8), w_X16_greatestOf_87 ra jx rm K11 Q X σ v2 v3 v5 v8 → RG σ → Shp dm ra jx rm σ → JJ p l e R s m args below meth c 9 D cA A n0 s0 QM σ 87 [(0, .ref rm), (2, .int (i32 v2)), (3, .long v3), (5, .long v5), (8, .int (i32 v8))] [] := by
  intro σ v2 v3 v5 v8 g2 g8 h hGσ hS H locs ls hH hl hc
  have B := K.1
  unfold w_X16_greatestOf_87 at h
  refine lv_iload B.1 B.2.1 dX16_greatestOf_87 (lv_at hl 4 rfl) ?_
  refine lv_istore (lv' := [(7, .int (i32 v8)), (0, .ref rm), (2, .int (i32 v2)), (3, .long v3), (5, .long v5), (8, .int (i32 v8))]) B.1 B.2.1 dX16_greatestOf_89 hl (by decide) rfl (fun ls hl => ?_)
  exact a_X16_greatestOf_91 K hQ hX hK11 _ _ _ _ _ _ g2 g8 g8 h hGσ hS _ _ _ hH (lv_sub (l' := [(0, .ref rm), (2, .int (i32 v2)), (3, .long v3), (5, .long v5), (7, .int (i32 v8)), (8, .int (i32 v8))]) hl [1, 2, 3, 4, 0, 5] rfl) hc
set_option maxRecDepth 20000 in
theorem a_X16_greatestOf_59 {Q : Sg → Int → Prop} {X : Sg → String → Prop} (K : MC R p s m args c cX16_greatestOf 9 RX16 D cA tys A n0 s0 2 53 []) (hQ : HQI p l e R s m args below meth c cX16_greatestOf D cA A n0 s0 QM dm ra jx rm Q) (hX : HX p l e R s m args below meth c 9 D cA A n0 s0 QM dm ra jx rm X) {K11 : Sg → Int → Int64 → Int64 → Int → Int → Prop} (hK11 : ∀ (σ : Sg) (v2 : Int) (v3 : Int64) (v5 : Int64) (v7 : Int) (v8 : Int) (g2 : rng v2) (g7 : rng v7) (g8 : rng v8), K11 σ v2 v3 v5 v7 v8 → RG σ → Shp dm ra jx rm σ → JJ p l e R s m args below meth c 9 D cA A n0 s0 QM σ 11 [(0, .ref rm), (2, .int (i32 v2)), (3, .long v3), (5, .long v5), (7, .int (i32 v7)), (8, .int (i32 v8))] []) : ∀ (σ : Sg) (v2 : Int) (v3 : Int64) (v5 : Int64) (v7 : Int) (v8 : Int) (g2 : rng v2) (g7 : rng v7) (g8 : rng v8), w_X16_greatestOf_59 ra jx rm K11 Q X σ v2 v3 v5 v7 v8 → RG σ → Shp dm ra jx rm σ → JJ p l e R s m args below meth c 9 D cA A n0 s0 QM σ 59 [(0, .ref rm), (2, .int (i32 v2)), (3, .long v3), (5, .long v5), (7, .int (i32 v7)), (8, .int (i32 v8))] [] := by
  intro σ v2 v3 v5 v7 v8 g2 g7 g8 h hGσ hS H locs ls hH hl hc
  have B := K.1
  unfold w_X16_greatestOf_59 at h
  refine lv_aload_n B.1 B.2.1 dX16_greatestOf_59 rfl (lv_at hl 0 rfl) ?_
  refine lv_iload B.1 B.2.1 dX16_greatestOf_60 (lv_at hl 5 rfl) ?_
  refine lv_iload B.1 B.2.1 dX16_greatestOf_62 (lv_at hl 4 rfl) ?_
  refine lv_aload_n B.1 B.2.1 dX16_greatestOf_64 rfl (lv_at hl 0 rfl) ?_
  refine r_getp B hH hS 17 (by decide) wf_X16_356 rfl rfl dX16_greatestOf_65 ?_
  obtain ⟨a9, ea9, ja9, h⟩ := h
  refine W.eq (g2 := F0 m 68 ls [.ref a9, .int (i32 v7), .int (i32 v8), .ref rm]) (by rw [ea9]; rfl) ?_
  refine n_arr B hH hS ja9 6 (kd := 100) (n := 16) (by decide) (by decide) (List.mem_of_getElem? (i := 6) rfl) rfl dX16_greatestOf_68 ?_
  refine lv_aload_n B.1 B.2.1 dX16_greatestOf_71 rfl (lv_at hl 0 rfl) ?_
  refine r_getp B hH hS 17 (by decide) wf_X16_356 rfl rfl dX16_greatestOf_72 ?_
  obtain ⟨a10, ea10, ja10, h⟩ := h
  refine W.eq (g2 := F0 m 75 ls [.ref a10, .ref (jx a9 6), .int (i32 v7), .int (i32 v8), .ref rm]) (by rw [ea10]; rfl) ?_
  refine n_arr B hH hS ja10 5 (kd := 100) (n := 16) (by decide) (by decide) (List.mem_of_getElem? (i := 5) rfl) rfl dX16_greatestOf_75 ?_
  refine lv_iload_n B.1 B.2.1 dX16_greatestOf_78 rfl (lv_at hl 1 rfl) ?_
  obtain ⟨q3, h⟩ := h
  refine x_iald B K.2.1 hH (hS.ja ja10 (k := 5) (kd := 100) (n := 16) (by decide)) (by decide) q3 dX16_greatestOf_79 ?_
  obtain ⟨q4, h⟩ := h
  refine x_iald B K.2.1 hH (hS.ja ja9 (k := 6) (kd := 100) (n := 16) (by decide)) (by decide) q4 dX16_greatestOf_80 ?_
  refine c_V B hH hl hc K.2.2.1 (C := RX16) (T := TX16) (N := 123) (ci := 16) (As := [.int (i32 v8), .int (i32 v7), .int (i32 (gI σ (jx a9 6) (gI σ (jx a10 5) v2.toNat).toNat))]) (ok_X16_orderOf K.2.1 σ v8 v7 (gI σ (jx a9 6) (gI σ (jx a10 5) v2.toNat).toNat) g8 g7 (hGσ _ _) hGσ hS h) wc_X16_538 3 hd_X16_orderOf ⟨Nat.le_trans (Nat.le_of_ble_eq_true rfl) K.2.2.2.1, Nat.le_trans (Nat.le_of_ble_eq_true rfl) K.2.2.2.2.1⟩ hS.1.1 hS.1.2 (by decide) rfl rfl (rest := []) rfl (Nat.le_of_ble_eq_true rfl) dX16_greatestOf_81 (fun σ11 w hq => ?_) (fun σ9 E9 hx9 => hX σ9 E9 _ _ _ (tb_out K.2.2.2.2.2 rfl) hx9.1 hx9.2.1 hx9.2.2)
  obtain ⟨r12, rfl, gr12, h, hGσ11, hS⟩ := hq
  intro H locs ls hH hl hc
  refine W.eq (g2 := F0 m 84 ls [.int (i32 r12)]) (rfl) ?_
  try dsimp only at h
  refine lv_if_le (tgt := 91) B.1 B.2.1 dX16_greatestOf_84 (by decide) (fun h9 => ?_) (fun h9 => ?_)
  · rw [if_pos ((z_le gr12).mp h9)] at h
    exact a_X16_greatestOf_91 K hQ hX hK11 _ _ _ _ _ _ g2 g7 g8 h hGσ11 hS _ _ _ hH (lv_sub (l' := [(0, .ref rm), (2, .int (i32 v2)), (3, .long v3), (5, .long v5), (7, .int (i32 v7)), (8, .int (i32 v8))]) hl [0, 1, 2, 3, 4, 5] rfl) hc
  · rw [if_neg (fun q => h9 ((z_le gr12).mpr q))] at h
    exact a_X16_greatestOf_87 K hQ hX hK11 _ _ _ _ _ g2 g8 h hGσ11 hS _ _ _ hH (lv_sub (l' := [(0, .ref rm), (2, .int (i32 v2)), (3, .long v3), (5, .long v5), (8, .int (i32 v8))]) hl [0, 1, 2, 3, 5] rfl) hc
set_option maxRecDepth 20000 in
theorem a_X16_greatestOf_53 {Q : Sg → Int → Prop} {X : Sg → String → Prop} (K : MC R p s m args c cX16_greatestOf 9 RX16 D cA tys A n0 s0 2 53 []) (hQ : HQI p l e R s m args below meth c cX16_greatestOf D cA A n0 s0 QM dm ra jx rm Q) (hX : HX p l e R s m args below meth c 9 D cA A n0 s0 QM dm ra jx rm X) {K11 : Sg → Int → Int64 → Int64 → Int → Int → Prop} (hK11 : ∀ (σ : Sg) (v2 : Int) (v3 : Int64) (v5 : Int64) (v7 : Int) (v8 : Int) (g2 : rng v2) (g7 : rng v7) (g8 : rng v8), K11 σ v2 v3 v5 v7 v8 → RG σ → Shp dm ra jx rm σ → JJ p l e R s m args below meth c 9 D cA A n0 s0 QM σ 11 [(0, .ref rm), (2, .int (i32 v2)), (3, .long v3), (5, .long v5), (7, .int (i32 v7)), (8, .int (i32 v8))] []) : ∀ (σ : Sg) (v2 : Int) (v3 : Int64) (v5 : Int64) (v7 : Int) (v8 : Int) (g2 : rng v2) (g7 : rng v7) (g8 : rng v8), w_X16_greatestOf_53 ra jx rm K11 Q X σ v2 v3 v5 v7 v8 → RG σ → Shp dm ra jx rm σ → JJ p l e R s m args below meth c 9 D cA A n0 s0 QM σ 53 [(0, .ref rm), (2, .int (i32 v2)), (3, .long v3), (5, .long v5), (7, .int (i32 v7)), (8, .int (i32 v8))] [] := by
  intro σ v2 v3 v5 v7 v8 g2 g7 g8 h hGσ hS H locs ls hH hl hc
  have B := K.1
  unfold w_X16_greatestOf_53 at h
  refine lv_iload B.1 B.2.1 dX16_greatestOf_53 (lv_at hl 4 rfl) ?_
  refine lv_iconst (v := i32 (-1)) B.1 B.2.1 dX16_greatestOf_55 (by decide) ?_
  refine lv_icmp_eq (tgt := 87) B.1 B.2.1 dX16_greatestOf_56 (by decide) (fun h9 => ?_) (fun h9 => ?_)
  · rw [if_pos ((i32_eq g7 (by unfold rng; omega)).mp h9)] at h
    exact a_X16_greatestOf_87 K hQ hX hK11 _ _ _ _ _ g2 g8 h hGσ hS _ _ _ hH (lv_sub (l' := [(0, .ref rm), (2, .int (i32 v2)), (3, .long v3), (5, .long v5), (8, .int (i32 v8))]) hl [0, 1, 2, 3, 5] rfl) hc
  · rw [if_neg (fun q => h9 ((i32_eq g7 (by unfold rng; omega)).mpr q))] at h
    exact a_X16_greatestOf_59 K hQ hX hK11 _ _ _ _ _ _ g2 g7 g8 h hGσ hS _ _ _ hH (lv_sub (l' := [(0, .ref rm), (2, .int (i32 v2)), (3, .long v3), (5, .long v5), (7, .int (i32 v7)), (8, .int (i32 v8))]) hl [0, 1, 2, 3, 4, 5] rfl) hc
set_option maxRecDepth 20000 in
theorem a_X16_greatestOf_40 {Q : Sg → Int → Prop} {X : Sg → String → Prop} (K : MC R p s m args c cX16_greatestOf 9 RX16 D cA tys A n0 s0 2 53 []) (hQ : HQI p l e R s m args below meth c cX16_greatestOf D cA A n0 s0 QM dm ra jx rm Q) (hX : HX p l e R s m args below meth c 9 D cA A n0 s0 QM dm ra jx rm X) {K11 : Sg → Int → Int64 → Int64 → Int → Int → Prop} (hK11 : ∀ (σ : Sg) (v2 : Int) (v3 : Int64) (v5 : Int64) (v7 : Int) (v8 : Int) (g2 : rng v2) (g7 : rng v7) (g8 : rng v8), K11 σ v2 v3 v5 v7 v8 → RG σ → Shp dm ra jx rm σ → JJ p l e R s m args below meth c 9 D cA A n0 s0 QM σ 11 [(0, .ref rm), (2, .int (i32 v2)), (3, .long v3), (5, .long v5), (7, .int (i32 v7)), (8, .int (i32 v8))] []) : ∀ (σ : Sg) (v2 : Int) (v3 : Int64) (v5 : Int64) (v7 : Int) (v8 : Int) (g2 : rng v2) (g7 : rng v7) (g8 : rng v8), w_X16_greatestOf_40 ra jx rm K11 Q X σ v2 v3 v5 v7 v8 → RG σ → Shp dm ra jx rm σ → JJ p l e R s m args below meth c 9 D cA A n0 s0 QM σ 40 [(0, .ref rm), (2, .int (i32 v2)), (3, .long v3), (5, .long v5), (7, .int (i32 v7)), (8, .int (i32 v8))] [] := by
  intro σ v2 v3 v5 v7 v8 g2 g7 g8 h hGσ hS H locs ls hH hl hc
  have B := K.1
  unfold w_X16_greatestOf_40 at h
  refine lv_aload_n B.1 B.2.1 dX16_greatestOf_40 rfl (lv_at hl 0 rfl) ?_
  refine r_arr B hH hS 71 (kd := 101) (n := 4000) (by decide) (by decide) wf_X16_522 rfl rfl dX16_greatestOf_41 ?_
  refine lv_iload B.1 B.2.1 dX16_greatestOf_44 (lv_at hl 5 rfl) ?_
  obtain ⟨q1, h⟩ := h
  refine x_lald B K.2.1 hH (hS.ar (k := 71) (kd := 101) (n := 4000) (by decide)) (by decide) q1 dX16_greatestOf_46 ?_
  refine lv_lload B.1 B.2.1 dX16_greatestOf_47 (lv_at hl 3 rfl) ?_
  refine W.lcmp B.1 B.2.1 dX16_greatestOf_49 ?_
  refine lv_if_gt (tgt := 91) B.1 B.2.1 dX16_greatestOf_50 (by decide) (fun h9 => ?_) (fun h9 => ?_)
  · rw [if_pos ((lg_cmp_gt _ _).mp h9)] at h
    exact a_X16_greatestOf_91 K hQ hX hK11 _ _ _ _ _ _ g2 g7 g8 h hGσ hS _ _ _ hH (lv_sub (l' := [(0, .ref rm), (2, .int (i32 v2)), (3, .long v3), (5, .long v5), (7, .int (i32 v7)), (8, .int (i32 v8))]) hl [0, 1, 2, 3, 4, 5] rfl) hc
  · rw [if_neg (fun q => h9 ((lg_cmp_gt _ _).mpr q))] at h
    exact a_X16_greatestOf_53 K hQ hX hK11 _ _ _ _ _ _ g2 g7 g8 h hGσ hS _ _ _ hH (lv_sub (l' := [(0, .ref rm), (2, .int (i32 v2)), (3, .long v3), (5, .long v5), (7, .int (i32 v7)), (8, .int (i32 v8))]) hl [0, 1, 2, 3, 4, 5] rfl) hc
set_option maxRecDepth 20000 in
theorem a_X16_greatestOf_28 {Q : Sg → Int → Prop} {X : Sg → String → Prop} (K : MC R p s m args c cX16_greatestOf 9 RX16 D cA tys A n0 s0 2 53 []) (hQ : HQI p l e R s m args below meth c cX16_greatestOf D cA A n0 s0 QM dm ra jx rm Q) (hX : HX p l e R s m args below meth c 9 D cA A n0 s0 QM dm ra jx rm X) {K11 : Sg → Int → Int64 → Int64 → Int → Int → Prop} (hK11 : ∀ (σ : Sg) (v2 : Int) (v3 : Int64) (v5 : Int64) (v7 : Int) (v8 : Int) (g2 : rng v2) (g7 : rng v7) (g8 : rng v8), K11 σ v2 v3 v5 v7 v8 → RG σ → Shp dm ra jx rm σ → JJ p l e R s m args below meth c 9 D cA A n0 s0 QM σ 11 [(0, .ref rm), (2, .int (i32 v2)), (3, .long v3), (5, .long v5), (7, .int (i32 v7)), (8, .int (i32 v8))] []) : ∀ (σ : Sg) (v2 : Int) (v3 : Int64) (v5 : Int64) (v7 : Int) (v8 : Int) (g2 : rng v2) (g7 : rng v7) (g8 : rng v8), w_X16_greatestOf_28 ra jx rm K11 Q X σ v2 v3 v5 v7 v8 → RG σ → Shp dm ra jx rm σ → JJ p l e R s m args below meth c 9 D cA A n0 s0 QM σ 28 [(0, .ref rm), (2, .int (i32 v2)), (3, .long v3), (5, .long v5), (7, .int (i32 v7)), (8, .int (i32 v8))] [] := by
  intro σ v2 v3 v5 v7 v8 g2 g7 g8 h hGσ hS H locs ls hH hl hc
  have B := K.1
  unfold w_X16_greatestOf_28 at h
  refine lv_aload_n B.1 B.2.1 dX16_greatestOf_28 rfl (lv_at hl 0 rfl) ?_
  refine r_arr B hH hS 70 (kd := 101) (n := 4000) (by decide) (by decide) wf_X16_519 rfl rfl dX16_greatestOf_29 ?_
  refine lv_iload B.1 B.2.1 dX16_greatestOf_32 (lv_at hl 5 rfl) ?_
  obtain ⟨q1, h⟩ := h
  refine x_lald B K.2.1 hH (hS.ar (k := 70) (kd := 101) (n := 4000) (by decide)) (by decide) q1 dX16_greatestOf_34 ?_
  refine lv_lload_n B.1 B.2.1 dX16_greatestOf_35 rfl (lv_at hl 2 rfl) ?_
  refine W.lcmp B.1 B.2.1 dX16_greatestOf_36 ?_
  refine lv_if_ne (tgt := 91) B.1 B.2.1 dX16_greatestOf_37 (by decide) (fun h9 => ?_) (fun h9 => ?_)
  · rw [if_pos (fun q => h9 ((lg_cmp_eq _ _).mpr q))] at h
    exact a_X16_greatestOf_91 K hQ hX hK11 _ _ _ _ _ _ g2 g7 g8 h hGσ hS _ _ _ hH (lv_sub (l' := [(0, .ref rm), (2, .int (i32 v2)), (3, .long v3), (5, .long v5), (7, .int (i32 v7)), (8, .int (i32 v8))]) hl [0, 1, 2, 3, 4, 5] rfl) hc
  · rw [if_neg (fun q => q ((lg_cmp_eq _ _).mp h9))] at h
    exact a_X16_greatestOf_40 K hQ hX hK11 _ _ _ _ _ _ g2 g7 g8 h hGσ hS _ _ _ hH (lv_sub (l' := [(0, .ref rm), (2, .int (i32 v2)), (3, .long v3), (5, .long v5), (7, .int (i32 v7)), (8, .int (i32 v8))]) hl [0, 1, 2, 3, 4, 5] rfl) hc
set_option maxRecDepth 20000 in
theorem a_X16_greatestOf_17 {Q : Sg → Int → Prop} {X : Sg → String → Prop} (K : MC R p s m args c cX16_greatestOf 9 RX16 D cA tys A n0 s0 2 53 []) (hQ : HQI p l e R s m args below meth c cX16_greatestOf D cA A n0 s0 QM dm ra jx rm Q) (hX : HX p l e R s m args below meth c 9 D cA A n0 s0 QM dm ra jx rm X) {K11 : Sg → Int → Int64 → Int64 → Int → Int → Prop} (hK11 : ∀ (σ : Sg) (v2 : Int) (v3 : Int64) (v5 : Int64) (v7 : Int) (v8 : Int) (g2 : rng v2) (g7 : rng v7) (g8 : rng v8), K11 σ v2 v3 v5 v7 v8 → RG σ → Shp dm ra jx rm σ → JJ p l e R s m args below meth c 9 D cA A n0 s0 QM σ 11 [(0, .ref rm), (2, .int (i32 v2)), (3, .long v3), (5, .long v5), (7, .int (i32 v7)), (8, .int (i32 v8))] []) : ∀ (σ : Sg) (v2 : Int) (v3 : Int64) (v5 : Int64) (v7 : Int) (v8 : Int) (g2 : rng v2) (g7 : rng v7) (g8 : rng v8), w_X16_greatestOf_17 ra jx rm K11 Q X σ v2 v3 v5 v7 v8 → RG σ → Shp dm ra jx rm σ → JJ p l e R s m args below meth c 9 D cA A n0 s0 QM σ 17 [(0, .ref rm), (2, .int (i32 v2)), (3, .long v3), (5, .long v5), (7, .int (i32 v7)), (8, .int (i32 v8))] [] := by
  intro σ v2 v3 v5 v7 v8 g2 g7 g8 h hGσ hS H locs ls hH hl hc
  have B := K.1
  unfold w_X16_greatestOf_17 at h
  refine lv_aload_n B.1 B.2.1 dX16_greatestOf_17 rfl (lv_at hl 0 rfl) ?_
  refine r_arr B hH hS 68 (kd := 100) (n := 4000) (by decide) (by decide) wf_X16_513 rfl rfl dX16_greatestOf_18 ?_
  refine lv_iload B.1 B.2.1 dX16_greatestOf_21 (lv_at hl 5 rfl) ?_
  obtain ⟨q1, h⟩ := h
  refine x_iald B K.2.1 hH (hS.ar (k := 68) (kd := 100) (n := 4000) (by decide)) (by decide) q1 dX16_greatestOf_23 ?_
  refine lv_iconst (v := i32 1) B.1 B.2.1 dX16_greatestOf_24 (by decide) ?_
  refine lv_icmp_ne (tgt := 91) B.1 B.2.1 dX16_greatestOf_25 (by decide) (fun h9 => ?_) (fun h9 => ?_)
  · rw [if_pos (fun q => h9 ((i32_eq (hGσ _ _) (by unfold rng; omega)).mpr q))] at h
    exact a_X16_greatestOf_91 K hQ hX hK11 _ _ _ _ _ _ g2 g7 g8 h hGσ hS _ _ _ hH (lv_sub (l' := [(0, .ref rm), (2, .int (i32 v2)), (3, .long v3), (5, .long v5), (7, .int (i32 v7)), (8, .int (i32 v8))]) hl [0, 1, 2, 3, 4, 5] rfl) hc
  · rw [if_neg (fun q => q ((i32_eq (hGσ _ _) (by unfold rng; omega)).mp h9))] at h
    exact a_X16_greatestOf_28 K hQ hX hK11 _ _ _ _ _ _ g2 g7 g8 h hGσ hS _ _ _ hH (lv_sub (l' := [(0, .ref rm), (2, .int (i32 v2)), (3, .long v3), (5, .long v5), (7, .int (i32 v7)), (8, .int (i32 v8))]) hl [0, 1, 2, 3, 4, 5] rfl) hc
set_option maxRecDepth 20000 in
theorem a_X16_greatestOf_11 {Q : Sg → Int → Prop} {X : Sg → String → Prop} (K : MC R p s m args c cX16_greatestOf 9 RX16 D cA tys A n0 s0 2 53 []) (hQ : HQI p l e R s m args below meth c cX16_greatestOf D cA A n0 s0 QM dm ra jx rm Q) (hX : HX p l e R s m args below meth c 9 D cA A n0 s0 QM dm ra jx rm X) {K11 : Sg → Int → Int64 → Int64 → Int → Int → Prop} (hK11 : ∀ (σ : Sg) (v2 : Int) (v3 : Int64) (v5 : Int64) (v7 : Int) (v8 : Int) (g2 : rng v2) (g7 : rng v7) (g8 : rng v8), K11 σ v2 v3 v5 v7 v8 → RG σ → Shp dm ra jx rm σ → JJ p l e R s m args below meth c 9 D cA A n0 s0 QM σ 11 [(0, .ref rm), (2, .int (i32 v2)), (3, .long v3), (5, .long v5), (7, .int (i32 v7)), (8, .int (i32 v8))] []) : ∀ (σ : Sg) (v2 : Int) (v3 : Int64) (v5 : Int64) (v7 : Int) (v8 : Int) (g2 : rng v2) (g7 : rng v7) (g8 : rng v8), w_X16_greatestOf_11 ra jx rm K11 Q X σ v2 v3 v5 v7 v8 → RG σ → Shp dm ra jx rm σ → JJ p l e R s m args below meth c 9 D cA A n0 s0 QM σ 11 [(0, .ref rm), (2, .int (i32 v2)), (3, .long v3), (5, .long v5), (7, .int (i32 v7)), (8, .int (i32 v8))] [] := by
  intro σ v2 v3 v5 v7 v8 g2 g7 g8 h hGσ hS H locs ls hH hl hc
  have B := K.1
  unfold w_X16_greatestOf_11 at h
  refine lv_iload B.1 B.2.1 dX16_greatestOf_11 (lv_at hl 5 rfl) ?_
  refine lv_iconst (v := i32 (-1)) B.1 B.2.1 dX16_greatestOf_13 (by decide) ?_
  refine lv_icmp_eq (tgt := 103) B.1 B.2.1 dX16_greatestOf_14 (by decide) (fun h9 => ?_) (fun h9 => ?_)
  · rw [if_pos ((i32_eq g8 (by unfold rng; omega)).mp h9)] at h
    exact a_X16_greatestOf_103 K hQ hX _ _ g7 h hGσ hS _ _ _ hH (lv_sub (l' := [(0, .ref rm), (7, .int (i32 v7))]) hl [0, 4] rfl) hc
  · rw [if_neg (fun q => h9 ((i32_eq g8 (by unfold rng; omega)).mpr q))] at h
    exact a_X16_greatestOf_17 K hQ hX hK11 _ _ _ _ _ _ g2 g7 g8 h hGσ hS _ _ _ hH (lv_sub (l' := [(0, .ref rm), (2, .int (i32 v2)), (3, .long v3), (5, .long v5), (7, .int (i32 v7)), (8, .int (i32 v8))]) hl [0, 1, 2, 3, 4, 5] rfl) hc
theorem al_X16_greatestOf_11 {Q : Sg → Int → Prop} {X : Sg → String → Prop} (K : MC R p s m args c cX16_greatestOf 9 RX16 D cA tys A n0 s0 2 53 []) (hQ : HQI p l e R s m args below meth c cX16_greatestOf D cA A n0 s0 QM dm ra jx rm Q) (hX : HX p l e R s m args below meth c 9 D cA A n0 s0 QM dm ra jx rm X) : ∀ (n : Nat), ∀ (σ : Sg) (v2 : Int) (v3 : Int64) (v5 : Int64) (v7 : Int) (v8 : Int) (g2 : rng v2) (g7 : rng v7) (g8 : rng v8), wl_X16_greatestOf_11 ra jx rm Q X n σ v2 v3 v5 v7 v8 → RG σ → Shp dm ra jx rm σ → JJ p l e R s m args below meth c 9 D cA A n0 s0 QM σ 11 [(0, .ref rm), (2, .int (i32 v2)), (3, .long v3), (5, .long v5), (7, .int (i32 v7)), (8, .int (i32 v8))] [] := by
  intro n
  induction n with
  | zero => intro σ v2 v3 v5 v7 v8 g2 g7 g8 h; exact h.elim
  | succ n ih => exact fun σ v2 v3 v5 v7 v8 g2 g7 g8 h => a_X16_greatestOf_11 K hQ hX ih σ v2 v3 v5 v7 v8 g2 g7 g8 h
set_option maxRecDepth 20000 in
theorem a_X16_greatestOf_0 {Q : Sg → Int → Prop} {X : Sg → String → Prop} (K : MC R p s m args c cX16_greatestOf 9 RX16 D cA tys A n0 s0 2 53 []) (hQ : HQI p l e R s m args below meth c cX16_greatestOf D cA A n0 s0 QM dm ra jx rm Q) (hX : HX p l e R s m args below meth c 9 D cA A n0 s0 QM dm ra jx rm X) : ∀ (σ : Sg) (v1 : Int) (v2 : Int) (v3 : Int64) (v5 : Int64) (g1 : rng v1) (g2 : rng v2), w_X16_greatestOf_0 ra jx rm Q X σ v1 v2 v3 v5 → RG σ → Shp dm ra jx rm σ → JJ p l e R s m args below meth c 9 D cA A n0 s0 QM σ 0 [(0, .ref rm), (1, .int (i32 v1)), (2, .int (i32 v2)), (3, .long v3), (5, .long v5)] [] := by
  intro σ v1 v2 v3 v5 g1 g2 h hGσ hS H locs ls hH hl hc
  have B := K.1
  unfold w_X16_greatestOf_0 at h
  refine lv_iconst (v := i32 (-1)) B.1 B.2.1 dX16_greatestOf_0 (by decide) ?_
  refine lv_istore (lv' := [(7, .int (i32 (-1))), (0, .ref rm), (1, .int (i32 v1)), (2, .int (i32 v2)), (3, .long v3), (5, .long v5)]) B.1 B.2.1 dX16_greatestOf_1 hl (by decide) rfl (fun ls hl => ?_)
  refine lv_aload_n B.1 B.2.1 dX16_greatestOf_3 rfl (lv_at hl 1 rfl) ?_
  refine r_arr B hH hS 76 (kd := 100) (n := 64) (by decide) (by decide) wf_X16_504 rfl rfl dX16_greatestOf_4 ?_
  refine lv_iload_n B.1 B.2.1 dX16_greatestOf_7 rfl (lv_at hl 2 rfl) ?_
  obtain ⟨q1, h⟩ := h
  refine x_iald B K.2.1 hH (hS.ar (k := 76) (kd := 100) (n := 64) (by decide)) (by decide) q1 dX16_greatestOf_8 ?_
  refine lv_istore (lv' := [(8, .int (i32 (gI σ (ra 76) v1.toNat))), (7, .int (i32 (-1))), (0, .ref rm), (1, .int (i32 v1)), (2, .int (i32 v2)), (3, .long v3), (5, .long v5)]) B.1 B.2.1 dX16_greatestOf_9 hl (by decide) rfl (fun ls hl => ?_)
  obtain ⟨n9, h⟩ := h
  exact al_X16_greatestOf_11 K hQ hX n9 _ _ _ _ _ _ g2 (by unfold rng; omega) (hGσ _ _) h hGσ hS _ _ _ hH (lv_sub (l' := [(0, .ref rm), (2, .int (i32 v2)), (3, .long v3), (5, .long v5), (7, .int (i32 (-1))), (8, .int (i32 (gI σ (ra 76) v1.toNat)))]) hl [2, 4, 5, 6, 1, 0] rfl) hc
theorem ok_X16_greatestOf (hT : Tys cA tys) {Q : Sg → Int → Prop} {X : Sg → String → Prop} (σ : Sg) (v1 : Int) (v2 : Int) (v3 : Int64) (v5 : Int64) (g1 : rng v1) (g2 : rng v2) (hG : RG σ) (hS : Shp dm ra jx rm σ) (h : wp_X16_greatestOf ra jx rm v1 v2 v3 v5 σ Q X) : Ok l D cA tys A yX16_greatestOf (.code yX16_greatestOf cX16_greatestOf 9 (some .int)) 2 53 [.ref rm, .int (i32 v1), .int (i32 v2), .long v3, .long v5] σ (QnI dm ra jx rm Q) (QxR dm ra jx rm X) := by
  unfold wp_X16_greatestOf at h
  exact ok_I (plainFor_of_name (by decide)) (by exact Nat.le_of_ble_eq_true rfl) hT (fun p e R s m args below meth c K hQ hX H locs ls hH hl hc => a_X16_greatestOf_0 K hQ hX σ v1 v2 v3 v5 g1 g2 h hG hS H locs ls hH (lv_sub (l' := [(0, .ref rm), (1, .int (i32 v1)), (2, .int (i32 v2)), (3, .long v3), (5, .long v5)]) hl [0, 1, 2, 3, 4] rfl) hc)
theorem dX16_growGaps_0 : decode cX16_growGaps 0 = .ok (.iconst (-1), 1) := by decide +kernel
theorem dX16_growGaps_1 : decode cX16_growGaps 1 = .ok (.istore 5, 2) := by decide +kernel
theorem dX16_growGaps_3 : decode cX16_growGaps 3 = .ok (.aload_n 0, 1) := by decide +kernel
theorem dX16_growGaps_4 : decode cX16_growGaps 4 = .ok (.getfield 504, 3) := by decide +kernel
theorem dX16_growGaps_7 : decode cX16_growGaps 7 = .ok (.iload_n 1, 1) := by decide +kernel
theorem dX16_growGaps_8 : decode cX16_growGaps 8 = .ok (.iaload, 1) := by decide +kernel
theorem dX16_growGaps_9 : decode cX16_growGaps 9 = .ok (.istore 6, 2) := by decide +kernel
theorem dX16_growGaps_11 : decode cX16_growGaps 11 = .ok (.iload 6, 2) := by decide +kernel
theorem dX16_growGaps_13 : decode cX16_growGaps 13 = .ok (.iconst (-1), 1) := by decide +kernel
theorem dX16_growGaps_14 : decode cX16_growGaps 14 = .ok (.if_icmp .eq 151, 3) := by decide +kernel
theorem dX16_growGaps_17 : decode cX16_growGaps 17 = .ok (.aload_n 0, 1) := by decide +kernel
theorem dX16_growGaps_18 : decode cX16_growGaps 18 = .ok (.getfield 525, 3) := by decide +kernel
theorem dX16_growGaps_21 : decode cX16_growGaps 21 = .ok (.iload 6, 2) := by decide +kernel
theorem dX16_growGaps_23 : decode cX16_growGaps 23 = .ok (.laload, 1) := by decide +kernel
theorem dX16_growGaps_24 : decode cX16_growGaps 24 = .ok (.aload_n 0, 1) := by decide +kernel
theorem dX16_growGaps_25 : decode cX16_growGaps 25 = .ok (.getfield 356, 3) := by decide +kernel
theorem dX16_growGaps_28 : decode cX16_growGaps 28 = .ok (.getfield 191, 3) := by decide +kernel
theorem dX16_growGaps_31 : decode cX16_growGaps 31 = .ok (.iload_n 2, 1) := by decide +kernel
theorem dX16_growGaps_32 : decode cX16_growGaps 32 = .ok (.laload, 1) := by decide +kernel
theorem dX16_growGaps_33 : decode cX16_growGaps 33 = .ok (.ladd, 1) := by decide +kernel
theorem dX16_growGaps_34 : decode cX16_growGaps 34 = .ok (.lconst 1, 1) := by decide +kernel
theorem dX16_growGaps_35 : decode cX16_growGaps 35 = .ok (.lsub, 1) := by decide +kernel
theorem dX16_growGaps_36 : decode cX16_growGaps 36 = .ok (.lload_n 3, 1) := by decide +kernel
theorem dX16_growGaps_37 : decode cX16_growGaps 37 = .ok (.lcmp, 1) := by decide +kernel
theorem dX16_growGaps_38 : decode cX16_growGaps 38 = .ok (.ifCond .gt 7, 3) := by decide +kernel
theorem dX16_growGaps_41 : decode cX16_growGaps 41 = .ok (.iconst 1, 1) := by decide +kernel
theorem dX16_growGaps_42 : decode cX16_growGaps 42 = .ok (.goto 4, 3) := by decide +kernel
theorem dX16_growGaps_45 : decode cX16_growGaps 45 = .ok (.iconst 0, 1) := by decide +kernel
theorem dX16_growGaps_46 : decode cX16_growGaps 46 = .ok (.istore 7, 2) := by decide +kernel
theorem dX16_growGaps_48 : decode cX16_growGaps 48 = .ok (.iload 7, 2) := by decide +kernel
theorem dX16_growGaps_50 : decode cX16_growGaps 50 = .ok (.ifCond .eq 103, 3) := by decide +kernel
theorem dX16_growGaps_53 : decode cX16_growGaps 53 = .ok (.iload 5, 2) := by decide +kernel
theorem dX16_growGaps_55 : decode cX16_growGaps 55 = .ok (.iconst (-1), 1) := by decide +kernel
theorem dX16_growGaps_56 : decode cX16_growGaps 56 = .ok (.if_icmp .eq 93, 3) := by decide +kernel
theorem dX16_growGaps_59 : decode cX16_growGaps 59 = .ok (.aload_n 0, 1) := by decide +kernel
theorem dX16_growGaps_60 : decode cX16_growGaps 60 = .ok (.getfield 525, 3) := by decide +kernel
theorem dX16_growGaps_63 : decode cX16_growGaps 63 = .ok (.iload 6, 2) := by decide +kernel
theorem dX16_growGaps_65 : decode cX16_growGaps 65 = .ok (.laload, 1) := by decide +kernel
theorem dX16_growGaps_66 : decode cX16_growGaps 66 = .ok (.aload_n 0, 1) := by decide +kernel
theorem dX16_growGaps_67 : decode cX16_growGaps 67 = .ok (.getfield 525, 3) := by decide +kernel
theorem dX16_growGaps_70 : decode cX16_growGaps 70 = .ok (.iload 5, 2) := by decide +kernel
theorem dX16_growGaps_72 : decode cX16_growGaps 72 = .ok (.laload, 1) := by decide +kernel
theorem dX16_growGaps_73 : decode cX16_growGaps 73 = .ok (.lcmp, 1) := by decide +kernel
theorem dX16_growGaps_74 : decode cX16_growGaps 74 = .ok (.ifCond .lt 75, 3) := by decide +kernel
theorem dX16_growGaps_77 : decode cX16_growGaps 77 = .ok (.aload_n 0, 1) := by decide +kernel
theorem dX16_growGaps_78 : decode cX16_growGaps 78 = .ok (.getfield 525, 3) := by decide +kernel
theorem dX16_growGaps_81 : decode cX16_growGaps 81 = .ok (.iload 6, 2) := by decide +kernel
theorem dX16_growGaps_83 : decode cX16_growGaps 83 = .ok (.laload, 1) := by decide +kernel
theorem dX16_growGaps_84 : decode cX16_growGaps 84 = .ok (.aload_n 0, 1) := by decide +kernel
theorem dX16_growGaps_85 : decode cX16_growGaps 85 = .ok (.getfield 525, 3) := by decide +kernel
theorem dX16_growGaps_88 : decode cX16_growGaps 88 = .ok (.iload 5, 2) := by decide +kernel
theorem dX16_growGaps_90 : decode cX16_growGaps 90 = .ok (.laload, 1) := by decide +kernel
theorem dX16_growGaps_91 : decode cX16_growGaps 91 = .ok (.lcmp, 1) := by decide +kernel
theorem dX16_growGaps_92 : decode cX16_growGaps 92 = .ok (.ifCond .ne 61, 3) := by decide +kernel
theorem dX16_growGaps_95 : decode cX16_growGaps 95 = .ok (.aload_n 0, 1) := by decide +kernel
theorem dX16_growGaps_96 : decode cX16_growGaps 96 = .ok (.getfield 519, 3) := by decide +kernel
theorem dX16_growGaps_99 : decode cX16_growGaps 99 = .ok (.iload 6, 2) := by decide +kernel
theorem dX16_growGaps_101 : decode cX16_growGaps 101 = .ok (.laload, 1) := by decide +kernel
theorem dX16_growGaps_102 : decode cX16_growGaps 102 = .ok (.aload_n 0, 1) := by decide +kernel
theorem dX16_growGaps_103 : decode cX16_growGaps 103 = .ok (.getfield 519, 3) := by decide +kernel
theorem dX16_growGaps_106 : decode cX16_growGaps 106 = .ok (.iload 5, 2) := by decide +kernel
theorem dX16_growGaps_108 : decode cX16_growGaps 108 = .ok (.laload, 1) := by decide +kernel
theorem dX16_growGaps_109 : decode cX16_growGaps 109 = .ok (.lcmp, 1) := by decide +kernel
theorem dX16_growGaps_110 : decode cX16_growGaps 110 = .ok (.ifCond .lt 39, 3) := by decide +kernel
theorem dX16_growGaps_113 : decode cX16_growGaps 113 = .ok (.aload_n 0, 1) := by decide +kernel
theorem dX16_growGaps_114 : decode cX16_growGaps 114 = .ok (.getfield 519, 3) := by decide +kernel
theorem dX16_growGaps_117 : decode cX16_growGaps 117 = .ok (.iload 6, 2) := by decide +kernel
theorem dX16_growGaps_119 : decode cX16_growGaps 119 = .ok (.laload, 1) := by decide +kernel
theorem dX16_growGaps_120 : decode cX16_growGaps 120 = .ok (.aload_n 0, 1) := by decide +kernel
theorem dX16_growGaps_121 : decode cX16_growGaps 121 = .ok (.getfield 519, 3) := by decide +kernel
theorem dX16_growGaps_124 : decode cX16_growGaps 124 = .ok (.iload 5, 2) := by decide +kernel
theorem dX16_growGaps_126 : decode cX16_growGaps 126 = .ok (.laload, 1) := by decide +kernel
theorem dX16_growGaps_127 : decode cX16_growGaps 127 = .ok (.lcmp, 1) := by decide +kernel
theorem dX16_growGaps_128 : decode cX16_growGaps 128 = .ok (.ifCond .ne 25, 3) := by decide +kernel
theorem dX16_growGaps_131 : decode cX16_growGaps 131 = .ok (.aload_n 0, 1) := by decide +kernel
theorem dX16_growGaps_132 : decode cX16_growGaps 132 = .ok (.getfield 522, 3) := by decide +kernel
theorem dX16_growGaps_135 : decode cX16_growGaps 135 = .ok (.iload 6, 2) := by decide +kernel
theorem dX16_growGaps_137 : decode cX16_growGaps 137 = .ok (.laload, 1) := by decide +kernel
theorem dX16_growGaps_138 : decode cX16_growGaps 138 = .ok (.aload_n 0, 1) := by decide +kernel
theorem dX16_growGaps_139 : decode cX16_growGaps 139 = .ok (.getfield 522, 3) := by decide +kernel
theorem dX16_growGaps_142 : decode cX16_growGaps 142 = .ok (.iload 5, 2) := by decide +kernel
theorem dX16_growGaps_144 : decode cX16_growGaps 144 = .ok (.laload, 1) := by decide +kernel
theorem dX16_growGaps_145 : decode cX16_growGaps 145 = .ok (.lcmp, 1) := by decide +kernel
theorem dX16_growGaps_146 : decode cX16_growGaps 146 = .ok (.ifCond .ge 7, 3) := by decide +kernel
theorem dX16_growGaps_149 : decode cX16_growGaps 149 = .ok (.iload 6, 2) := by decide +kernel
theorem dX16_growGaps_151 : decode cX16_growGaps 151 = .ok (.istore 5, 2) := by decide +kernel
theorem dX16_growGaps_153 : decode cX16_growGaps 153 = .ok (.aload_n 0, 1) := by decide +kernel
theorem dX16_growGaps_154 : decode cX16_growGaps 154 = .ok (.getfield 495, 3) := by decide +kernel
theorem dX16_growGaps_157 : decode cX16_growGaps 157 = .ok (.iload 6, 2) := by decide +kernel
theorem dX16_growGaps_159 : decode cX16_growGaps 159 = .ok (.iaload, 1) := by decide +kernel
theorem dX16_growGaps_160 : decode cX16_growGaps 160 = .ok (.istore 6, 2) := by decide +kernel
theorem dX16_growGaps_162 : decode cX16_growGaps 162 = .ok (.goto (-151), 3) := by decide +kernel
theorem dX16_growGaps_165 : decode cX16_growGaps 165 = .ok (.iload 5, 2) := by decide +kernel
theorem dX16_growGaps_167 : decode cX16_growGaps 167 = .ok (.iconst (-1), 1) := by decide +kernel
theorem dX16_growGaps_168 : decode cX16_growGaps 168 = .ok (.if_icmp .eq 30, 3) := by decide +kernel
theorem dX16_growGaps_171 : decode cX16_growGaps 171 = .ok (.aload_n 0, 1) := by decide +kernel
theorem dX16_growGaps_172 : decode cX16_growGaps 172 = .ok (.iload_n 1, 1) := by decide +kernel
theorem dX16_growGaps_173 : decode cX16_growGaps 173 = .ok (.iload_n 2, 1) := by decide +kernel
theorem dX16_growGaps_174 : decode cX16_growGaps 174 = .ok (.iload 5, 2) := by decide +kernel
theorem dX16_growGaps_176 : decode cX16_growGaps 176 = .ok (.aload_n 0, 1) := by decide +kernel
theorem dX16_growGaps_177 : decode cX16_growGaps 177 = .ok (.getfield 525, 3) := by decide +kernel
theorem dX16_growGaps_180 : decode cX16_growGaps 180 = .ok (.iload 5, 2) := by decide +kernel
theorem dX16_growGaps_182 : decode cX16_growGaps 182 = .ok (.laload, 1) := by decide +kernel
theorem dX16_growGaps_183 : decode cX16_growGaps 183 = .ok (.aload_n 0, 1) := by decide +kernel
theorem dX16_growGaps_184 : decode cX16_growGaps 184 = .ok (.getfield 356, 3) := by decide +kernel
theorem dX16_growGaps_187 : decode cX16_growGaps 187 = .ok (.getfield 191, 3) := by decide +kernel
theorem dX16_growGaps_190 : decode cX16_growGaps 190 = .ok (.iload_n 2, 1) := by decide +kernel
theorem dX16_growGaps_191 : decode cX16_growGaps 191 = .ok (.laload, 1) := by decide +kernel
theorem dX16_growGaps_192 : decode cX16_growGaps 192 = .ok (.ladd, 1) := by decide +kernel
theorem dX16_growGaps_193 : decode cX16_growGaps 193 = .ok (.lconst 1, 1) := by decide +kernel
theorem dX16_growGaps_194 : decode cX16_growGaps 194 = .ok (.lsub, 1) := by decide +kernel
theorem dX16_growGaps_195 : decode cX16_growGaps 195 = .ok (.invokevirtual 632, 3) := by decide +kernel
theorem dX16_growGaps_198 : decode cX16_growGaps 198 = .ok (.iload 5, 2) := by decide +kernel
theorem dX16_growGaps_200 : decode cX16_growGaps 200 = .ok (.iconst (-1), 1) := by decide +kernel
theorem dX16_growGaps_201 : decode cX16_growGaps 201 = .ok (.if_icmp .ne (-201), 3) := by decide +kernel
theorem dX16_growGaps_204 : decode cX16_growGaps 204 = .ok (.return_, 1) := by decide +kernel
set_option maxRecDepth 20000 in
theorem a_X16_growGaps_204 {Q : Sg → Unit → Prop} {X : Sg → String → Prop} (K : MC R p s m args c cX16_growGaps 8 RX16 D cA tys A n0 s0 4 105 []) (hQ : HQV p l e R s m args below meth c cX16_growGaps D cA A n0 s0 QM dm ra jx rm Q) (hX : HX p l e R s m args below meth c 8 D cA A n0 s0 QM dm ra jx rm X) : ∀ (σ : Sg), w_X16_growGaps_204 ra jx rm Q X σ → RG σ → Shp dm ra jx rm σ → JJ p l e R s m args below meth c 8 D cA A n0 s0 QM σ 204 [(0, .ref rm)] [] := by
  intro σ h hGσ hS H locs ls hH hl hc
  have B := K.1
  unfold w_X16_growGaps_204 at h
  exact hQ _ _ _ _ _ dX16_growGaps_204 hH hc h hGσ hS
set_option maxRecDepth 20000 in
theorem a_X16_growGaps_198 {Q : Sg → Unit → Prop} {X : Sg → String → Prop} (K : MC R p s m args c cX16_growGaps 8 RX16 D cA tys A n0 s0 4 105 []) (hQ : HQV p l e R s m args below meth c cX16_growGaps D cA A n0 s0 QM dm ra jx rm Q) (hX : HX p l e R s m args below meth c 8 D cA A n0 s0 QM dm ra jx rm X) {K0 : Sg → Int → Int → Int64 → Prop} (hK0 : ∀ (σ : Sg) (v1 : Int) (v2 : Int) (v3 : Int64) (g1 : rng v1) (g2 : rng v2), K0 σ v1 v2 v3 → RG σ → Shp dm ra jx rm σ → JJ p l e R s m args below meth c 8 D cA A n0 s0 QM σ 0 [(0, .ref rm), (1, .int (i32 v1)), (2, .int (i32 v2)), (3, .long v3)] []) : ∀ (σ : Sg) (v1 : Int) (v2 : Int) (v3 : Int64) (v5 : Int) (g1 : rng v1) (g2 : rng v2) (g5 : rng v5), w_X16_growGaps_198 ra jx rm K0 Q X σ v1 v2 v3 v5 → RG σ → Shp dm ra jx rm σ → JJ p l e R s m args below meth c 8 D cA A n0 s0 QM σ 198 [(0, .ref rm), (1, .int (i32 v1)), (2, .int (i32 v2)), (3, .long v3), (5, .int (i32 v5))] [] := by
  intro σ v1 v2 v3 v5 g1 g2 g5 h hGσ hS H locs ls hH hl hc
  have B := K.1
  unfold w_X16_growGaps_198 at h
  refine lv_iload B.1 B.2.1 dX16_growGaps_198 (lv_at hl 4 rfl) ?_
  refine lv_iconst (v := i32 (-1)) B.1 B.2.1 dX16_growGaps_200 (by decide) ?_
  refine lv_icmp_ne (tgt := 0) B.1 B.2.1 dX16_growGaps_201 (by decide) (fun h9 => ?_) (fun h9 => ?_)
  · rw [if_pos (fun q => h9 ((i32_eq g5 (by unfold rng; omega)).mpr q))] at h
    exact hK0 _ _ _ _ g1 g2 h hGσ hS _ _ _ hH (lv_sub (l' := [(0, .ref rm), (1, .int (i32 v1)), (2, .int (i32 v2)), (3, .long v3)]) hl [0, 1, 2, 3] rfl) hc
  · rw [if_neg (fun q => q ((i32_eq g5 (by unfold rng; omega)).mp h9))] at h
    exact a_X16_growGaps_204 K hQ hX _ h hGσ hS _ _ _ hH (lv_sub (l' := [(0, .ref rm)]) hl [0] rfl) hc
set_option maxRecDepth 20000 in
theorem a_X16_growGaps_171 {Q : Sg → Unit → Prop} {X : Sg → String → Prop} (K : MC R p s m args c cX16_growGaps 8 RX16 D cA tys A n0 s0 4 105 []) (hQ : HQV p l e R s m args below meth c cX16_growGaps D cA A n0 s0 QM dm ra jx rm Q) (hX : HX p l e R s m args below meth c 8 D cA A n0 s0 QM dm ra jx rm X) {K0 : Sg → Int → Int → Int64 → Prop} (hK0 : ∀ (σ : Sg) (v1 : Int) (v2 : Int) (v3 : Int64) (g1 : rng v1) (g2 : rng v2), K0 σ v1 v2 v3 → RG σ → Shp dm ra jx rm σ → JJ p l e R s m args below meth c 8 D cA A n0 s0 QM σ 0 [(0, .ref rm), (1, .int (i32 v1)), (2, .int (i32 v2)), (3, .long v3)] []) : ∀ (σ : Sg) (v1 : Int) (v2 : Int) (v3 : Int64) (v5 : Int) (g1 : rng v1) (g2 : rng v2) (g5 : rng v5), w_X16_growGaps_171 ra jx rm K0 Q X σ v1 v2 v3 v5 → RG σ → Shp dm ra jx rm σ → JJ p l e R s m args below meth c 8 D cA A n0 s0 QM σ 171 [(0, .ref rm), (1, .int (i32 v1)), (2, .int (i32 v2)), (3, .long v3), (5, .int (i32 v5))] [] := by
  intro σ v1 v2 v3 v5 g1 g2 g5 h hGσ hS H locs ls hH hl hc
  have B := K.1
  unfold w_X16_growGaps_171 at h
  refine lv_aload_n B.1 B.2.1 dX16_growGaps_171 rfl (lv_at hl 0 rfl) ?_
  refine lv_iload_n B.1 B.2.1 dX16_growGaps_172 rfl (lv_at hl 1 rfl) ?_
  refine lv_iload_n B.1 B.2.1 dX16_growGaps_173 rfl (lv_at hl 2 rfl) ?_
  refine lv_iload B.1 B.2.1 dX16_growGaps_174 (lv_at hl 4 rfl) ?_
  refine lv_aload_n B.1 B.2.1 dX16_growGaps_176 rfl (lv_at hl 0 rfl) ?_
  refine r_arr B hH hS 72 (kd := 101) (n := 4000) (by decide) (by decide) wf_X16_525 rfl rfl dX16_growGaps_177 ?_
  refine lv_iload B.1 B.2.1 dX16_growGaps_180 (lv_at hl 4 rfl) ?_
  obtain ⟨q1, h⟩ := h
  refine x_lald B K.2.1 hH (hS.ar (k := 72) (kd := 101) (n := 4000) (by decide)) (by decide) q1 dX16_growGaps_182 ?_
  refine lv_aload_n B.1 B.2.1 dX16_growGaps_183 rfl (lv_at hl 0 rfl) ?_
  refine r_getp B hH hS 17 (by decide) wf_X16_356 rfl rfl dX16_growGaps_184 ?_
  obtain ⟨a7, ea7, ja7, h⟩ := h
  refine W.eq (g2 := F0 m 187 ls [.ref a7, .long (gJ σ (ra 72) v5.toNat), .int (i32 v5), .int (i32 v2), .int (i32 v1), .ref rm]) (by rw [ea7]; rfl) ?_
  refine n_arr B hH hS ja7 8 (kd := 101) (n := 16) (by decide) (by decide) (List.mem_of_getElem? (i := 8) rfl) rfl dX16_growGaps_187 ?_
  refine lv_iload_n B.1 B.2.1 dX16_growGaps_190 rfl (lv_at hl 2 rfl) ?_
  obtain ⟨q3, h⟩ := h
  refine x_lald B K.2.1 hH (hS.ja ja7 (k := 8) (kd := 101) (n := 16) (by decide)) (by decide) q3 dX16_growGaps_191 ?_
  refine lv_ladd B.1 B.2.1 dX16_growGaps_192 ?_
  refine lv_lconst (v := 1) B.1 B.2.1 dX16_growGaps_193 (by decide) ?_
  refine lv_lsub B.1 B.2.1 dX16_growGaps_194 ?_
  refine c_V B hH hl hc K.2.2.1 (C := RX16) (T := TX16) (N := 123) (ci := 16) (As := [.int (i32 v1), .int (i32 v2), .int (i32 v5), .long (((gJ σ (ra 72) v5.toNat) + (gJ σ (jx a7 8) v2.toNat)) - 1)]) (ok_X16_emitFold K.2.1 σ v1 v2 v5 (((gJ σ (ra 72) v5.toNat) + (gJ σ (jx a7 8) v2.toNat)) - 1) g1 g2 g5 hGσ hS h) wc_X16_632 4 hd_X16_emitFold ⟨Nat.le_trans (Nat.le_of_ble_eq_true rfl) K.2.2.2.1, Nat.le_trans (Nat.le_of_ble_eq_true rfl) K.2.2.2.2.1⟩ hS.1.1 hS.1.2 (by decide) rfl rfl (rest := []) rfl (Nat.le_of_ble_eq_true rfl) dX16_growGaps_195 (fun σ8 w hq => ?_) (fun σ9 E9 hx9 => hX σ9 E9 _ _ _ (tb_out K.2.2.2.2.2 rfl) hx9.1 hx9.2.1 hx9.2.2)
  obtain ⟨rfl, h, hGσ8, hS⟩ := hq
  intro H locs ls hH hl hc
  refine W.eq (g2 := F0 m 198 ls []) (rfl) ?_
  try dsimp only at h
  exact a_X16_growGaps_198 K hQ hX hK0 _ _ _ _ _ g1 g2 g5 h hGσ8 hS _ _ _ hH (lv_sub (l' := [(0, .ref rm), (1, .int (i32 v1)), (2, .int (i32 v2)), (3, .long v3), (5, .int (i32 v5))]) hl [0, 1, 2, 3, 4] rfl) hc
set_option maxRecDepth 20000 in
theorem a_X16_growGaps_165 {Q : Sg → Unit → Prop} {X : Sg → String → Prop} (K : MC R p s m args c cX16_growGaps 8 RX16 D cA tys A n0 s0 4 105 []) (hQ : HQV p l e R s m args below meth c cX16_growGaps D cA A n0 s0 QM dm ra jx rm Q) (hX : HX p l e R s m args below meth c 8 D cA A n0 s0 QM dm ra jx rm X) {K0 : Sg → Int → Int → Int64 → Prop} (hK0 : ∀ (σ : Sg) (v1 : Int) (v2 : Int) (v3 : Int64) (g1 : rng v1) (g2 : rng v2), K0 σ v1 v2 v3 → RG σ → Shp dm ra jx rm σ → JJ p l e R s m args below meth c 8 D cA A n0 s0 QM σ 0 [(0, .ref rm), (1, .int (i32 v1)), (2, .int (i32 v2)), (3, .long v3)] []) : ∀ (σ : Sg) (v1 : Int) (v2 : Int) (v3 : Int64) (v5 : Int) (g1 : rng v1) (g2 : rng v2) (g5 : rng v5), w_X16_growGaps_165 ra jx rm K0 Q X σ v1 v2 v3 v5 → RG σ → Shp dm ra jx rm σ → JJ p l e R s m args below meth c 8 D cA A n0 s0 QM σ 165 [(0, .ref rm), (1, .int (i32 v1)), (2, .int (i32 v2)), (3, .long v3), (5, .int (i32 v5))] [] := by
  intro σ v1 v2 v3 v5 g1 g2 g5 h hGσ hS H locs ls hH hl hc
  have B := K.1
  unfold w_X16_growGaps_165 at h
  refine lv_iload B.1 B.2.1 dX16_growGaps_165 (lv_at hl 4 rfl) ?_
  refine lv_iconst (v := i32 (-1)) B.1 B.2.1 dX16_growGaps_167 (by decide) ?_
  refine lv_icmp_eq (tgt := 198) B.1 B.2.1 dX16_growGaps_168 (by decide) (fun h9 => ?_) (fun h9 => ?_)
  · rw [if_pos ((i32_eq g5 (by unfold rng; omega)).mp h9)] at h
    exact a_X16_growGaps_198 K hQ hX hK0 _ _ _ _ _ g1 g2 g5 h hGσ hS _ _ _ hH (lv_sub (l' := [(0, .ref rm), (1, .int (i32 v1)), (2, .int (i32 v2)), (3, .long v3), (5, .int (i32 v5))]) hl [0, 1, 2, 3, 4] rfl) hc
  · rw [if_neg (fun q => h9 ((i32_eq g5 (by unfold rng; omega)).mpr q))] at h
    exact a_X16_growGaps_171 K hQ hX hK0 _ _ _ _ _ g1 g2 g5 h hGσ hS _ _ _ hH (lv_sub (l' := [(0, .ref rm), (1, .int (i32 v1)), (2, .int (i32 v2)), (3, .long v3), (5, .int (i32 v5))]) hl [0, 1, 2, 3, 4] rfl) hc
set_option maxRecDepth 20000 in
theorem a_X16_growGaps_153 {Q : Sg → Unit → Prop} {X : Sg → String → Prop} (K : MC R p s m args c cX16_growGaps 8 RX16 D cA tys A n0 s0 4 105 []) (hQ : HQV p l e R s m args below meth c cX16_growGaps D cA A n0 s0 QM dm ra jx rm Q) (hX : HX p l e R s m args below meth c 8 D cA A n0 s0 QM dm ra jx rm X) {K0 : Sg → Int → Int → Int64 → Prop} (hK0 : ∀ (σ : Sg) (v1 : Int) (v2 : Int) (v3 : Int64) (g1 : rng v1) (g2 : rng v2), K0 σ v1 v2 v3 → RG σ → Shp dm ra jx rm σ → JJ p l e R s m args below meth c 8 D cA A n0 s0 QM σ 0 [(0, .ref rm), (1, .int (i32 v1)), (2, .int (i32 v2)), (3, .long v3)] []) {K11 : Sg → Int → Int → Int64 → Int → Int → Prop} (hK11 : ∀ (σ : Sg) (v1 : Int) (v2 : Int) (v3 : Int64) (v5 : Int) (v6 : Int) (g1 : rng v1) (g2 : rng v2) (g5 : rng v5) (g6 : rng v6), K11 σ v1 v2 v3 v5 v6 → RG σ → Shp dm ra jx rm σ → JJ p l e R s m args below meth c 8 D cA A n0 s0 QM σ 11 [(0, .ref rm), (1, .int (i32 v1)), (2, .int (i32 v2)), (3, .long v3), (5, .int (i32 v5)), (6, .int (i32 v6))] []) : ∀ (σ : Sg) (v1 : Int) (v2 : Int) (v3 : Int64) (v5 : Int) (v6 : Int) (g1 : rng v1) (g2 : rng v2) (g5 : rng v5) (g6 : rng v6), w_X16_growGaps_153 ra jx rm K0 K11 Q X σ v1 v2 v3 v5 v6 → RG σ → Shp dm ra jx rm σ → JJ p l e R s m args below meth c 8 D cA A n0 s0 QM σ 153 [(0, .ref rm), (1, .int (i32 v1)), (2, .int (i32 v2)), (3, .long v3), (5, .int (i32 v5)), (6, .int (i32 v6))] [] := by
  intro σ v1 v2 v3 v5 v6 g1 g2 g5 g6 h hGσ hS H locs ls hH hl hc
  have B := K.1
  unfold w_X16_growGaps_153 at h
  refine lv_aload_n B.1 B.2.1 dX16_growGaps_153 rfl (lv_at hl 0 rfl) ?_
  refine r_arr B hH hS 75 (kd := 100) (n := 4000) (by decide) (by decide) wf_X16_495 rfl rfl dX16_growGaps_154 ?_
  refine lv_iload B.1 B.2.1 dX16_growGaps_157 (lv_at hl 5 rfl) ?_
  obtain ⟨q1, h⟩ := h
  refine x_iald B K.2.1 hH (hS.ar (k := 75) (kd := 100) (n := 4000) (by decide)) (by decide) q1 dX16_growGaps_159 ?_
  refine lv_istore (lv' := [(6, .int (i32 (gI σ (ra 75) v6.toNat))), (0, .ref rm), (1, .int (i32 v1)), (2, .int (i32 v2)), (3, .long v3), (5, .int (i32 v5))]) B.1 B.2.1 dX16_growGaps_160 hl (by decide) rfl (fun ls hl => ?_)
  refine lv_goto (tgt := 11) B.1 B.2.1 dX16_growGaps_162 (by decide) ?_
  exact hK11 _ _ _ _ _ _ g1 g2 g5 (hGσ _ _) h hGσ hS _ _ _ hH (lv_sub (l' := [(0, .ref rm), (1, .int (i32 v1)), (2, .int (i32 v2)), (3, .long v3), (5, .int (i32 v5)), (6, .int (i32 (gI σ (ra 75) v6.toNat)))]) hl [1, 2, 3, 4, 5, 0] rfl) hc
set_option maxRecDepth 20000 in
theorem a_X16_growGaps_149 {Q : Sg → Unit → Prop} {X : Sg → String → Prop} (K : MC R p s m args c cX16_growGaps 8 RX16 D cA tys A n0 s0 4 105 []) (hQ : HQV p l e R s m args below meth c cX16_growGaps D cA A n0 s0 QM dm ra jx rm Q) (hX : HX p l e R s m args below meth c 8 D cA A n0 s0 QM dm ra jx rm X) {K0 : Sg → Int → Int → Int64 → Prop} (hK0 : ∀ (σ : Sg) (v1 : Int) (v2 : Int) (v3 : Int64) (g1 : rng v1) (g2 : rng v2), K0 σ v1 v2 v3 → RG σ → Shp dm ra jx rm σ → JJ p l e R s m args below meth c 8 D cA A n0 s0 QM σ 0 [(0, .ref rm), (1, .int (i32 v1)), (2, .int (i32 v2)), (3, .long v3)] []) {K11 : Sg → Int → Int → Int64 → Int → Int → Prop} (hK11 : ∀ (σ : Sg) (v1 : Int) (v2 : Int) (v3 : Int64) (v5 : Int) (v6 : Int) (g1 : rng v1) (g2 : rng v2) (g5 : rng v5) (g6 : rng v6), K11 σ v1 v2 v3 v5 v6 → RG σ → Shp dm ra jx rm σ → JJ p l e R s m args below meth c 8 D cA A n0 s0 QM σ 11 [(0, .ref rm), (1, .int (i32 v1)), (2, .int (i32 v2)), (3, .long v3), (5, .int (i32 v5)), (6, .int (i32 v6))] []) : ∀ (σ : Sg) (v1 : Int) (v2 : Int) (v3 : Int64) (v6 : Int) (g1 : rng v1) (g2 : rng v2) (g6 : rng v6), w_X16_growGaps_149 ra jx rm K0 K11 Q X σ v1 v2 v3 v6 → RG σ → Shp dm ra jx rm σ → JJ p l e R s m args below meth c 8 D cA A n0 s0 QM σ 149 [(0, .ref rm), (1, .int (i32 v1)), (2, .int (i32 v2)), (3, .long v3), (6, .int (i32 v6))] [] := by
  intro σ v1 v2 v3 v6 g1 g2 g6 h hGσ hS H locs ls hH hl hc
  have B := K.1
  unfold w_X16_growGaps_149 at h
  refine lv_iload B.1 B.2.1 dX16_growGaps_149 (lv_at hl 4 rfl) ?_
  refine lv_istore (lv' := [(5, .int (i32 v6)), (0, .ref rm), (1, .int (i32 v1)), (2, .int (i32 v2)), (3, .long v3), (6, .int (i32 v6))]) B.1 B.2.1 dX16_growGaps_151 hl (by decide) rfl (fun ls hl => ?_)
  exact a_X16_growGaps_153 K hQ hX hK0 hK11 _ _ _ _ _ _ g1 g2 g6 g6 h hGσ hS _ _ _ hH (lv_sub (l' := [(0, .ref rm), (1, .int (i32 v1)), (2, .int (i32 v2)), (3, .long v3), (5, .int (i32 v6)), (6, .int (i32 v6))]) hl [1, 2, 3, 4, 0, 5] rfl) hc
set_option maxRecDepth 20000 in
theorem a_X16_growGaps_131 {Q : Sg → Unit → Prop} {X : Sg → String → Prop} (K : MC R p s m args c cX16_growGaps 8 RX16 D cA tys A n0 s0 4 105 []) (hQ : HQV p l e R s m args below meth c cX16_growGaps D cA A n0 s0 QM dm ra jx rm Q) (hX : HX p l e R s m args below meth c 8 D cA A n0 s0 QM dm ra jx rm X) {K0 : Sg → Int → Int → Int64 → Prop} (hK0 : ∀ (σ : Sg) (v1 : Int) (v2 : Int) (v3 : Int64) (g1 : rng v1) (g2 : rng v2), K0 σ v1 v2 v3 → RG σ → Shp dm ra jx rm σ → JJ p l e R s m args below meth c 8 D cA A n0 s0 QM σ 0 [(0, .ref rm), (1, .int (i32 v1)), (2, .int (i32 v2)), (3, .long v3)] []) {K11 : Sg → Int → Int → Int64 → Int → Int → Prop} (hK11 : ∀ (σ : Sg) (v1 : Int) (v2 : Int) (v3 : Int64) (v5 : Int) (v6 : Int) (g1 : rng v1) (g2 : rng v2) (g5 : rng v5) (g6 : rng v6), K11 σ v1 v2 v3 v5 v6 → RG σ → Shp dm ra jx rm σ → JJ p l e R s m args below meth c 8 D cA A n0 s0 QM σ 11 [(0, .ref rm), (1, .int (i32 v1)), (2, .int (i32 v2)), (3, .long v3), (5, .int (i32 v5)), (6, .int (i32 v6))] []) : ∀ (σ : Sg) (v1 : Int) (v2 : Int) (v3 : Int64) (v5 : Int) (v6 : Int) (g1 : rng v1) (g2 : rng v2) (g5 : rng v5) (g6 : rng v6), w_X16_growGaps_131 ra jx rm K0 K11 Q X σ v1 v2 v3 v5 v6 → RG σ → Shp dm ra jx rm σ → JJ p l e R s m args below meth c 8 D cA A n0 s0 QM σ 131 [(0, .ref rm), (1, .int (i32 v1)), (2, .int (i32 v2)), (3, .long v3), (5, .int (i32 v5)), (6, .int (i32 v6))] [] := by
  intro σ v1 v2 v3 v5 v6 g1 g2 g5 g6 h hGσ hS H locs ls hH hl hc
  have B := K.1
  unfold w_X16_growGaps_131 at h
  refine lv_aload_n B.1 B.2.1 dX16_growGaps_131 rfl (lv_at hl 0 rfl) ?_
  refine r_arr B hH hS 71 (kd := 101) (n := 4000) (by decide) (by decide) wf_X16_522 rfl rfl dX16_growGaps_132 ?_
  refine lv_iload B.1 B.2.1 dX16_growGaps_135 (lv_at hl 5 rfl) ?_
  obtain ⟨q1, h⟩ := h
  refine x_lald B K.2.1 hH (hS.ar (k := 71) (kd := 101) (n := 4000) (by decide)) (by decide) q1 dX16_growGaps_137 ?_
  refine lv_aload_n B.1 B.2.1 dX16_growGaps_138 rfl (lv_at hl 0 rfl) ?_
  refine r_arr B hH hS 71 (kd := 101) (n := 4000) (by decide) (by decide) wf_X16_522 rfl rfl dX16_growGaps_139 ?_
  refine lv_iload B.1 B.2.1 dX16_growGaps_142 (lv_at hl 4 rfl) ?_
  obtain ⟨q2, h⟩ := h
  refine x_lald B K.2.1 hH (hS.ar (k := 71) (kd := 101) (n := 4000) (by decide)) (by decide) q2 dX16_growGaps_144 ?_
  refine W.lcmp B.1 B.2.1 dX16_growGaps_145 ?_
  refine lv_if_ge (tgt := 153) B.1 B.2.1 dX16_growGaps_146 (by decide) (fun h9 => ?_) (fun h9 => ?_)
  · rw [if_pos ((lg_cmp_ge _ _).mp h9)] at h
    exact a_X16_growGaps_153 K hQ hX hK0 hK11 _ _ _ _ _ _ g1 g2 g5 g6 h hGσ hS _ _ _ hH (lv_sub (l' := [(0, .ref rm), (1, .int (i32 v1)), (2, .int (i32 v2)), (3, .long v3), (5, .int (i32 v5)), (6, .int (i32 v6))]) hl [0, 1, 2, 3, 4, 5] rfl) hc
  · rw [if_neg (fun q => h9 ((lg_cmp_ge _ _).mpr q))] at h
    exact a_X16_growGaps_149 K hQ hX hK0 hK11 _ _ _ _ _ g1 g2 g6 h hGσ hS _ _ _ hH (lv_sub (l' := [(0, .ref rm), (1, .int (i32 v1)), (2, .int (i32 v2)), (3, .long v3), (6, .int (i32 v6))]) hl [0, 1, 2, 3, 5] rfl) hc
set_option maxRecDepth 20000 in
theorem a_X16_growGaps_113 {Q : Sg → Unit → Prop} {X : Sg → String → Prop} (K : MC R p s m args c cX16_growGaps 8 RX16 D cA tys A n0 s0 4 105 []) (hQ : HQV p l e R s m args below meth c cX16_growGaps D cA A n0 s0 QM dm ra jx rm Q) (hX : HX p l e R s m args below meth c 8 D cA A n0 s0 QM dm ra jx rm X) {K0 : Sg → Int → Int → Int64 → Prop} (hK0 : ∀ (σ : Sg) (v1 : Int) (v2 : Int) (v3 : Int64) (g1 : rng v1) (g2 : rng v2), K0 σ v1 v2 v3 → RG σ → Shp dm ra jx rm σ → JJ p l e R s m args below meth c 8 D cA A n0 s0 QM σ 0 [(0, .ref rm), (1, .int (i32 v1)), (2, .int (i32 v2)), (3, .long v3)] []) {K11 : Sg → Int → Int → Int64 → Int → Int → Prop} (hK11 : ∀ (σ : Sg) (v1 : Int) (v2 : Int) (v3 : Int64) (v5 : Int) (v6 : Int) (g1 : rng v1) (g2 : rng v2) (g5 : rng v5) (g6 : rng v6), K11 σ v1 v2 v3 v5 v6 → RG σ → Shp dm ra jx rm σ → JJ p l e R s m args below meth c 8 D cA A n0 s0 QM σ 11 [(0, .ref rm), (1, .int (i32 v1)), (2, .int (i32 v2)), (3, .long v3), (5, .int (i32 v5)), (6, .int (i32 v6))] []) : ∀ (σ : Sg) (v1 : Int) (v2 : Int) (v3 : Int64) (v5 : Int) (v6 : Int) (g1 : rng v1) (g2 : rng v2) (g5 : rng v5) (g6 : rng v6), w_X16_growGaps_113 ra jx rm K0 K11 Q X σ v1 v2 v3 v5 v6 → RG σ → Shp dm ra jx rm σ → JJ p l e R s m args below meth c 8 D cA A n0 s0 QM σ 113 [(0, .ref rm), (1, .int (i32 v1)), (2, .int (i32 v2)), (3, .long v3), (5, .int (i32 v5)), (6, .int (i32 v6))] [] := by
  intro σ v1 v2 v3 v5 v6 g1 g2 g5 g6 h hGσ hS H locs ls hH hl hc
  have B := K.1
  unfold w_X16_growGaps_113 at h
  refine lv_aload_n B.1 B.2.1 dX16_growGaps_113 rfl (lv_at hl 0 rfl) ?_
  refine r_arr B hH hS 70 (kd := 101) (n := 4000) (by decide) (by decide) wf_X16_519 rfl rfl dX16_growGaps_114 ?_
  refine lv_iload B.1 B.2.1 dX16_growGaps_117 (lv_at hl 5 rfl) ?_
  obtain ⟨q1, h⟩ := h
  refine x_lald B K.2.1 hH (hS.ar (k := 70) (kd := 101) (n := 4000) (by decide)) (by decide) q1 dX16_growGaps_119 ?_
  refine lv_aload_n B.1 B.2.1 dX16_growGaps_120 rfl (lv_at hl 0 rfl) ?_
  refine r_arr B hH hS 70 (kd := 101) (n := 4000) (by decide) (by decide) wf_X16_519 rfl rfl dX16_growGaps_121 ?_
  refine lv_iload B.1 B.2.1 dX16_growGaps_124 (lv_at hl 4 rfl) ?_
  obtain ⟨q2, h⟩ := h
  refine x_lald B K.2.1 hH (hS.ar (k := 70) (kd := 101) (n := 4000) (by decide)) (by decide) q2 dX16_growGaps_126 ?_
  refine W.lcmp B.1 B.2.1 dX16_growGaps_127 ?_
  refine lv_if_ne (tgt := 153) B.1 B.2.1 dX16_growGaps_128 (by decide) (fun h9 => ?_) (fun h9 => ?_)
  · rw [if_pos (fun q => h9 ((lg_cmp_eq _ _).mpr q))] at h
    exact a_X16_growGaps_153 K hQ hX hK0 hK11 _ _ _ _ _ _ g1 g2 g5 g6 h hGσ hS _ _ _ hH (lv_sub (l' := [(0, .ref rm), (1, .int (i32 v1)), (2, .int (i32 v2)), (3, .long v3), (5, .int (i32 v5)), (6, .int (i32 v6))]) hl [0, 1, 2, 3, 4, 5] rfl) hc
  · rw [if_neg (fun q => q ((lg_cmp_eq _ _).mp h9))] at h
    exact a_X16_growGaps_131 K hQ hX hK0 hK11 _ _ _ _ _ _ g1 g2 g5 g6 h hGσ hS _ _ _ hH (lv_sub (l' := [(0, .ref rm), (1, .int (i32 v1)), (2, .int (i32 v2)), (3, .long v3), (5, .int (i32 v5)), (6, .int (i32 v6))]) hl [0, 1, 2, 3, 4, 5] rfl) hc
set_option maxRecDepth 20000 in
theorem a_X16_growGaps_95 {Q : Sg → Unit → Prop} {X : Sg → String → Prop} (K : MC R p s m args c cX16_growGaps 8 RX16 D cA tys A n0 s0 4 105 []) (hQ : HQV p l e R s m args below meth c cX16_growGaps D cA A n0 s0 QM dm ra jx rm Q) (hX : HX p l e R s m args below meth c 8 D cA A n0 s0 QM dm ra jx rm X) {K0 : Sg → Int → Int → Int64 → Prop} (hK0 : ∀ (σ : Sg) (v1 : Int) (v2 : Int) (v3 : Int64) (g1 : rng v1) (g2 : rng v2), K0 σ v1 v2 v3 → RG σ → Shp dm ra jx rm σ → JJ p l e R s m args below meth c 8 D cA A n0 s0 QM σ 0 [(0, .ref rm), (1, .int (i32 v1)), (2, .int (i32 v2)), (3, .long v3)] []) {K11 : Sg → Int → Int → Int64 → Int → Int → Prop} (hK11 : ∀ (σ : Sg) (v1 : Int) (v2 : Int) (v3 : Int64) (v5 : Int) (v6 : Int) (g1 : rng v1) (g2 : rng v2) (g5 : rng v5) (g6 : rng v6), K11 σ v1 v2 v3 v5 v6 → RG σ → Shp dm ra jx rm σ → JJ p l e R s m args below meth c 8 D cA A n0 s0 QM σ 11 [(0, .ref rm), (1, .int (i32 v1)), (2, .int (i32 v2)), (3, .long v3), (5, .int (i32 v5)), (6, .int (i32 v6))] []) : ∀ (σ : Sg) (v1 : Int) (v2 : Int) (v3 : Int64) (v5 : Int) (v6 : Int) (g1 : rng v1) (g2 : rng v2) (g5 : rng v5) (g6 : rng v6), w_X16_growGaps_95 ra jx rm K0 K11 Q X σ v1 v2 v3 v5 v6 → RG σ → Shp dm ra jx rm σ → JJ p l e R s m args below meth c 8 D cA A n0 s0 QM σ 95 [(0, .ref rm), (1, .int (i32 v1)), (2, .int (i32 v2)), (3, .long v3), (5, .int (i32 v5)), (6, .int (i32 v6))] [] := by
  intro σ v1 v2 v3 v5 v6 g1 g2 g5 g6 h hGσ hS H locs ls hH hl hc
  have B := K.1
  unfold w_X16_growGaps_95 at h
  refine lv_aload_n B.1 B.2.1 dX16_growGaps_95 rfl (lv_at hl 0 rfl) ?_
  refine r_arr B hH hS 70 (kd := 101) (n := 4000) (by decide) (by decide) wf_X16_519 rfl rfl dX16_growGaps_96 ?_
  refine lv_iload B.1 B.2.1 dX16_growGaps_99 (lv_at hl 5 rfl) ?_
  obtain ⟨q1, h⟩ := h
  refine x_lald B K.2.1 hH (hS.ar (k := 70) (kd := 101) (n := 4000) (by decide)) (by decide) q1 dX16_growGaps_101 ?_
  refine lv_aload_n B.1 B.2.1 dX16_growGaps_102 rfl (lv_at hl 0 rfl) ?_
  refine r_arr B hH hS 70 (kd := 101) (n := 4000) (by decide) (by decide) wf_X16_519 rfl rfl dX16_growGaps_103 ?_
  refine lv_iload B.1 B.2.1 dX16_growGaps_106 (lv_at hl 4 rfl) ?_
  obtain ⟨q2, h⟩ := h
  refine x_lald B K.2.1 hH (hS.ar (k := 70) (kd := 101) (n := 4000) (by decide)) (by decide) q2 dX16_growGaps_108 ?_
  refine W.lcmp B.1 B.2.1 dX16_growGaps_109 ?_
  refine lv_if_lt (tgt := 149) B.1 B.2.1 dX16_growGaps_110 (by decide) (fun h9 => ?_) (fun h9 => ?_)
  · rw [if_pos ((lg_cmp_lt _ _).mp h9)] at h
    exact a_X16_growGaps_149 K hQ hX hK0 hK11 _ _ _ _ _ g1 g2 g6 h hGσ hS _ _ _ hH (lv_sub (l' := [(0, .ref rm), (1, .int (i32 v1)), (2, .int (i32 v2)), (3, .long v3), (6, .int (i32 v6))]) hl [0, 1, 2, 3, 5] rfl) hc
  · rw [if_neg (fun q => h9 ((lg_cmp_lt _ _).mpr q))] at h
    exact a_X16_growGaps_113 K hQ hX hK0 hK11 _ _ _ _ _ _ g1 g2 g5 g6 h hGσ hS _ _ _ hH (lv_sub (l' := [(0, .ref rm), (1, .int (i32 v1)), (2, .int (i32 v2)), (3, .long v3), (5, .int (i32 v5)), (6, .int (i32 v6))]) hl [0, 1, 2, 3, 4, 5] rfl) hc
set_option maxRecDepth 20000 in
theorem a_X16_growGaps_77 {Q : Sg → Unit → Prop} {X : Sg → String → Prop} (K : MC R p s m args c cX16_growGaps 8 RX16 D cA tys A n0 s0 4 105 []) (hQ : HQV p l e R s m args below meth c cX16_growGaps D cA A n0 s0 QM dm ra jx rm Q) (hX : HX p l e R s m args below meth c 8 D cA A n0 s0 QM dm ra jx rm X) {K0 : Sg → Int → Int → Int64 → Prop} (hK0 : ∀ (σ : Sg) (v1 : Int) (v2 : Int) (v3 : Int64) (g1 : rng v1) (g2 : rng v2), K0 σ v1 v2 v3 → RG σ → Shp dm ra jx rm σ → JJ p l e R s m args below meth c 8 D cA A n0 s0 QM σ 0 [(0, .ref rm), (1, .int (i32 v1)), (2, .int (i32 v2)), (3, .long v3)] []) {K11 : Sg → Int → Int → Int64 → Int → Int → Prop} (hK11 : ∀ (σ : Sg) (v1 : Int) (v2 : Int) (v3 : Int64) (v5 : Int) (v6 : Int) (g1 : rng v1) (g2 : rng v2) (g5 : rng v5) (g6 : rng v6), K11 σ v1 v2 v3 v5 v6 → RG σ → Shp dm ra jx rm σ → JJ p l e R s m args below meth c 8 D cA A n0 s0 QM σ 11 [(0, .ref rm), (1, .int (i32 v1)), (2, .int (i32 v2)), (3, .long v3), (5, .int (i32 v5)), (6, .int (i32 v6))] []) : ∀ (σ : Sg) (v1 : Int) (v2 : Int) (v3 : Int64) (v5 : Int) (v6 : Int) (g1 : rng v1) (g2 : rng v2) (g5 : rng v5) (g6 : rng v6), w_X16_growGaps_77 ra jx rm K0 K11 Q X σ v1 v2 v3 v5 v6 → RG σ → Shp dm ra jx rm σ → JJ p l e R s m args below meth c 8 D cA A n0 s0 QM σ 77 [(0, .ref rm), (1, .int (i32 v1)), (2, .int (i32 v2)), (3, .long v3), (5, .int (i32 v5)), (6, .int (i32 v6))] [] := by
  intro σ v1 v2 v3 v5 v6 g1 g2 g5 g6 h hGσ hS H locs ls hH hl hc
  have B := K.1
  unfold w_X16_growGaps_77 at h
  refine lv_aload_n B.1 B.2.1 dX16_growGaps_77 rfl (lv_at hl 0 rfl) ?_
  refine r_arr B hH hS 72 (kd := 101) (n := 4000) (by decide) (by decide) wf_X16_525 rfl rfl dX16_growGaps_78 ?_
  refine lv_iload B.1 B.2.1 dX16_growGaps_81 (lv_at hl 5 rfl) ?_
  obtain ⟨q1, h⟩ := h
  refine x_lald B K.2.1 hH (hS.ar (k := 72) (kd := 101) (n := 4000) (by decide)) (by decide) q1 dX16_growGaps_83 ?_
  refine lv_aload_n B.1 B.2.1 dX16_growGaps_84 rfl (lv_at hl 0 rfl) ?_
  refine r_arr B hH hS 72 (kd := 101) (n := 4000) (by decide) (by decide) wf_X16_525 rfl rfl dX16_growGaps_85 ?_
  refine lv_iload B.1 B.2.1 dX16_growGaps_88 (lv_at hl 4 rfl) ?_
  obtain ⟨q2, h⟩ := h
  refine x_lald B K.2.1 hH (hS.ar (k := 72) (kd := 101) (n := 4000) (by decide)) (by decide) q2 dX16_growGaps_90 ?_
  refine W.lcmp B.1 B.2.1 dX16_growGaps_91 ?_
  refine lv_if_ne (tgt := 153) B.1 B.2.1 dX16_growGaps_92 (by decide) (fun h9 => ?_) (fun h9 => ?_)
  · rw [if_pos (fun q => h9 ((lg_cmp_eq _ _).mpr q))] at h
    exact a_X16_growGaps_153 K hQ hX hK0 hK11 _ _ _ _ _ _ g1 g2 g5 g6 h hGσ hS _ _ _ hH (lv_sub (l' := [(0, .ref rm), (1, .int (i32 v1)), (2, .int (i32 v2)), (3, .long v3), (5, .int (i32 v5)), (6, .int (i32 v6))]) hl [0, 1, 2, 3, 4, 5] rfl) hc
  · rw [if_neg (fun q => q ((lg_cmp_eq _ _).mp h9))] at h
    exact a_X16_growGaps_95 K hQ hX hK0 hK11 _ _ _ _ _ _ g1 g2 g5 g6 h hGσ hS _ _ _ hH (lv_sub (l' := [(0, .ref rm), (1, .int (i32 v1)), (2, .int (i32 v2)), (3, .long v3), (5, .int (i32 v5)), (6, .int (i32 v6))]) hl [0, 1, 2, 3, 4, 5] rfl) hc
set_option maxRecDepth 20000 in
theorem a_X16_growGaps_59 {Q : Sg → Unit → Prop} {X : Sg → String → Prop} (K : MC R p s m args c cX16_growGaps 8 RX16 D cA tys A n0 s0 4 105 []) (hQ : HQV p l e R s m args below meth c cX16_growGaps D cA A n0 s0 QM dm ra jx rm Q) (hX : HX p l e R s m args below meth c 8 D cA A n0 s0 QM dm ra jx rm X) {K0 : Sg → Int → Int → Int64 → Prop} (hK0 : ∀ (σ : Sg) (v1 : Int) (v2 : Int) (v3 : Int64) (g1 : rng v1) (g2 : rng v2), K0 σ v1 v2 v3 → RG σ → Shp dm ra jx rm σ → JJ p l e R s m args below meth c 8 D cA A n0 s0 QM σ 0 [(0, .ref rm), (1, .int (i32 v1)), (2, .int (i32 v2)), (3, .long v3)] []) {K11 : Sg → Int → Int → Int64 → Int → Int → Prop} (hK11 : ∀ (σ : Sg) (v1 : Int) (v2 : Int) (v3 : Int64) (v5 : Int) (v6 : Int) (g1 : rng v1) (g2 : rng v2) (g5 : rng v5) (g6 : rng v6), K11 σ v1 v2 v3 v5 v6 → RG σ → Shp dm ra jx rm σ → JJ p l e R s m args below meth c 8 D cA A n0 s0 QM σ 11 [(0, .ref rm), (1, .int (i32 v1)), (2, .int (i32 v2)), (3, .long v3), (5, .int (i32 v5)), (6, .int (i32 v6))] []) : ∀ (σ : Sg) (v1 : Int) (v2 : Int) (v3 : Int64) (v5 : Int) (v6 : Int) (g1 : rng v1) (g2 : rng v2) (g5 : rng v5) (g6 : rng v6), w_X16_growGaps_59 ra jx rm K0 K11 Q X σ v1 v2 v3 v5 v6 → RG σ → Shp dm ra jx rm σ → JJ p l e R s m args below meth c 8 D cA A n0 s0 QM σ 59 [(0, .ref rm), (1, .int (i32 v1)), (2, .int (i32 v2)), (3, .long v3), (5, .int (i32 v5)), (6, .int (i32 v6))] [] := by
  intro σ v1 v2 v3 v5 v6 g1 g2 g5 g6 h hGσ hS H locs ls hH hl hc
  have B := K.1
  unfold w_X16_growGaps_59 at h
  refine lv_aload_n B.1 B.2.1 dX16_growGaps_59 rfl (lv_at hl 0 rfl) ?_
  refine r_arr B hH hS 72 (kd := 101) (n := 4000) (by decide) (by decide) wf_X16_525 rfl rfl dX16_growGaps_60 ?_
  refine lv_iload B.1 B.2.1 dX16_growGaps_63 (lv_at hl 5 rfl) ?_
  obtain ⟨q1, h⟩ := h
  refine x_lald B K.2.1 hH (hS.ar (k := 72) (kd := 101) (n := 4000) (by decide)) (by decide) q1 dX16_growGaps_65 ?_
  refine lv_aload_n B.1 B.2.1 dX16_growGaps_66 rfl (lv_at hl 0 rfl) ?_
  refine r_arr B hH hS 72 (kd := 101) (n := 4000) (by decide) (by decide) wf_X16_525 rfl rfl dX16_growGaps_67 ?_
  refine lv_iload B.1 B.2.1 dX16_growGaps_70 (lv_at hl 4 rfl) ?_
  obtain ⟨q2, h⟩ := h
  refine x_lald B K.2.1 hH (hS.ar (k := 72) (kd := 101) (n := 4000) (by decide)) (by decide) q2 dX16_growGaps_72 ?_
  refine W.lcmp B.1 B.2.1 dX16_growGaps_73 ?_
  refine lv_if_lt (tgt := 149) B.1 B.2.1 dX16_growGaps_74 (by decide) (fun h9 => ?_) (fun h9 => ?_)
  · rw [if_pos ((lg_cmp_lt _ _).mp h9)] at h
    exact a_X16_growGaps_149 K hQ hX hK0 hK11 _ _ _ _ _ g1 g2 g6 h hGσ hS _ _ _ hH (lv_sub (l' := [(0, .ref rm), (1, .int (i32 v1)), (2, .int (i32 v2)), (3, .long v3), (6, .int (i32 v6))]) hl [0, 1, 2, 3, 5] rfl) hc
  · rw [if_neg (fun q => h9 ((lg_cmp_lt _ _).mpr q))] at h
    exact a_X16_growGaps_77 K hQ hX hK0 hK11 _ _ _ _ _ _ g1 g2 g5 g6 h hGσ hS _ _ _ hH (lv_sub (l' := [(0, .ref rm), (1, .int (i32 v1)), (2, .int (i32 v2)), (3, .long v3), (5, .int (i32 v5)), (6, .int (i32 v6))]) hl [0, 1, 2, 3, 4, 5] rfl) hc
set_option maxRecDepth 20000 in
theorem a_X16_growGaps_53 {Q : Sg → Unit → Prop} {X : Sg → String → Prop} (K : MC R p s m args c cX16_growGaps 8 RX16 D cA tys A n0 s0 4 105 []) (hQ : HQV p l e R s m args below meth c cX16_growGaps D cA A n0 s0 QM dm ra jx rm Q) (hX : HX p l e R s m args below meth c 8 D cA A n0 s0 QM dm ra jx rm X) {K0 : Sg → Int → Int → Int64 → Prop} (hK0 : ∀ (σ : Sg) (v1 : Int) (v2 : Int) (v3 : Int64) (g1 : rng v1) (g2 : rng v2), K0 σ v1 v2 v3 → RG σ → Shp dm ra jx rm σ → JJ p l e R s m args below meth c 8 D cA A n0 s0 QM σ 0 [(0, .ref rm), (1, .int (i32 v1)), (2, .int (i32 v2)), (3, .long v3)] []) {K11 : Sg → Int → Int → Int64 → Int → Int → Prop} (hK11 : ∀ (σ : Sg) (v1 : Int) (v2 : Int) (v3 : Int64) (v5 : Int) (v6 : Int) (g1 : rng v1) (g2 : rng v2) (g5 : rng v5) (g6 : rng v6), K11 σ v1 v2 v3 v5 v6 → RG σ → Shp dm ra jx rm σ → JJ p l e R s m args below meth c 8 D cA A n0 s0 QM σ 11 [(0, .ref rm), (1, .int (i32 v1)), (2, .int (i32 v2)), (3, .long v3), (5, .int (i32 v5)), (6, .int (i32 v6))] []) : ∀ (σ : Sg) (v1 : Int) (v2 : Int) (v3 : Int64) (v5 : Int) (v6 : Int) (g1 : rng v1) (g2 : rng v2) (g5 : rng v5) (g6 : rng v6), w_X16_growGaps_53 ra jx rm K0 K11 Q X σ v1 v2 v3 v5 v6 → RG σ → Shp dm ra jx rm σ → JJ p l e R s m args below meth c 8 D cA A n0 s0 QM σ 53 [(0, .ref rm), (1, .int (i32 v1)), (2, .int (i32 v2)), (3, .long v3), (5, .int (i32 v5)), (6, .int (i32 v6))] [] := by
  intro σ v1 v2 v3 v5 v6 g1 g2 g5 g6 h hGσ hS H locs ls hH hl hc
  have B := K.1
  unfold w_X16_growGaps_53 at h
  refine lv_iload B.1 B.2.1 dX16_growGaps_53 (lv_at hl 4 rfl) ?_
  refine lv_iconst (v := i32 (-1)) B.1 B.2.1 dX16_growGaps_55 (by decide) ?_
  refine lv_icmp_eq (tgt := 149) B.1 B.2.1 dX16_growGaps_56 (by decide) (fun h9 => ?_) (fun h9 => ?_)
  · rw [if_pos ((i32_eq g5 (by unfold rng; omega)).mp h9)] at h
    exact a_X16_growGaps_149 K hQ hX hK0 hK11 _ _ _ _ _ g1 g2 g6 h hGσ hS _ _ _ hH (lv_sub (l' := [(0, .ref rm), (1, .int (i32 v1)), (2, .int (i32 v2)), (3, .long v3), (6, .int (i32 v6))]) hl [0, 1, 2, 3, 5] rfl) hc
  · rw [if_neg (fun q => h9 ((i32_eq g5 (by unfold rng; omega)).mpr q))] at h
    exact a_X16_growGaps_59 K hQ hX hK0 hK11 _ _ _ _ _ _ g1 g2 g5 g6 h hGσ hS _ _ _ hH (lv_sub (l' := [(0, .ref rm), (1, .int (i32 v1)), (2, .int (i32 v2)), (3, .long v3), (5, .int (i32 v5)), (6, .int (i32 v6))]) hl [0, 1, 2, 3, 4, 5] rfl) hc
set_option maxRecDepth 20000 in
theorem a_X16_growGaps_46 {Q : Sg → Unit → Prop} {X : Sg → String → Prop} (K : MC R p s m args c cX16_growGaps 8 RX16 D cA tys A n0 s0 4 105 []) (hQ : HQV p l e R s m args below meth c cX16_growGaps D cA A n0 s0 QM dm ra jx rm Q) (hX : HX p l e R s m args below meth c 8 D cA A n0 s0 QM dm ra jx rm X) {K0 : Sg → Int → Int → Int64 → Prop} (hK0 : ∀ (σ : Sg) (v1 : Int) (v2 : Int) (v3 : Int64) (g1 : rng v1) (g2 : rng v2), K0 σ v1 v2 v3 → RG σ → Shp dm ra jx rm σ → JJ p l e R s m args below meth c 8 D cA A n0 s0 QM σ 0 [(0, .ref rm), (1, .int (i32 v1)), (2, .int (i32 v2)), (3, .long v3)] []) {K11 : Sg → Int → Int → Int64 → Int → Int → Prop} (hK11 : ∀ (σ : Sg) (v1 : Int) (v2 : Int) (v3 : Int64) (v5 : Int) (v6 : Int) (g1 : rng v1) (g2 : rng v2) (g5 : rng v5) (g6 : rng v6), K11 σ v1 v2 v3 v5 v6 → RG σ → Shp dm ra jx rm σ → JJ p l e R s m args below meth c 8 D cA A n0 s0 QM σ 11 [(0, .ref rm), (1, .int (i32 v1)), (2, .int (i32 v2)), (3, .long v3), (5, .int (i32 v5)), (6, .int (i32 v6))] []) : ∀ (σ : Sg) (v1 : Int) (v2 : Int) (v3 : Int64) (v5 : Int) (v6 : Int) (u0 : Int) (g1 : rng v1) (g2 : rng v2) (g5 : rng v5) (g6 : rng v6) (gu0 : rng u0), w_X16_growGaps_46 ra jx rm K0 K11 Q X σ v1 v2 v3 v5 v6 u0 → RG σ → Shp dm ra jx rm σ → JJ p l e R s m args below meth c 8 D cA A n0 s0 QM σ 46 [(0, .ref rm), (1, .int (i32 v1)), (2, .int (i32 v2)), (3, .long v3), (5, .int (i32 v5)), (6, .int (i32 v6))] [.int (i32 u0)] := by
  intro σ v1 v2 v3 v5 v6 u0 g1 g2 g5 g6 gu0 h hGσ hS H locs ls hH hl hc
  have B := K.1
  unfold w_X16_growGaps_46 at h
  refine lv_istore (lv' := [(7, .int (i32 u0)), (0, .ref rm), (1, .int (i32 v1)), (2, .int (i32 v2)), (3, .long v3), (5, .int (i32 v5)), (6, .int (i32 v6))]) B.1 B.2.1 dX16_growGaps_46 hl (by decide) rfl (fun ls hl => ?_)
  refine lv_iload B.1 B.2.1 dX16_growGaps_48 (lv_at hl 0 rfl) ?_
  refine lv_if_eq (tgt := 153) B.1 B.2.1 dX16_growGaps_50 (by decide) (fun h9 => ?_) (fun h9 => ?_)
  · rw [if_pos ((z_eq gu0).mp h9)] at h
    exact a_X16_growGaps_153 K hQ hX hK0 hK11 _ _ _ _ _ _ g1 g2 g5 g6 h hGσ hS _ _ _ hH (lv_sub (l' := [(0, .ref rm), (1, .int (i32 v1)), (2, .int (i32 v2)), (3, .long v3), (5, .int (i32 v5)), (6, .int (i32 v6))]) hl [1, 2, 3, 4, 5, 6] rfl) hc
  · rw [if_neg (fun q => h9 ((z_eq gu0).mpr q))] at h
    exact a_X16_growGaps_53 K hQ hX hK0 hK11 _ _ _ _ _ _ g1 g2 g5 g6 h hGσ hS _ _ _ hH (lv_sub (l' := [(0, .ref rm), (1, .int (i32 v1)), (2, .int (i32 v2)), (3, .long v3), (5, .int (i32 v5)), (6, .int (i32 v6))]) hl [1, 2, 3, 4, 5, 6] rfl) hc
set_option maxRecDepth 20000 in
theorem a_X16_growGaps_45 {Q : Sg → Unit → Prop} {X : Sg → String → Prop} (K : MC R p s m args c cX16_growGaps 8 RX16 D cA tys A n0 s0 4 105 []) (hQ : HQV p l e R s m args below meth c cX16_growGaps D cA A n0 s0 QM dm ra jx rm Q) (hX : HX p l e R s m args below meth c 8 D cA A n0 s0 QM dm ra jx rm X) {K0 : Sg → Int → Int → Int64 → Prop} (hK0 : ∀ (σ : Sg) (v1 : Int) (v2 : Int) (v3 : Int64) (g1 : rng v1) (g2 : rng v2), K0 σ v1 v2 v3 → RG σ → Shp dm ra jx rm σ → JJ p l e R s m args below meth c 8 D cA A n0 s0 QM σ 0 [(0, .ref rm), (1, .int (i32 v1)), (2, .int (i32 v2)), (3, .long v3)] []) {K11 : Sg → Int → Int → Int64 → Int → Int → Prop} (hK11 : ∀ (σ : Sg) (v1 : Int) (v2 : Int) (v3 : Int64) (v5 : Int) (v6 : Int) (g1 : rng v1) (g2 : rng v2) (g5 : rng v5) (g6 : rng v6), K11 σ v1 v2 v3 v5 v6 → RG σ → Shp dm ra jx rm σ → JJ p l e R s m args below meth c 8 D cA A n0 s0 QM σ 11 [(0, .ref rm), (1, .int (i32 v1)), (2, .int (i32 v2)), (3, .long v3), (5, .int (i32 v5)), (6, .int (i32 v6))] []) : ∀ (σ : Sg) (v1 : Int) (v2 : Int) (v3 : Int64) (v5 : Int) (v6 : Int) (g1 : rng v1) (g2 : rng v2) (g5 : rng v5) (g6 : rng v6), w_X16_growGaps_45 ra jx rm K0 K11 Q X σ v1 v2 v3 v5 v6 → RG σ → Shp dm ra jx rm σ → JJ p l e R s m args below meth c 8 D cA A n0 s0 QM σ 45 [(0, .ref rm), (1, .int (i32 v1)), (2, .int (i32 v2)), (3, .long v3), (5, .int (i32 v5)), (6, .int (i32 v6))] [] := by
  intro σ v1 v2 v3 v5 v6 g1 g2 g5 g6 h hGσ hS H locs ls hH hl hc
  have B := K.1
  unfold w_X16_growGaps_45 at h
  refine lv_iconst (v := i32 0) B.1 B.2.1 dX16_growGaps_45 (by decide) ?_
  exact a_X16_growGaps_46 K hQ hX hK0 hK11 _ _ _ _ _ _ _ g1 g2 g5 g6 (by unfold rng; omega) h hGσ hS _ _ _ hH (lv_sub (l' := [(0, .ref rm), (1, .int (i32 v1)), (2, .int (i32 v2)), (3, .long v3), (5, .int (i32 v5)), (6, .int (i32 v6))]) hl [0, 1, 2, 3, 4, 5] rfl) hc
set_option maxRecDepth 20000 in
theorem a_X16_growGaps_41 {Q : Sg → Unit → Prop} {X : Sg → String → Prop} (K : MC R p s m args c cX16_growGaps 8 RX16 D cA tys A n0 s0 4 105 []) (hQ : HQV p l e R s m args below meth c cX16_growGaps D cA A n0 s0 QM dm ra jx rm Q) (hX : HX p l e R s m args below meth c 8 D cA A n0 s0 QM dm ra jx rm X) {K0 : Sg → Int → Int → Int64 → Prop} (hK0 : ∀ (σ : Sg) (v1 : Int) (v2 : Int) (v3 : Int64) (g1 : rng v1) (g2 : rng v2), K0 σ v1 v2 v3 → RG σ → Shp dm ra jx rm σ → JJ p l e R s m args below meth c 8 D cA A n0 s0 QM σ 0 [(0, .ref rm), (1, .int (i32 v1)), (2, .int (i32 v2)), (3, .long v3)] []) {K11 : Sg → Int → Int → Int64 → Int → Int → Prop} (hK11 : ∀ (σ : Sg) (v1 : Int) (v2 : Int) (v3 : Int64) (v5 : Int) (v6 : Int) (g1 : rng v1) (g2 : rng v2) (g5 : rng v5) (g6 : rng v6), K11 σ v1 v2 v3 v5 v6 → RG σ → Shp dm ra jx rm σ → JJ p l e R s m args below meth c 8 D cA A n0 s0 QM σ 11 [(0, .ref rm), (1, .int (i32 v1)), (2, .int (i32 v2)), (3, .long v3), (5, .int (i32 v5)), (6, .int (i32 v6))] []) : ∀ (σ : Sg) (v1 : Int) (v2 : Int) (v3 : Int64) (v5 : Int) (v6 : Int) (g1 : rng v1) (g2 : rng v2) (g5 : rng v5) (g6 : rng v6), w_X16_growGaps_41 ra jx rm K0 K11 Q X σ v1 v2 v3 v5 v6 → RG σ → Shp dm ra jx rm σ → JJ p l e R s m args below meth c 8 D cA A n0 s0 QM σ 41 [(0, .ref rm), (1, .int (i32 v1)), (2, .int (i32 v2)), (3, .long v3), (5, .int (i32 v5)), (6, .int (i32 v6))] [] := by
  intro σ v1 v2 v3 v5 v6 g1 g2 g5 g6 h hGσ hS H locs ls hH hl hc
  have B := K.1
  unfold w_X16_growGaps_41 at h
  refine lv_iconst (v := i32 1) B.1 B.2.1 dX16_growGaps_41 (by decide) ?_
  refine lv_goto (tgt := 46) B.1 B.2.1 dX16_growGaps_42 (by decide) ?_
  exact a_X16_growGaps_46 K hQ hX hK0 hK11 _ _ _ _ _ _ _ g1 g2 g5 g6 (by unfold rng; omega) h hGσ hS _ _ _ hH (lv_sub (l' := [(0, .ref rm), (1, .int (i32 v1)), (2, .int (i32 v2)), (3, .long v3), (5, .int (i32 v5)), (6, .int (i32 v6))]) hl [0, 1, 2, 3, 4, 5] rfl) hc
set_option maxRecDepth 20000 in
theorem a_X16_growGaps_17 {Q : Sg → Unit → Prop} {X : Sg → String → Prop} (K : MC R p s m args c cX16_growGaps 8 RX16 D cA tys A n0 s0 4 105 []) (hQ : HQV p l e R s m args below meth c cX16_growGaps D cA A n0 s0 QM dm ra jx rm Q) (hX : HX p l e R s m args below meth c 8 D cA A n0 s0 QM dm ra jx rm X) {K0 : Sg → Int → Int → Int64 → Prop} (hK0 : ∀ (σ : Sg) (v1 : Int) (v2 : Int) (v3 : Int64) (g1 : rng v1) (g2 : rng v2), K0 σ v1 v2 v3 → RG σ → Shp dm ra jx rm σ → JJ p l e R s m args below meth c 8 D cA A n0 s0 QM σ 0 [(0, .ref rm), (1, .int (i32 v1)), (2, .int (i32 v2)), (3, .long v3)] []) {K11 : Sg → Int → Int → Int64 → Int → Int → Prop} (hK11 : ∀ (σ : Sg) (v1 : Int) (v2 : Int) (v3 : Int64) (v5 : Int) (v6 : Int) (g1 : rng v1) (g2 : rng v2) (g5 : rng v5) (g6 : rng v6), K11 σ v1 v2 v3 v5 v6 → RG σ → Shp dm ra jx rm σ → JJ p l e R s m args below meth c 8 D cA A n0 s0 QM σ 11 [(0, .ref rm), (1, .int (i32 v1)), (2, .int (i32 v2)), (3, .long v3), (5, .int (i32 v5)), (6, .int (i32 v6))] []) : ∀ (σ : Sg) (v1 : Int) (v2 : Int) (v3 : Int64) (v5 : Int) (v6 : Int) (g1 : rng v1) (g2 : rng v2) (g5 : rng v5) (g6 : rng v6), w_X16_growGaps_17 ra jx rm K0 K11 Q X σ v1 v2 v3 v5 v6 → RG σ → Shp dm ra jx rm σ → JJ p l e R s m args below meth c 8 D cA A n0 s0 QM σ 17 [(0, .ref rm), (1, .int (i32 v1)), (2, .int (i32 v2)), (3, .long v3), (5, .int (i32 v5)), (6, .int (i32 v6))] [] := by
  intro σ v1 v2 v3 v5 v6 g1 g2 g5 g6 h hGσ hS H locs ls hH hl hc
  have B := K.1
  unfold w_X16_growGaps_17 at h
  refine lv_aload_n B.1 B.2.1 dX16_growGaps_17 rfl (lv_at hl 0 rfl) ?_
  refine r_arr B hH hS 72 (kd := 101) (n := 4000) (by decide) (by decide) wf_X16_525 rfl rfl dX16_growGaps_18 ?_
  refine lv_iload B.1 B.2.1 dX16_growGaps_21 (lv_at hl 5 rfl) ?_
  obtain ⟨q1, h⟩ := h
  refine x_lald B K.2.1 hH (hS.ar (k := 72) (kd := 101) (n := 4000) (by decide)) (by decide) q1 dX16_growGaps_23 ?_
  refine lv_aload_n B.1 B.2.1 dX16_growGaps_24 rfl (lv_at hl 0 rfl) ?_
  refine r_getp B hH hS 17 (by decide) wf_X16_356 rfl rfl dX16_growGaps_25 ?_
  obtain ⟨a9, ea9, ja9, h⟩ := h
  refine W.eq (g2 := F0 m 28 ls [.ref a9, .long (gJ σ (ra 72) v6.toNat)]) (by rw [ea9]; rfl) ?_
  refine n_arr B hH hS ja9 8 (kd := 101) (n := 16) (by decide) (by decide) (List.mem_of_getElem? (i := 8) rfl) rfl dX16_growGaps_28 ?_
  refine lv_iload_n B.1 B.2.1 dX16_growGaps_31 rfl (lv_at hl 2 rfl) ?_
  obtain ⟨q3, h⟩ := h
  refine x_lald B K.2.1 hH (hS.ja ja9 (k := 8) (kd := 101) (n := 16) (by decide)) (by decide) q3 dX16_growGaps_32 ?_
  refine lv_ladd B.1 B.2.1 dX16_growGaps_33 ?_
  refine lv_lconst (v := 1) B.1 B.2.1 dX16_growGaps_34 (by decide) ?_
  refine lv_lsub B.1 B.2.1 dX16_growGaps_35 ?_
  refine lv_lload_n B.1 B.2.1 dX16_growGaps_36 rfl (lv_at hl 3 rfl) ?_
  refine W.lcmp B.1 B.2.1 dX16_growGaps_37 ?_
  refine lv_if_gt (tgt := 45) B.1 B.2.1 dX16_growGaps_38 (by decide) (fun h9 => ?_) (fun h9 => ?_)
  · rw [if_pos ((lg_cmp_gt _ _).mp h9)] at h
    exact a_X16_growGaps_45 K hQ hX hK0 hK11 _ _ _ _ _ _ g1 g2 g5 g6 h hGσ hS _ _ _ hH (lv_sub (l' := [(0, .ref rm), (1, .int (i32 v1)), (2, .int (i32 v2)), (3, .long v3), (5, .int (i32 v5)), (6, .int (i32 v6))]) hl [0, 1, 2, 3, 4, 5] rfl) hc
  · rw [if_neg (fun q => h9 ((lg_cmp_gt _ _).mpr q))] at h
    exact a_X16_growGaps_41 K hQ hX hK0 hK11 _ _ _ _ _ _ g1 g2 g5 g6 h hGσ hS _ _ _ hH (lv_sub (l' := [(0, .ref rm), (1, .int (i32 v1)), (2, .int (i32 v2)), (3, .long v3), (5, .int (i32 v5)), (6, .int (i32 v6))]) hl [0, 1, 2, 3, 4, 5] rfl) hc
set_option maxRecDepth 20000 in
theorem a_X16_growGaps_11 {Q : Sg → Unit → Prop} {X : Sg → String → Prop} (K : MC R p s m args c cX16_growGaps 8 RX16 D cA tys A n0 s0 4 105 []) (hQ : HQV p l e R s m args below meth c cX16_growGaps D cA A n0 s0 QM dm ra jx rm Q) (hX : HX p l e R s m args below meth c 8 D cA A n0 s0 QM dm ra jx rm X) {K0 : Sg → Int → Int → Int64 → Prop} (hK0 : ∀ (σ : Sg) (v1 : Int) (v2 : Int) (v3 : Int64) (g1 : rng v1) (g2 : rng v2), K0 σ v1 v2 v3 → RG σ → Shp dm ra jx rm σ → JJ p l e R s m args below meth c 8 D cA A n0 s0 QM σ 0 [(0, .ref rm), (1, .int (i32 v1)), (2, .int (i32 v2)), (3, .long v3)] []) {K11 : Sg → Int → Int → Int64 → Int → Int → Prop} (hK11 : ∀ (σ : Sg) (v1 : Int) (v2 : Int) (v3 : Int64) (v5 : Int) (v6 : Int) (g1 : rng v1) (g2 : rng v2) (g5 : rng v5) (g6 : rng v6), K11 σ v1 v2 v3 v5 v6 → RG σ → Shp dm ra jx rm σ → JJ p l e R s m args below meth c 8 D cA A n0 s0 QM σ 11 [(0, .ref rm), (1, .int (i32 v1)), (2, .int (i32 v2)), (3, .long v3), (5, .int (i32 v5)), (6, .int (i32 v6))] []) : ∀ (σ : Sg) (v1 : Int) (v2 : Int) (v3 : Int64) (v5 : Int) (v6 : Int) (g1 : rng v1) (g2 : rng v2) (g5 : rng v5) (g6 : rng v6), w_X16_growGaps_11 ra jx rm K0 K11 Q X σ v1 v2 v3 v5 v6 → RG σ → Shp dm ra jx rm σ → JJ p l e R s m args below meth c 8 D cA A n0 s0 QM σ 11 [(0, .ref rm), (1, .int (i32 v1)), (2, .int (i32 v2)), (3, .long v3), (5, .int (i32 v5)), (6, .int (i32 v6))] [] := by
  intro σ v1 v2 v3 v5 v6 g1 g2 g5 g6 h hGσ hS H locs ls hH hl hc
  have B := K.1
  unfold w_X16_growGaps_11 at h
  refine lv_iload B.1 B.2.1 dX16_growGaps_11 (lv_at hl 5 rfl) ?_
  refine lv_iconst (v := i32 (-1)) B.1 B.2.1 dX16_growGaps_13 (by decide) ?_
  refine lv_icmp_eq (tgt := 165) B.1 B.2.1 dX16_growGaps_14 (by decide) (fun h9 => ?_) (fun h9 => ?_)
  · rw [if_pos ((i32_eq g6 (by unfold rng; omega)).mp h9)] at h
    exact a_X16_growGaps_165 K hQ hX hK0 _ _ _ _ _ g1 g2 g5 h hGσ hS _ _ _ hH (lv_sub (l' := [(0, .ref rm), (1, .int (i32 v1)), (2, .int (i32 v2)), (3, .long v3), (5, .int (i32 v5))]) hl [0, 1, 2, 3, 4] rfl) hc
  · rw [if_neg (fun q => h9 ((i32_eq g6 (by unfold rng; omega)).mpr q))] at h
    exact a_X16_growGaps_17 K hQ hX hK0 hK11 _ _ _ _ _ _ g1 g2 g5 g6 h hGσ hS _ _ _ hH (lv_sub (l' := [(0, .ref rm), (1, .int (i32 v1)), (2, .int (i32 v2)), (3, .long v3), (5, .int (i32 v5)), (6, .int (i32 v6))]) hl [0, 1, 2, 3, 4, 5] rfl) hc
theorem al_X16_growGaps_11 {Q : Sg → Unit → Prop} {X : Sg → String → Prop} (K : MC R p s m args c cX16_growGaps 8 RX16 D cA tys A n0 s0 4 105 []) (hQ : HQV p l e R s m args below meth c cX16_growGaps D cA A n0 s0 QM dm ra jx rm Q) (hX : HX p l e R s m args below meth c 8 D cA A n0 s0 QM dm ra jx rm X) {K0 : Sg → Int → Int → Int64 → Prop} (hK0 : ∀ (σ : Sg) (v1 : Int) (v2 : Int) (v3 : Int64) (g1 : rng v1) (g2 : rng v2), K0 σ v1 v2 v3 → RG σ → Shp dm ra jx rm σ → JJ p l e R s m args below meth c 8 D cA A n0 s0 QM σ 0 [(0, .ref rm), (1, .int (i32 v1)), (2, .int (i32 v2)), (3, .long v3)] []) : ∀ (n : Nat), ∀ (σ : Sg) (v1 : Int) (v2 : Int) (v3 : Int64) (v5 : Int) (v6 : Int) (g1 : rng v1) (g2 : rng v2) (g5 : rng v5) (g6 : rng v6), wl_X16_growGaps_11 ra jx rm K0 Q X n σ v1 v2 v3 v5 v6 → RG σ → Shp dm ra jx rm σ → JJ p l e R s m args below meth c 8 D cA A n0 s0 QM σ 11 [(0, .ref rm), (1, .int (i32 v1)), (2, .int (i32 v2)), (3, .long v3), (5, .int (i32 v5)), (6, .int (i32 v6))] [] := by
  intro n
  induction n with
  | zero => intro σ v1 v2 v3 v5 v6 g1 g2 g5 g6 h; exact h.elim
  | succ n ih => exact fun σ v1 v2 v3 v5 v6 g1 g2 g5 g6 h => a_X16_growGaps_11 K hQ hX hK0 ih σ v1 v2 v3 v5 v6 g1 g2 g5 g6 h
set_option maxRecDepth 20000 in
theorem a_X16_growGaps_0 {Q : Sg → Unit → Prop} {X : Sg → String → Prop} (K : MC R p s m args c cX16_growGaps 8 RX16 D cA tys A n0 s0 4 105 []) (hQ : HQV p l e R s m args below meth c cX16_growGaps D cA A n0 s0 QM dm ra jx rm Q) (hX : HX p l e R s m args below meth c 8 D cA A n0 s0 QM dm ra jx rm X) {K0 : Sg → Int → Int → Int64 → Prop} (hK0 : ∀ (σ : Sg) (v1 : Int) (v2 : Int) (v3 : Int64) (g1 : rng v1) (g2 : rng v2), K0 σ v1 v2 v3 → RG σ → Shp dm ra jx rm σ → JJ p l e R s m args below meth c 8 D cA A n0 s0 QM σ 0 [(0, .ref rm), (1, .int (i32 v1)), (2, .int (i32 v2)), (3, .long v3)] []) : ∀ (σ : Sg) (v1 : Int) (v2 : Int) (v3 : Int64) (g1 : rng v1) (g2 : rng v2), w_X16_growGaps_0 ra jx rm K0 Q X σ v1 v2 v3 → RG σ → Shp dm ra jx rm σ → JJ p l e R s m args below meth c 8 D cA A n0 s0 QM σ 0 [(0, .ref rm), (1, .int (i32 v1)), (2, .int (i32 v2)), (3, .long v3)] [] := by
  intro σ v1 v2 v3 g1 g2 h hGσ hS H locs ls hH hl hc
  have B := K.1
  unfold w_X16_growGaps_0 at h
  refine lv_iconst (v := i32 (-1)) B.1 B.2.1 dX16_growGaps_0 (by decide) ?_
  refine lv_istore (lv' := [(5, .int (i32 (-1))), (0, .ref rm), (1, .int (i32 v1)), (2, .int (i32 v2)), (3, .long v3)]) B.1 B.2.1 dX16_growGaps_1 hl (by decide) rfl (fun ls hl => ?_)
  refine lv_aload_n B.1 B.2.1 dX16_growGaps_3 rfl (lv_at hl 1 rfl) ?_
  refine r_arr B hH hS 76 (kd := 100) (n := 64) (by decide) (by decide) wf_X16_504 rfl rfl dX16_growGaps_4 ?_
  refine lv_iload_n B.1 B.2.1 dX16_growGaps_7 rfl (lv_at hl 2 rfl) ?_
  obtain ⟨q1, h⟩ := h
  refine x_iald B K.2.1 hH (hS.ar (k := 76) (kd := 100) (n := 64) (by decide)) (by decide) q1 dX16_growGaps_8 ?_
  refine lv_istore (lv' := [(6, .int (i32 (gI σ (ra 76) v1.toNat))), (5, .int (i32 (-1))), (0, .ref rm), (1, .int (i32 v1)), (2, .int (i32 v2)), (3, .long v3)]) B.1 B.2.1 dX16_growGaps_9 hl (by decide) rfl (fun ls hl => ?_)
  obtain ⟨n9, h⟩ := h
  exact al_X16_growGaps_11 K hQ hX hK0 n9 _ _ _ _ _ _ g1 g2 (by unfold rng; omega) (hGσ _ _) h hGσ hS _ _ _ hH (lv_sub (l' := [(0, .ref rm), (1, .int (i32 v1)), (2, .int (i32 v2)), (3, .long v3), (5, .int (i32 (-1))), (6, .int (i32 (gI σ (ra 76) v1.toNat)))]) hl [2, 3, 4, 5, 1, 0] rfl) hc
theorem al_X16_growGaps_0 {Q : Sg → Unit → Prop} {X : Sg → String → Prop} (K : MC R p s m args c cX16_growGaps 8 RX16 D cA tys A n0 s0 4 105 []) (hQ : HQV p l e R s m args below meth c cX16_growGaps D cA A n0 s0 QM dm ra jx rm Q) (hX : HX p l e R s m args below meth c 8 D cA A n0 s0 QM dm ra jx rm X) : ∀ (n : Nat), ∀ (σ : Sg) (v1 : Int) (v2 : Int) (v3 : Int64) (g1 : rng v1) (g2 : rng v2), wl_X16_growGaps_0 ra jx rm Q X n σ v1 v2 v3 → RG σ → Shp dm ra jx rm σ → JJ p l e R s m args below meth c 8 D cA A n0 s0 QM σ 0 [(0, .ref rm), (1, .int (i32 v1)), (2, .int (i32 v2)), (3, .long v3)] [] := by
  intro n
  induction n with
  | zero => intro σ v1 v2 v3 g1 g2 h; exact h.elim
  | succ n ih => exact fun σ v1 v2 v3 g1 g2 h => a_X16_growGaps_0 K hQ hX ih σ v1 v2 v3 g1 g2 h
theorem ok_X16_growGaps (hT : Tys cA tys) {Q : Sg → Unit → Prop} {X : Sg → String → Prop} (σ : Sg) (v1 : Int) (v2 : Int) (v3 : Int64) (g1 : rng v1) (g2 : rng v2) (hG : RG σ) (hS : Shp dm ra jx rm σ) (h : wp_X16_growGaps ra jx rm v1 v2 v3 σ Q X) : Ok l D cA tys A yX16_growGaps (.code yX16_growGaps cX16_growGaps 8 none) 4 105 [.ref rm, .int (i32 v1), .int (i32 v2), .long v3] σ (QnV dm ra jx rm Q) (QxR dm ra jx rm X) := by
  unfold wp_X16_growGaps at h
  obtain ⟨n9, h⟩ := h
  exact ok_V (plainFor_of_name (by decide)) (by exact Nat.le_of_ble_eq_true rfl) hT (fun p e R s m args below meth c K hQ hX H locs ls hH hl hc => al_X16_growGaps_0 K hQ hX n9 σ v1 v2 v3 g1 g2 h hG hS H locs ls hH (lv_sub (l' := [(0, .ref rm), (1, .int (i32 v1)), (2, .int (i32 v2)), (3, .long v3)]) hl [0, 1, 2, 3] rfl) hc)
theorem dX16_growJoin_0 : decode cX16_growJoin 0 = .ok (.aload_n 0, 1) := by decide +kernel
theorem dX16_growJoin_1 : decode cX16_growJoin 1 = .ok (.getfield 504, 3) := by decide +kernel
theorem dX16_growJoin_4 : decode cX16_growJoin 4 = .ok (.iload_n 1, 1) := by decide +kernel
theorem dX16_growJoin_5 : decode cX16_growJoin 5 = .ok (.iaload, 1) := by decide +kernel
theorem dX16_growJoin_6 : decode cX16_growJoin 6 = .ok (.istore 5, 2) := by decide +kernel
theorem dX16_growJoin_8 : decode cX16_growJoin 8 = .ok (.iload 5, 2) := by decide +kernel
theorem dX16_growJoin_10 : decode cX16_growJoin 10 = .ok (.iconst (-1), 1) := by decide +kernel
theorem dX16_growJoin_11 : decode cX16_growJoin 11 = .ok (.if_icmp .eq 81, 3) := by decide +kernel
theorem dX16_growJoin_14 : decode cX16_growJoin 14 = .ok (.aload_n 0, 1) := by decide +kernel
theorem dX16_growJoin_15 : decode cX16_growJoin 15 = .ok (.getfield 495, 3) := by decide +kernel
theorem dX16_growJoin_18 : decode cX16_growJoin 18 = .ok (.iload 5, 2) := by decide +kernel
theorem dX16_growJoin_20 : decode cX16_growJoin 20 = .ok (.iaload, 1) := by decide +kernel
theorem dX16_growJoin_21 : decode cX16_growJoin 21 = .ok (.istore 6, 2) := by decide +kernel
theorem dX16_growJoin_23 : decode cX16_growJoin 23 = .ok (.aload_n 0, 1) := by decide +kernel
theorem dX16_growJoin_24 : decode cX16_growJoin 24 = .ok (.getfield 513, 3) := by decide +kernel
theorem dX16_growJoin_27 : decode cX16_growJoin 27 = .ok (.iload 5, 2) := by decide +kernel
theorem dX16_growJoin_29 : decode cX16_growJoin 29 = .ok (.iaload, 1) := by decide +kernel
theorem dX16_growJoin_30 : decode cX16_growJoin 30 = .ok (.ifCond .ne 23, 3) := by decide +kernel
theorem dX16_growJoin_33 : decode cX16_growJoin 33 = .ok (.aload_n 0, 1) := by decide +kernel
theorem dX16_growJoin_34 : decode cX16_growJoin 34 = .ok (.getfield 522, 3) := by decide +kernel
theorem dX16_growJoin_37 : decode cX16_growJoin 37 = .ok (.iload 5, 2) := by decide +kernel
theorem dX16_growJoin_39 : decode cX16_growJoin 39 = .ok (.laload, 1) := by decide +kernel
theorem dX16_growJoin_40 : decode cX16_growJoin 40 = .ok (.aload_n 0, 1) := by decide +kernel
theorem dX16_growJoin_41 : decode cX16_growJoin 41 = .ok (.getfield 356, 3) := by decide +kernel
theorem dX16_growJoin_44 : decode cX16_growJoin 44 = .ok (.getfield 204, 3) := by decide +kernel
theorem dX16_growJoin_47 : decode cX16_growJoin 47 = .ok (.iload_n 2, 1) := by decide +kernel
theorem dX16_growJoin_48 : decode cX16_growJoin 48 = .ok (.laload, 1) := by decide +kernel
theorem dX16_growJoin_49 : decode cX16_growJoin 49 = .ok (.ladd, 1) := by decide +kernel
theorem dX16_growJoin_50 : decode cX16_growJoin 50 = .ok (.goto 20, 3) := by decide +kernel
theorem dX16_growJoin_53 : decode cX16_growJoin 53 = .ok (.aload_n 0, 1) := by decide +kernel
theorem dX16_growJoin_54 : decode cX16_growJoin 54 = .ok (.getfield 522, 3) := by decide +kernel
theorem dX16_growJoin_57 : decode cX16_growJoin 57 = .ok (.iload 5, 2) := by decide +kernel
theorem dX16_growJoin_59 : decode cX16_growJoin 59 = .ok (.laload, 1) := by decide +kernel
theorem dX16_growJoin_60 : decode cX16_growJoin 60 = .ok (.aload_n 0, 1) := by decide +kernel
theorem dX16_growJoin_61 : decode cX16_growJoin 61 = .ok (.getfield 356, 3) := by decide +kernel
theorem dX16_growJoin_64 : decode cX16_growJoin 64 = .ok (.getfield 191, 3) := by decide +kernel
theorem dX16_growJoin_67 : decode cX16_growJoin 67 = .ok (.iload_n 2, 1) := by decide +kernel
theorem dX16_growJoin_68 : decode cX16_growJoin 68 = .ok (.laload, 1) := by decide +kernel
theorem dX16_growJoin_69 : decode cX16_growJoin 69 = .ok (.lsub, 1) := by decide +kernel
theorem dX16_growJoin_70 : decode cX16_growJoin 70 = .ok (.lstore 7, 2) := by decide +kernel
theorem dX16_growJoin_72 : decode cX16_growJoin 72 = .ok (.lload_n 3, 1) := by decide +kernel
theorem dX16_growJoin_73 : decode cX16_growJoin 73 = .ok (.lload 7, 2) := by decide +kernel
theorem dX16_growJoin_75 : decode cX16_growJoin 75 = .ok (.lcmp, 1) := by decide +kernel
theorem dX16_growJoin_76 : decode cX16_growJoin 76 = .ok (.ifCond .lt 9, 3) := by decide +kernel
theorem dX16_growJoin_79 : decode cX16_growJoin 79 = .ok (.aload_n 0, 1) := by decide +kernel
theorem dX16_growJoin_80 : decode cX16_growJoin 80 = .ok (.iload 5, 2) := by decide +kernel
theorem dX16_growJoin_82 : decode cX16_growJoin 82 = .ok (.invokevirtual 607, 3) := by decide +kernel
theorem dX16_growJoin_85 : decode cX16_growJoin 85 = .ok (.iload 6, 2) := by decide +kernel
theorem dX16_growJoin_87 : decode cX16_growJoin 87 = .ok (.istore 5, 2) := by decide +kernel
theorem dX16_growJoin_89 : decode cX16_growJoin 89 = .ok (.goto (-81), 3) := by decide +kernel
theorem dX16_growJoin_92 : decode cX16_growJoin 92 = .ok (.return_, 1) := by decide +kernel
set_option maxRecDepth 20000 in
theorem a_X16_growJoin_92 {Q : Sg → Unit → Prop} {X : Sg → String → Prop} (K : MC R p s m args c cX16_growJoin 9 RX16 D cA tys A n0 s0 1 24 []) (hQ : HQV p l e R s m args below meth c cX16_growJoin D cA A n0 s0 QM dm ra jx rm Q) (hX : HX p l e R s m args below meth c 9 D cA A n0 s0 QM dm ra jx rm X) : ∀ (σ : Sg), w_X16_growJoin_92 ra jx rm Q X σ → RG σ → Shp dm ra jx rm σ → JJ p l e R s m args below meth c 9 D cA A n0 s0 QM σ 92 [(0, .ref rm)] [] := by
  intro σ h hGσ hS H locs ls hH hl hc
  have B := K.1
  unfold w_X16_growJoin_92 at h
  exact hQ _ _ _ _ _ dX16_growJoin_92 hH hc h hGσ hS
set_option maxRecDepth 20000 in
theorem a_X16_growJoin_85 {Q : Sg → Unit → Prop} {X : Sg → String → Prop} (K : MC R p s m args c cX16_growJoin 9 RX16 D cA tys A n0 s0 1 24 []) (hQ : HQV p l e R s m args below meth c cX16_growJoin D cA A n0 s0 QM dm ra jx rm Q) (hX : HX p l e R s m args below meth c 9 D cA A n0 s0 QM dm ra jx rm X) {K8 : Sg → Int → Int64 → Int → Prop} (hK8 : ∀ (σ : Sg) (v2 : Int) (v3 : Int64) (v5 : Int) (g2 : rng v2) (g5 : rng v5), K8 σ v2 v3 v5 → RG σ → Shp dm ra jx rm σ → JJ p l e R s m args below meth c 9 D cA A n0 s0 QM σ 8 [(0, .ref rm), (2, .int (i32 v2)), (3, .long v3), (5, .int (i32 v5))] []) : ∀ (σ : Sg) (v2 : Int) (v3 : Int64) (v6 : Int) (g2 : rng v2) (g6 : rng v6), w_X16_growJoin_85 ra jx rm K8 Q X σ v2 v3 v6 → RG σ → Shp dm ra jx rm σ → JJ p l e R s m args below meth c 9 D cA A n0 s0 QM σ 85 [(0, .ref rm), (2, .int (i32 v2)), (3, .long v3), (6, .int (i32 v6))] [] := by
  intro σ v2 v3 v6 g2 g6 h hGσ hS H locs ls hH hl hc
  have B := K.1
  unfold w_X16_growJoin_85 at h
  refine lv_iload B.1 B.2.1 dX16_growJoin_85 (lv_at hl 3 rfl) ?_
  refine lv_istore (lv' := [(5, .int (i32 v6)), (0, .ref rm), (2, .int (i32 v2)), (3, .long v3), (6, .int (i32 v6))]) B.1 B.2.1 dX16_growJoin_87 hl (by decide) rfl (fun ls hl => ?_)
  refine lv_goto (tgt := 8) B.1 B.2.1 dX16_growJoin_89 (by decide) ?_
  exact hK8 _ _ _ _ g2 g6 h hGσ hS _ _ _ hH (lv_sub (l' := [(0, .ref rm), (2, .int (i32 v2)), (3, .long v3), (5, .int (i32 v6))]) hl [1, 2, 3, 0] rfl) hc
set_option maxRecDepth 20000 in
theorem a_X16_growJoin_79 {Q : Sg → Unit → Prop} {X : Sg → String → Prop} (K : MC R p s m args c cX16_growJoin 9 RX16 D cA tys A n0 s0 1 24 []) (hQ : HQV p l e R s m args below meth c cX16_growJoin D cA A n0 s0 QM dm ra jx rm Q) (hX : HX p l e R s m args below meth c 9 D cA A n0 s0 QM dm ra jx rm X) {K8 : Sg → Int → Int64 → Int → Prop} (hK8 : ∀ (σ : Sg) (v2 : Int) (v3 : Int64) (v5 : Int) (g2 : rng v2) (g5 : rng v5), K8 σ v2 v3 v5 → RG σ → Shp dm ra jx rm σ → JJ p l e R s m args below meth c 9 D cA A n0 s0 QM σ 8 [(0, .ref rm), (2, .int (i32 v2)), (3, .long v3), (5, .int (i32 v5))] []) : ∀ (σ : Sg) (v2 : Int) (v3 : Int64) (v5 : Int) (v6 : Int) (g2 : rng v2) (g5 : rng v5) (g6 : rng v6), w_X16_growJoin_79 ra jx rm K8 Q X σ v2 v3 v5 v6 → RG σ → Shp dm ra jx rm σ → JJ p l e R s m args below meth c 9 D cA A n0 s0 QM σ 79 [(0, .ref rm), (2, .int (i32 v2)), (3, .long v3), (5, .int (i32 v5)), (6, .int (i32 v6))] [] := by
  intro σ v2 v3 v5 v6 g2 g5 g6 h hGσ hS H locs ls hH hl hc
  have B := K.1
  unfold w_X16_growJoin_79 at h
  refine lv_aload_n B.1 B.2.1 dX16_growJoin_79 rfl (lv_at hl 0 rfl) ?_
  refine lv_iload B.1 B.2.1 dX16_growJoin_80 (lv_at hl 3 rfl) ?_
  refine c_V B hH hl hc K.2.2.1 (C := RX16) (T := TX16) (N := 123) (ci := 16) (As := [.int (i32 v5)]) (ok_X16_drop K.2.1 σ v5 g5 hGσ hS h) wc_X16_607 1 hd_X16_drop ⟨Nat.le_trans (Nat.le_of_ble_eq_true rfl) K.2.2.2.1, Nat.le_trans (Nat.le_of_ble_eq_true rfl) K.2.2.2.2.1⟩ hS.1.1 hS.1.2 (by decide) rfl rfl (rest := []) rfl (Nat.le_of_ble_eq_true rfl) dX16_growJoin_82 (fun σ7 w hq => ?_) (fun σ9 E9 hx9 => hX σ9 E9 _ _ _ (tb_out K.2.2.2.2.2 rfl) hx9.1 hx9.2.1 hx9.2.2)
  obtain ⟨rfl, h, hGσ7, hS⟩ := hq
  intro H locs ls hH hl hc
  refine W.eq (g2 := F0 m 85 ls []) (rfl) ?_
  try dsimp only at h
  exact a_X16_growJoin_85 K hQ hX hK8 _ _ _ _ g2 g6 h hGσ7 hS _ _ _ hH (lv_sub (l' := [(0, .ref rm), (2, .int (i32 v2)), (3, .long v3), (6, .int (i32 v6))]) hl [0, 1, 2, 4] rfl) hc
set_option maxRecDepth 20000 in
theorem a_X16_growJoin_70 {Q : Sg → Unit → Prop} {X : Sg → String → Prop} (K : MC R p s m args c cX16_growJoin 9 RX16 D cA tys A n0 s0 1 24 []) (hQ : HQV p l e R s m args below meth c cX16_growJoin D cA A n0 s0 QM dm ra jx rm Q) (hX : HX p l e R s m args below meth c 9 D cA A n0 s0 QM dm ra jx rm X) {K8 : Sg → Int → Int64 → Int → Prop} (hK8 : ∀ (σ : Sg) (v2 : Int) (v3 : Int64) (v5 : Int) (g2 : rng v2) (g5 : rng v5), K8 σ v2 v3 v5 → RG σ → Shp dm ra jx rm σ → JJ p l e R s m args below meth c 9 D cA A n0 s0 QM σ 8 [(0, .ref rm), (2, .int (i32 v2)), (3, .long v3), (5, .int (i32 v5))] []) : ∀ (σ : Sg) (v2 : Int) (v3 : Int64) (v5 : Int) (v6 : Int) (u0 : Int64) (g2 : rng v2) (g5 : rng v5) (g6 : rng v6), w_X16_growJoin_70 ra jx rm K8 Q X σ v2 v3 v5 v6 u0 → RG σ → Shp dm ra jx rm σ → JJ p l e R s m args below meth c 9 D cA A n0 s0 QM σ 70 [(0, .ref rm), (2, .int (i32 v2)), (3, .long v3), (5, .int (i32 v5)), (6, .int (i32 v6))] [.long u0] := by
  intro σ v2 v3 v5 v6 u0 g2 g5 g6 h hGσ hS H locs ls hH hl hc
  have B := K.1
  unfold w_X16_growJoin_70 at h
  refine lv_lstore (lv' := [(7, .long u0), (0, .ref rm), (2, .int (i32 v2)), (3, .long v3), (5, .int (i32 v5)), (6, .int (i32 v6))]) B.1 B.2.1 dX16_growJoin_70 hl (by decide) rfl (fun ls hl => ?_)
  refine lv_lload_n B.1 B.2.1 dX16_growJoin_72 rfl (lv_at hl 3 rfl) ?_
  refine lv_lload B.1 B.2.1 dX16_growJoin_73 (lv_at hl 0 rfl) ?_
  refine W.lcmp B.1 B.2.1 dX16_growJoin_75 ?_
  refine lv_if_lt (tgt := 85) B.1 B.2.1 dX16_growJoin_76 (by decide) (fun h9 => ?_) (fun h9 => ?_)
  · rw [if_pos ((lg_cmp_lt _ _).mp h9)] at h
    exact a_X16_growJoin_85 K hQ hX hK8 _ _ _ _ g2 g6 h hGσ hS _ _ _ hH (lv_sub (l' := [(0, .ref rm), (2, .int (i32 v2)), (3, .long v3), (6, .int (i32 v6))]) hl [1, 2, 3, 5] rfl) hc
  · rw [if_neg (fun q => h9 ((lg_cmp_lt _ _).mpr q))] at h
    exact a_X16_growJoin_79 K hQ hX hK8 _ _ _ _ _ g2 g5 g6 h hGσ hS _ _ _ hH (lv_sub (l' := [(0, .ref rm), (2, .int (i32 v2)), (3, .long v3), (5, .int (i32 v5)), (6, .int (i32 v6))]) hl [1, 2, 3, 4, 5] rfl) hc
set_option maxRecDepth 20000 in
theorem a_X16_growJoin_53 {Q : Sg → Unit → Prop} {X : Sg → String → Prop} (K : MC R p s m args c cX16_growJoin 9 RX16 D cA tys A n0 s0 1 24 []) (hQ : HQV p l e R s m args below meth c cX16_growJoin D cA A n0 s0 QM dm ra jx rm Q) (hX : HX p l e R s m args below meth c 9 D cA A n0 s0 QM dm ra jx rm X) {K8 : Sg → Int → Int64 → Int → Prop} (hK8 : ∀ (σ : Sg) (v2 : Int) (v3 : Int64) (v5 : Int) (g2 : rng v2) (g5 : rng v5), K8 σ v2 v3 v5 → RG σ → Shp dm ra jx rm σ → JJ p l e R s m args below meth c 9 D cA A n0 s0 QM σ 8 [(0, .ref rm), (2, .int (i32 v2)), (3, .long v3), (5, .int (i32 v5))] []) : ∀ (σ : Sg) (v2 : Int) (v3 : Int64) (v5 : Int) (v6 : Int) (g2 : rng v2) (g5 : rng v5) (g6 : rng v6), w_X16_growJoin_53 ra jx rm K8 Q X σ v2 v3 v5 v6 → RG σ → Shp dm ra jx rm σ → JJ p l e R s m args below meth c 9 D cA A n0 s0 QM σ 53 [(0, .ref rm), (2, .int (i32 v2)), (3, .long v3), (5, .int (i32 v5)), (6, .int (i32 v6))] [] := by
  intro σ v2 v3 v5 v6 g2 g5 g6 h hGσ hS H locs ls hH hl hc
  have B := K.1
  unfold w_X16_growJoin_53 at h
  refine lv_aload_n B.1 B.2.1 dX16_growJoin_53 rfl (lv_at hl 0 rfl) ?_
  refine r_arr B hH hS 71 (kd := 101) (n := 4000) (by decide) (by decide) wf_X16_522 rfl rfl dX16_growJoin_54 ?_
  refine lv_iload B.1 B.2.1 dX16_growJoin_57 (lv_at hl 3 rfl) ?_
  obtain ⟨q1, h⟩ := h
  refine x_lald B K.2.1 hH (hS.ar (k := 71) (kd := 101) (n := 4000) (by decide)) (by decide) q1 dX16_growJoin_59 ?_
  refine lv_aload_n B.1 B.2.1 dX16_growJoin_60 rfl (lv_at hl 0 rfl) ?_
  refine r_getp B hH hS 17 (by decide) wf_X16_356 rfl rfl dX16_growJoin_61 ?_
  obtain ⟨a8, ea8, ja8, h⟩ := h
  refine W.eq (g2 := F0 m 64 ls [.ref a8, .long (gJ σ (ra 71) v5.toNat)]) (by rw [ea8]; rfl) ?_
  refine n_arr B hH hS ja8 8 (kd := 101) (n := 16) (by decide) (by decide) (List.mem_of_getElem? (i := 8) rfl) rfl dX16_growJoin_64 ?_
  refine lv_iload_n B.1 B.2.1 dX16_growJoin_67 rfl (lv_at hl 1 rfl) ?_
  obtain ⟨q3, h⟩ := h
  refine x_lald B K.2.1 hH (hS.ja ja8 (k := 8) (kd := 101) (n := 16) (by decide)) (by decide) q3 dX16_growJoin_68 ?_
  refine lv_lsub B.1 B.2.1 dX16_growJoin_69 ?_
  exact a_X16_growJoin_70 K hQ hX hK8 _ _ _ _ _ _ g2 g5 g6 h hGσ hS _ _ _ hH (lv_sub (l' := [(0, .ref rm), (2, .int (i32 v2)), (3, .long v3), (5, .int (i32 v5)), (6, .int (i32 v6))]) hl [0, 1, 2, 3, 4] rfl) hc
set_option maxRecDepth 20000 in
theorem a_X16_growJoin_33 {Q : Sg → Unit → Prop} {X : Sg → String → Prop} (K : MC R p s m args c cX16_growJoin 9 RX16 D cA tys A n0 s0 1 24 []) (hQ : HQV p l e R s m args below meth c cX16_growJoin D cA A n0 s0 QM dm ra jx rm Q) (hX : HX p l e R s m args below meth c 9 D cA A n0 s0 QM dm ra jx rm X) {K8 : Sg → Int → Int64 → Int → Prop} (hK8 : ∀ (σ : Sg) (v2 : Int) (v3 : Int64) (v5 : Int) (g2 : rng v2) (g5 : rng v5), K8 σ v2 v3 v5 → RG σ → Shp dm ra jx rm σ → JJ p l e R s m args below meth c 9 D cA A n0 s0 QM σ 8 [(0, .ref rm), (2, .int (i32 v2)), (3, .long v3), (5, .int (i32 v5))] []) : ∀ (σ : Sg) (v2 : Int) (v3 : Int64) (v5 : Int) (v6 : Int) (g2 : rng v2) (g5 : rng v5) (g6 : rng v6), w_X16_growJoin_33 ra jx rm K8 Q X σ v2 v3 v5 v6 → RG σ → Shp dm ra jx rm σ → JJ p l e R s m args below meth c 9 D cA A n0 s0 QM σ 33 [(0, .ref rm), (2, .int (i32 v2)), (3, .long v3), (5, .int (i32 v5)), (6, .int (i32 v6))] [] := by
  intro σ v2 v3 v5 v6 g2 g5 g6 h hGσ hS H locs ls hH hl hc
  have B := K.1
  unfold w_X16_growJoin_33 at h
  refine lv_aload_n B.1 B.2.1 dX16_growJoin_33 rfl (lv_at hl 0 rfl) ?_
  refine r_arr B hH hS 71 (kd := 101) (n := 4000) (by decide) (by decide) wf_X16_522 rfl rfl dX16_growJoin_34 ?_
  refine lv_iload B.1 B.2.1 dX16_growJoin_37 (lv_at hl 3 rfl) ?_
  obtain ⟨q1, h⟩ := h
  refine x_lald B K.2.1 hH (hS.ar (k := 71) (kd := 101) (n := 4000) (by decide)) (by decide) q1 dX16_growJoin_39 ?_
  refine lv_aload_n B.1 B.2.1 dX16_growJoin_40 rfl (lv_at hl 0 rfl) ?_
  refine r_getp B hH hS 17 (by decide) wf_X16_356 rfl rfl dX16_growJoin_41 ?_
  obtain ⟨a9, ea9, ja9, h⟩ := h
  refine W.eq (g2 := F0 m 44 ls [.ref a9, .long (gJ σ (ra 71) v5.toNat)]) (by rw [ea9]; rfl) ?_
  refine n_arr B hH hS ja9 9 (kd := 101) (n := 16) (by decide) (by decide) (List.mem_of_getElem? (i := 9) rfl) rfl dX16_growJoin_44 ?_
  refine lv_iload_n B.1 B.2.1 dX16_growJoin_47 rfl (lv_at hl 1 rfl) ?_
  obtain ⟨q3, h⟩ := h
  refine x_lald B K.2.1 hH (hS.ja ja9 (k := 9) (kd := 101) (n := 16) (by decide)) (by decide) q3 dX16_growJoin_48 ?_
  refine lv_ladd B.1 B.2.1 dX16_growJoin_49 ?_
  refine lv_goto (tgt := 70) B.1 B.2.1 dX16_growJoin_50 (by decide) ?_
  exact a_X16_growJoin_70 K hQ hX hK8 _ _ _ _ _ _ g2 g5 g6 h hGσ hS _ _ _ hH (lv_sub (l' := [(0, .ref rm), (2, .int (i32 v2)), (3, .long v3), (5, .int (i32 v5)), (6, .int (i32 v6))]) hl [0, 1, 2, 3, 4] rfl) hc
set_option maxRecDepth 20000 in
theorem a_X16_growJoin_14 {Q : Sg → Unit → Prop} {X : Sg → String → Prop} (K : MC R p s m args c cX16_growJoin 9 RX16 D cA tys A n0 s0 1 24 []) (hQ : HQV p l e R s m args below meth c cX16_growJoin D cA A n0 s0 QM dm ra jx rm Q) (hX : HX p l e R s m args below meth c 9 D cA A n0 s0 QM dm ra jx rm X) {K8 : Sg → Int → Int64 → Int → Prop} (hK8 : ∀ (σ : Sg) (v2 : Int) (v3 : Int64) (v5 : Int) (g2 : rng v2) (g5 : rng v5), K8 σ v2 v3 v5 → RG σ → Shp dm ra jx rm σ → JJ p l e R s m args below meth c 9 D cA A n0 s0 QM σ 8 [(0, .ref rm), (2, .int (i32 v2)), (3, .long v3), (5, .int (i32 v5))] []) : ∀ (σ : Sg) (v2 : Int) (v3 : Int64) (v5 : Int) (g2 : rng v2) (g5 : rng v5), w_X16_growJoin_14 ra jx rm K8 Q X σ v2 v3 v5 → RG σ → Shp dm ra jx rm σ → JJ p l e R s m args below meth c 9 D cA A n0 s0 QM σ 14 [(0, .ref rm), (2, .int (i32 v2)), (3, .long v3), (5, .int (i32 v5))] [] := by
  intro σ v2 v3 v5 g2 g5 h hGσ hS H locs ls hH hl hc
  have B := K.1
  unfold w_X16_growJoin_14 at h
  refine lv_aload_n B.1 B.2.1 dX16_growJoin_14 rfl (lv_at hl 0 rfl) ?_
  refine r_arr B hH hS 75 (kd := 100) (n := 4000) (by decide) (by decide) wf_X16_495 rfl rfl dX16_growJoin_15 ?_
  refine lv_iload B.1 B.2.1 dX16_growJoin_18 (lv_at hl 3 rfl) ?_
  obtain ⟨q1, h⟩ := h
  refine x_iald B K.2.1 hH (hS.ar (k := 75) (kd := 100) (n := 4000) (by decide)) (by decide) q1 dX16_growJoin_20 ?_
  refine lv_istore (lv' := [(6, .int (i32 (gI σ (ra 75) v5.toNat))), (0, .ref rm), (2, .int (i32 v2)), (3, .long v3), (5, .int (i32 v5))]) B.1 B.2.1 dX16_growJoin_21 hl (by decide) rfl (fun ls hl => ?_)
  refine lv_aload_n B.1 B.2.1 dX16_growJoin_23 rfl (lv_at hl 1 rfl) ?_
  refine r_arr B hH hS 68 (kd := 100) (n := 4000) (by decide) (by decide) wf_X16_513 rfl rfl dX16_growJoin_24 ?_
  refine lv_iload B.1 B.2.1 dX16_growJoin_27 (lv_at hl 4 rfl) ?_
  obtain ⟨q2, h⟩ := h
  refine x_iald B K.2.1 hH (hS.ar (k := 68) (kd := 100) (n := 4000) (by decide)) (by decide) q2 dX16_growJoin_29 ?_
  refine lv_if_ne (tgt := 53) B.1 B.2.1 dX16_growJoin_30 (by decide) (fun h9 => ?_) (fun h9 => ?_)
  · rw [if_pos (fun q => h9 ((z_eq (hGσ _ _)).mpr q))] at h
    exact a_X16_growJoin_53 K hQ hX hK8 _ _ _ _ _ g2 g5 (hGσ _ _) h hGσ hS _ _ _ hH (lv_sub (l' := [(0, .ref rm), (2, .int (i32 v2)), (3, .long v3), (5, .int (i32 v5)), (6, .int (i32 (gI σ (ra 75) v5.toNat)))]) hl [1, 2, 3, 4, 0] rfl) hc
  · rw [if_neg (fun q => q ((z_eq (hGσ _ _)).mp h9))] at h
    exact a_X16_growJoin_33 K hQ hX hK8 _ _ _ _ _ g2 g5 (hGσ _ _) h hGσ hS _ _ _ hH (lv_sub (l' := [(0, .ref rm), (2, .int (i32 v2)), (3, .long v3), (5, .int (i32 v5)), (6, .int (i32 (gI σ (ra 75) v5.toNat)))]) hl [1, 2, 3, 4, 0] rfl) hc
set_option maxRecDepth 20000 in
theorem a_X16_growJoin_8 {Q : Sg → Unit → Prop} {X : Sg → String → Prop} (K : MC R p s m args c cX16_growJoin 9 RX16 D cA tys A n0 s0 1 24 []) (hQ : HQV p l e R s m args below meth c cX16_growJoin D cA A n0 s0 QM dm ra jx rm Q) (hX : HX p l e R s m args below meth c 9 D cA A n0 s0 QM dm ra jx rm X) {K8 : Sg → Int → Int64 → Int → Prop} (hK8 : ∀ (σ : Sg) (v2 : Int) (v3 : Int64) (v5 : Int) (g2 : rng v2) (g5 : rng v5), K8 σ v2 v3 v5 → RG σ → Shp dm ra jx rm σ → JJ p l e R s m args below meth c 9 D cA A n0 s0 QM σ 8 [(0, .ref rm), (2, .int (i32 v2)), (3, .long v3), (5, .int (i32 v5))] []) : ∀ (σ : Sg) (v2 : Int) (v3 : Int64) (v5 : Int) (g2 : rng v2) (g5 : rng v5), w_X16_growJoin_8 ra jx rm K8 Q X σ v2 v3 v5 → RG σ → Shp dm ra jx rm σ → JJ p l e R s m args below meth c 9 D cA A n0 s0 QM σ 8 [(0, .ref rm), (2, .int (i32 v2)), (3, .long v3), (5, .int (i32 v5))] [] := by
  intro σ v2 v3 v5 g2 g5 h hGσ hS H locs ls hH hl hc
  have B := K.1
  unfold w_X16_growJoin_8 at h
  refine lv_iload B.1 B.2.1 dX16_growJoin_8 (lv_at hl 3 rfl) ?_
  refine lv_iconst (v := i32 (-1)) B.1 B.2.1 dX16_growJoin_10 (by decide) ?_
  refine lv_icmp_eq (tgt := 92) B.1 B.2.1 dX16_growJoin_11 (by decide) (fun h9 => ?_) (fun h9 => ?_)
  · rw [if_pos ((i32_eq g5 (by unfold rng; omega)).mp h9)] at h
    exact a_X16_growJoin_92 K hQ hX _ h hGσ hS _ _ _ hH (lv_sub (l' := [(0, .ref rm)]) hl [0] rfl) hc
  · rw [if_neg (fun q => h9 ((i32_eq g5 (by unfold rng; omega)).mpr q))] at h
    exact a_X16_growJoin_14 K hQ hX hK8 _ _ _ _ g2 g5 h hGσ hS _ _ _ hH (lv_sub (l' := [(0, .ref rm), (2, .int (i32 v2)), (3, .long v3), (5, .int (i32 v5))]) hl [0, 1, 2, 3] rfl) hc
theorem al_X16_growJoin_8 {Q : Sg → Unit → Prop} {X : Sg → String → Prop} (K : MC R p s m args c cX16_growJoin 9 RX16 D cA tys A n0 s0 1 24 []) (hQ : HQV p l e R s m args below meth c cX16_growJoin D cA A n0 s0 QM dm ra jx rm Q) (hX : HX p l e R s m args below meth c 9 D cA A n0 s0 QM dm ra jx rm X) : ∀ (n : Nat), ∀ (σ : Sg) (v2 : Int) (v3 : Int64) (v5 : Int) (g2 : rng v2) (g5 : rng v5), wl_X16_growJoin_8 ra jx rm Q X n σ v2 v3 v5 → RG σ → Shp dm ra jx rm σ → JJ p l e R s m args below meth c 9 D cA A n0 s0 QM σ 8 [(0, .ref rm), (2, .int (i32 v2)), (3, .long v3), (5, .int (i32 v5))] [] := by
  intro n
  induction n with
  | zero => intro σ v2 v3 v5 g2 g5 h; exact h.elim
  | succ n ih => exact fun σ v2 v3 v5 g2 g5 h => a_X16_growJoin_8 K hQ hX ih σ v2 v3 v5 g2 g5 h
set_option maxRecDepth 20000 in
theorem a_X16_growJoin_0 {Q : Sg → Unit → Prop} {X : Sg → String → Prop} (K : MC R p s m args c cX16_growJoin 9 RX16 D cA tys A n0 s0 1 24 []) (hQ : HQV p l e R s m args below meth c cX16_growJoin D cA A n0 s0 QM dm ra jx rm Q) (hX : HX p l e R s m args below meth c 9 D cA A n0 s0 QM dm ra jx rm X) : ∀ (σ : Sg) (v1 : Int) (v2 : Int) (v3 : Int64) (g1 : rng v1) (g2 : rng v2), w_X16_growJoin_0 ra jx rm Q X σ v1 v2 v3 → RG σ → Shp dm ra jx rm σ → JJ p l e R s m args below meth c 9 D cA A n0 s0 QM σ 0 [(0, .ref rm), (1, .int (i32 v1)), (2, .int (i32 v2)), (3, .long v3)] [] := by
  intro σ v1 v2 v3 g1 g2 h hGσ hS H locs ls hH hl hc
  have B := K.1
  unfold w_X16_growJoin_0 at h
  refine lv_aload_n B.1 B.2.1 dX16_growJoin_0 rfl (lv_at hl 0 rfl) ?_
  refine r_arr B hH hS 76 (kd := 100) (n := 64) (by decide) (by decide) wf_X16_504 rfl rfl dX16_growJoin_1 ?_
  refine lv_iload_n B.1 B.2.1 dX16_growJoin_4 rfl (lv_at hl 1 rfl) ?_
  obtain ⟨q1, h⟩ := h
  refine x_iald B K.2.1 hH (hS.ar (k := 76) (kd := 100) (n := 64) (by decide)) (by decide) q1 dX16_growJoin_5 ?_
  refine lv_istore (lv' := [(5, .int (i32 (gI σ (ra 76) v1.toNat))), (0, .ref rm), (1, .int (i32 v1)), (2, .int (i32 v2)), (3, .long v3)]) B.1 B.2.1 dX16_growJoin_6 hl (by decide) rfl (fun ls hl => ?_)
  obtain ⟨n9, h⟩ := h
  exact al_X16_growJoin_8 K hQ hX n9 _ _ _ _ g2 (hGσ _ _) h hGσ hS _ _ _ hH (lv_sub (l' := [(0, .ref rm), (2, .int (i32 v2)), (3, .long v3), (5, .int (i32 (gI σ (ra 76) v1.toNat)))]) hl [1, 3, 4, 0] rfl) hc
theorem ok_X16_growJoin (hT : Tys cA tys) {Q : Sg → Unit → Prop} {X : Sg → String → Prop} (σ : Sg) (v1 : Int) (v2 : Int) (v3 : Int64) (g1 : rng v1) (g2 : rng v2) (hG : RG σ) (hS : Shp dm ra jx rm σ) (h : wp_X16_growJoin ra jx rm v1 v2 v3 σ Q X) : Ok l D cA tys A yX16_growJoin (.code yX16_growJoin cX16_growJoin 9 none) 1 24 [.ref rm, .int (i32 v1), .int (i32 v2), .long v3] σ (QnV dm ra jx rm Q) (QxR dm ra jx rm X) := by
  unfold wp_X16_growJoin at h
  exact ok_V (plainFor_of_name (by decide)) (by exact Nat.le_of_ble_eq_true rfl) hT (fun p e R s m args below meth c K hQ hX H locs ls hH hl hc => a_X16_growJoin_0 K hQ hX σ v1 v2 v3 g1 g2 h hG hS H locs ls hH (lv_sub (l' := [(0, .ref rm), (1, .int (i32 v1)), (2, .int (i32 v2)), (3, .long v3)]) hl [0, 1, 2, 3] rfl) hc)
end M58

section M57
variable {p : Program} {l : Launch} {e : Env} {R : Room} {s : State} {m : MethodId} {args : Array Value} {below : List Frame} {meth : Method} {c : Code} {D : va_G} {cA : Nat → ClassId} {tys : List (ClassId × FieldType)} {A : Nat → Prop} {n0 s0 : Nat} {QM : State → Prop} {dm : List Nat × Nat × Nat} {ra : Nat → Nat} {jx : Nat → Nat → Nat} {rm : Nat}
theorem dX16_bounded_0 : decode cX16_bounded 0 = .ok (.aload_n 0, 1) := by decide +kernel
theorem dX16_bounded_1 : decode cX16_bounded 1 = .ok (.invokevirtual 76, 3) := by decide +kernel
theorem dX16_bounded_4 : decode cX16_bounded 4 = .ok (.aload_n 0, 1) := by decide +kernel
theorem dX16_bounded_5 : decode cX16_bounded 5 = .ok (.getfield 38, 3) := by decide +kernel
theorem dX16_bounded_8 : decode cX16_bounded 8 = .ok (.iconst 2, 1) := by decide +kernel
theorem dX16_bounded_9 : decode cX16_bounded 9 = .ok (.if_icmp .eq 8, 3) := by decide +kernel
theorem dX16_bounded_12 : decode cX16_bounded 12 = .ok (.aload_n 0, 1) := by decide +kernel
theorem dX16_bounded_13 : decode cX16_bounded 13 = .ok (.invokevirtual 80, 3) := by decide +kernel
theorem dX16_bounded_16 : decode cX16_bounded 16 = .ok (.athrow, 1) := by decide +kernel
theorem dX16_bounded_17 : decode cX16_bounded 17 = .ok (.aload_n 0, 1) := by decide +kernel
theorem dX16_bounded_18 : decode cX16_bounded 18 = .ok (.getfield 60, 3) := by decide +kernel
theorem dX16_bounded_21 : decode cX16_bounded 21 = .ok (.lload_n 1, 1) := by decide +kernel
theorem dX16_bounded_22 : decode cX16_bounded 22 = .ok (.lload_n 3, 1) := by decide +kernel
theorem dX16_bounded_23 : decode cX16_bounded 23 = .ok (.invokestatic 45, 3) := by decide +kernel
theorem dX16_bounded_26 : decode cX16_bounded 26 = .ok (.ifCond .ne 10, 3) := by decide +kernel
theorem dX16_bounded_29 : decode cX16_bounded 29 = .ok (.aload_n 0, 1) := by decide +kernel
theorem dX16_bounded_30 : decode cX16_bounded 30 = .ok (.bipush 7, 2) := by decide +kernel
theorem dX16_bounded_32 : decode cX16_bounded 32 = .ok (.invokevirtual 65, 3) := by decide +kernel
theorem dX16_bounded_35 : decode cX16_bounded 35 = .ok (.athrow, 1) := by decide +kernel
theorem dX16_bounded_36 : decode cX16_bounded 36 = .ok (.aload_n 0, 1) := by decide +kernel
theorem dX16_bounded_37 : decode cX16_bounded 37 = .ok (.invokevirtual 84, 3) := by decide +kernel
theorem dX16_bounded_40 : decode cX16_bounded 40 = .ok (.aload_n 0, 1) := by decide +kernel
theorem dX16_bounded_41 : decode cX16_bounded 41 = .ok (.getfield 60, 3) := by decide +kernel
theorem dX16_bounded_44 : decode cX16_bounded 44 = .ok (.lreturn, 1) := by decide +kernel
set_option maxRecDepth 20000 in
theorem a_X16_bounded_36 {Q : Sg → Int64 → Prop} {X : Sg → String → Prop} (K : MC R p s m args c cX16_bounded 5 RX16 D cA tys A n0 s0 5 113 []) (hQ : HQJ p l e R s m args below meth c cX16_bounded D cA A n0 s0 QM dm ra jx rm Q) (hX : HX p l e R s m args below meth c 5 D cA A n0 s0 QM dm ra jx rm X) : ∀ (σ : Sg), w_X16_bounded_36 ra jx rm Q X σ → RG σ → Shp dm ra jx rm σ → JJ p l e R s m args below meth c 5 D cA A n0 s0 QM σ 36 [(0, .ref rm)] [] := by
  intro σ h hGσ hS H locs ls hH hl hc
  have B := K.1
  unfold w_X16_bounded_36 at h
  refine lv_aload_n B.1 B.2.1 dX16_bounded_36 rfl (lv_at hl 0 rfl) ?_
  refine c_V B hH hl hc K.2.2.1 (C := RX16) (T := TX16) (N := 123) (ci := 16) (As := []) (ok_X16_take K.2.1 σ hGσ hS h) wc_X16_84 0 hd_X16_take ⟨Nat.le_trans (Nat.le_of_ble_eq_true rfl) K.2.2.2.1, Nat.le_trans (Nat.le_of_ble_eq_true rfl) K.2.2.2.2.1⟩ hS.1.1 hS.1.2 (by decide) rfl rfl (rest := []) rfl (Nat.le_of_ble_eq_true rfl) dX16_bounded_37 (fun σ17 w hq => ?_) (fun σ9 E9 hx9 => hX σ9 E9 _ _ _ (tb_out K.2.2.2.2.2 rfl) hx9.1 hx9.2.1 hx9.2.2)
  obtain ⟨rfl, h, hGσ17, hS⟩ := hq
  intro H locs ls hH hl hc
  refine W.eq (g2 := F0 m 40 ls []) (rfl) ?_
  try dsimp only at h
  refine lv_aload_n B.1 B.2.1 dX16_bounded_40 rfl (lv_at hl 0 rfl) ?_
  refine r_getl B hH hS 13 (by decide) wf_X16_60 rfl rfl dX16_bounded_41 ?_
  exact hQ _ _ _ _ _ _ dX16_bounded_44 hH hc h hGσ17 hS
set_option maxRecDepth 20000 in
theorem a_X16_bounded_29 {Q : Sg → Int64 → Prop} {X : Sg → String → Prop} (K : MC R p s m args c cX16_bounded 5 RX16 D cA tys A n0 s0 5 113 []) (hQ : HQJ p l e R s m args below meth c cX16_bounded D cA A n0 s0 QM dm ra jx rm Q) (hX : HX p l e R s m args below meth c 5 D cA A n0 s0 QM dm ra jx rm X) : ∀ (σ : Sg), w_X16_bounded_29 ra jx rm Q X σ → RG σ → Shp dm ra jx rm σ → JJ p l e R s m args below meth c 5 D cA A n0 s0 QM σ 29 [(0, .ref rm)] [] := by
  intro σ h hGσ hS H locs ls hH hl hc
  have B := K.1
  unfold w_X16_bounded_29 at h
  refine lv_aload_n B.1 B.2.1 dX16_bounded_29 rfl (lv_at hl 0 rfl) ?_
  refine lv_bipush (v := i32 7) B.1 B.2.1 dX16_bounded_30 (by decide) ?_
  refine c_V B hH hl hc K.2.2.1 (C := RX16) (T := TX16) (N := 123) (ci := 16) (As := [.int (i32 7)]) (ok_X16_fail K.2.1 σ 7 (by unfold rng; omega) hGσ hS h) wc_X16_65 1 hd_X16_fail ⟨Nat.le_trans (Nat.le_of_ble_eq_true rfl) K.2.2.2.1, Nat.le_trans (Nat.le_of_ble_eq_true rfl) K.2.2.2.2.1⟩ hS.1.1 hS.1.2 (by decide) rfl rfl (rest := []) rfl (Nat.le_of_ble_eq_true rfl) dX16_bounded_32 (fun σ18 w hq => ?_) (fun σ9 E9 hx9 => hX σ9 E9 _ _ _ (tb_out K.2.2.2.2.2 rfl) hx9.1 hx9.2.1 hx9.2.2)
  obtain ⟨r19, rfl, h, hGσ18, hS⟩ := hq
  intro H locs ls hH hl hc
  refine W.eq (g2 := F0 m 35 ls [va_rf r19]) (rfl) ?_
  try dsimp only at h
  obtain ⟨qt, h⟩ := h
  refine W.eq (g2 := F0 m 35 ls [.ref (ra 1)]) (by rw [qt]; rfl) ?_
  have hx9 := And.intro h (And.intro hGσ18 hS)
  refine h_athrow B hH hl hc (ci := 14) (hS.ob (k := 1) (ci := 14) (by decide)).1 (hS.ob (k := 1) (ci := 14) (by decide)).2 (by decide) rfl dX16_bounded_35 ?_
  exact hX σ18 _ _ _ _ (tb_out K.2.2.2.2.2 rfl) hx9.1 hx9.2.1 hx9.2.2
set_option maxRecDepth 20000 in
theorem a_X16_bounded_17 {Q : Sg → Int64 → Prop} {X : Sg → String → Prop} (K : MC R p s m args c cX16_bounded 5 RX16 D cA tys A n0 s0 5 113 []) (hQ : HQJ p l e R s m args below meth c cX16_bounded D cA A n0 s0 QM dm ra jx rm Q) (hX : HX p l e R s m args below meth c 5 D cA A n0 s0 QM dm ra jx rm X) : ∀ (σ : Sg) (v1 : Int64) (v3 : Int64), w_X16_bounded_17 ra jx rm Q X σ v1 v3 → RG σ → Shp dm ra jx rm σ → JJ p l e R s m args below meth c 5 D cA A n0 s0 QM σ 17 [(0, .ref rm), (1, .long v1), (3, .long v3)] [] := by
  intro σ v1 v3 h hGσ hS H locs ls hH hl hc
  have B := K.1
  unfold w_X16_bounded_17 at h
  refine lv_aload_n B.1 B.2.1 dX16_bounded_17 rfl (lv_at hl 0 rfl) ?_
  refine r_getl B hH hS 13 (by decide) wf_X16_60 rfl rfl dX16_bounded_18 ?_
  refine lv_lload_n B.1 B.2.1 dX16_bounded_21 rfl (lv_at hl 1 rfl) ?_
  refine lv_lload_n B.1 B.2.1 dX16_bounded_22 rfl (lv_at hl 2 rfl) ?_
  refine c_S B hH hl hc K.2.2.1 (As := [.long (gJ σ rm 13), .long v1, .long v3]) (ok_X16_within K.2.1 σ (gJ σ rm 13) v1 v3 hGσ hS h) wc_X16_45 3 hd_X16_within ⟨Nat.le_trans (Nat.le_of_ble_eq_true rfl) K.2.2.2.1, Nat.le_trans (Nat.le_of_ble_eq_true rfl) K.2.2.2.2.1⟩ rfl (rest := []) rfl (Nat.le_of_ble_eq_true rfl) dX16_bounded_23 (fun σ20 w hq => ?_) (fun σ9 E9 hx9 => hX σ9 E9 _ _ _ (tb_out K.2.2.2.2.2 rfl) hx9.1 hx9.2.1 hx9.2.2)
  obtain ⟨r21, rfl, ⟨gr21, gzr21⟩, h, hGσ20, hS⟩ := hq
  intro H locs ls hH hl hc
  refine W.eq (g2 := F0 m 26 ls [.int (i32 r21)]) (rfl) ?_
  try dsimp only at h
  refine lv_if_ne (tgt := 36) B.1 B.2.1 dX16_bounded_26 (by decide) (fun h9 => ?_) (fun h9 => ?_)
  · rw [if_pos (fun q => h9 ((z_eq gr21).mpr q))] at h
    exact a_X16_bounded_36 K hQ hX _ h hGσ20 hS _ _ _ hH (lv_sub (l' := [(0, .ref rm)]) hl [0] rfl) hc
  · rw [if_neg (fun q => q ((z_eq gr21).mp h9))] at h
    exact a_X16_bounded_29 K hQ hX _ h hGσ20 hS _ _ _ hH (lv_sub (l' := [(0, .ref rm)]) hl [0] rfl) hc
set_option maxRecDepth 20000 in
theorem a_X16_bounded_12 {Q : Sg → Int64 → Prop} {X : Sg → String → Prop} (K : MC R p s m args c cX16_bounded 5 RX16 D cA tys A n0 s0 5 113 []) (hQ : HQJ p l e R s m args below meth c cX16_bounded D cA A n0 s0 QM dm ra jx rm Q) (hX : HX p l e R s m args below meth c 5 D cA A n0 s0 QM dm ra jx rm X) : ∀ (σ : Sg), w_X16_bounded_12 ra jx rm Q X σ → RG σ → Shp dm ra jx rm σ → JJ p l e R s m args below meth c 5 D cA A n0 s0 QM σ 12 [(0, .ref rm)] [] := by
  intro σ h hGσ hS H locs ls hH hl hc
  have B := K.1
  unfold w_X16_bounded_12 at h
  refine lv_aload_n B.1 B.2.1 dX16_bounded_12 rfl (lv_at hl 0 rfl) ?_
  refine c_V B hH hl hc K.2.2.1 (C := RX16) (T := TX16) (N := 123) (ci := 16) (As := []) (ok_X16_misplaced K.2.1 σ hGσ hS h) wc_X16_80 0 hd_X16_misplaced ⟨Nat.le_trans (Nat.le_of_ble_eq_true rfl) K.2.2.2.1, Nat.le_trans (Nat.le_of_ble_eq_true rfl) K.2.2.2.2.1⟩ hS.1.1 hS.1.2 (by decide) rfl rfl (rest := []) rfl (Nat.le_of_ble_eq_true rfl) dX16_bounded_13 (fun σ22 w hq => ?_) (fun σ9 E9 hx9 => hX σ9 E9 _ _ _ (tb_out K.2.2.2.2.2 rfl) hx9.1 hx9.2.1 hx9.2.2)
  obtain ⟨r23, rfl, h, hGσ22, hS⟩ := hq
  intro H locs ls hH hl hc
  refine W.eq (g2 := F0 m 16 ls [va_rf r23]) (rfl) ?_
  try dsimp only at h
  obtain ⟨qt, h⟩ := h
  refine W.eq (g2 := F0 m 16 ls [.ref (ra 1)]) (by rw [qt]; rfl) ?_
  have hx9 := And.intro h (And.intro hGσ22 hS)
  refine h_athrow B hH hl hc (ci := 14) (hS.ob (k := 1) (ci := 14) (by decide)).1 (hS.ob (k := 1) (ci := 14) (by decide)).2 (by decide) rfl dX16_bounded_16 ?_
  exact hX σ22 _ _ _ _ (tb_out K.2.2.2.2.2 rfl) hx9.1 hx9.2.1 hx9.2.2
set_option maxRecDepth 20000 in
theorem a_X16_bounded_0 {Q : Sg → Int64 → Prop} {X : Sg → String → Prop} (K : MC R p s m args c cX16_bounded 5 RX16 D cA tys A n0 s0 5 113 []) (hQ : HQJ p l e R s m args below meth c cX16_bounded D cA A n0 s0 QM dm ra jx rm Q) (hX : HX p l e R s m args below meth c 5 D cA A n0 s0 QM dm ra jx rm X) : ∀ (σ : Sg) (v1 : Int64) (v3 : Int64), w_X16_bounded_0 ra jx rm Q X σ v1 v3 → RG σ → Shp dm ra jx rm σ → JJ p l e R s m args below meth c 5 D cA A n0 s0 QM σ 0 [(0, .ref rm), (1, .long v1), (3, .long v3)] [] := by
  intro σ v1 v3 h hGσ hS H locs ls hH hl hc
  have B := K.1
  unfold w_X16_bounded_0 at h
  refine lv_aload_n B.1 B.2.1 dX16_bounded_0 rfl (lv_at hl 0 rfl) ?_
  refine c_V B hH hl hc K.2.2.1 (C := RX16) (T := TX16) (N := 123) (ci := 16) (As := []) (ok_X16_see K.2.1 σ hGσ hS h) wc_X16_76 0 hd_X16_see ⟨Nat.le_trans (Nat.le_of_ble_eq_true rfl) K.2.2.2.1, Nat.le_trans (Nat.le_of_ble_eq_true rfl) K.2.2.2.2.1⟩ hS.1.1 hS.1.2 (by decide) rfl rfl (rest := []) rfl (Nat.le_of_ble_eq_true rfl) dX16_bounded_1 (fun σ24 w hq => ?_) (fun σ9 E9 hx9 => hX σ9 E9 _ _ _ (tb_out K.2.2.2.2.2 rfl) hx9.1 hx9.2.1 hx9.2.2)
  obtain ⟨rfl, h, hGσ24, hS⟩ := hq
  intro H locs ls hH hl hc
  refine W.eq (g2 := F0 m 4 ls []) (rfl) ?_
  try dsimp only at h
  refine lv_aload_n B.1 B.2.1 dX16_bounded_4 rfl (lv_at hl 0 rfl) ?_
  refine r_geti B hH hS 9 (by decide) wf_X16_38 rfl rfl dX16_bounded_5 ?_
  refine lv_iconst (v := i32 2) B.1 B.2.1 dX16_bounded_8 (by decide) ?_
  refine lv_icmp_eq (tgt := 17) B.1 B.2.1 dX16_bounded_9 (by decide) (fun h9 => ?_) (fun h9 => ?_)
  · rw [if_pos ((i32_eq (hGσ24 _ _) (by unfold rng; omega)).mp h9)] at h
    exact a_X16_bounded_17 K hQ hX _ _ _ h hGσ24 hS _ _ _ hH (lv_sub (l' := [(0, .ref rm), (1, .long v1), (3, .long v3)]) hl [0, 1, 2] rfl) hc
  · rw [if_neg (fun q => h9 ((i32_eq (hGσ24 _ _) (by unfold rng; omega)).mpr q))] at h
    exact a_X16_bounded_12 K hQ hX _ h hGσ24 hS _ _ _ hH (lv_sub (l' := [(0, .ref rm)]) hl [0] rfl) hc
theorem ok_X16_bounded (hT : Tys cA tys) {Q : Sg → Int64 → Prop} {X : Sg → String → Prop} (σ : Sg) (v1 : Int64) (v3 : Int64) (hG : RG σ) (hS : Shp dm ra jx rm σ) (h : wp_X16_bounded ra jx rm v1 v3 σ Q X) : Ok l D cA tys A yX16_bounded (.code yX16_bounded cX16_bounded 5 (some .long)) 5 113 [.ref rm, .long v1, .long v3] σ (QnJ dm ra jx rm Q) (QxR dm ra jx rm X) := by
  unfold wp_X16_bounded at h
  exact ok_J (plainFor_of_name (by decide)) (by exact Nat.le_of_ble_eq_true rfl) hT (fun p e R s m args below meth c K hQ hX H locs ls hH hl hc => a_X16_bounded_0 K hQ hX σ v1 v3 h hG hS H locs ls hH (lv_sub (l' := [(0, .ref rm), (1, .long v1), (3, .long v3)]) hl [0, 1, 2] rfl) hc)
theorem dX16_channel__0 : decode cX16_channel_ 0 = .ok (.aload_n 0, 1) := by decide +kernel
theorem dX16_channel__1 : decode cX16_channel_ 1 = .ok (.iload_n 1, 1) := by decide +kernel
theorem dX16_channel__2 : decode cX16_channel_ 2 = .ok (.i2l, 1) := by decide +kernel
theorem dX16_channel__3 : decode cX16_channel_ 3 = .ok (.lconst 0, 1) := by decide +kernel
theorem dX16_channel__4 : decode cX16_channel_ 4 = .ok (.aload_n 0, 1) := by decide +kernel
theorem dX16_channel__5 : decode cX16_channel_ 5 = .ok (.getfield 371, 3) := by decide +kernel
theorem dX16_channel__8 : decode cX16_channel_ 8 = .ok (.iconst 1, 1) := by decide +kernel
theorem dX16_channel__9 : decode cX16_channel_ 9 = .ok (.isub, 1) := by decide +kernel
theorem dX16_channel__10 : decode cX16_channel_ 10 = .ok (.i2l, 1) := by decide +kernel
theorem dX16_channel__11 : decode cX16_channel_ 11 = .ok (.invokestatic 45, 3) := by decide +kernel
theorem dX16_channel__14 : decode cX16_channel_ 14 = .ok (.ifCond .ne 7, 3) := by decide +kernel
theorem dX16_channel__17 : decode cX16_channel_ 17 = .ok (.iconst 1, 1) := by decide +kernel
theorem dX16_channel__18 : decode cX16_channel_ 18 = .ok (.goto 38, 3) := by decide +kernel
theorem dX16_channel__21 : decode cX16_channel_ 21 = .ok (.aload_n 0, 1) := by decide +kernel
theorem dX16_channel__22 : decode cX16_channel_ 22 = .ok (.getfield 688, 3) := by decide +kernel
theorem dX16_channel__25 : decode cX16_channel_ 25 = .ok (.ifCond .ne 10, 3) := by decide +kernel
theorem dX16_channel__28 : decode cX16_channel_ 28 = .ok (.aload_n 0, 1) := by decide +kernel
theorem dX16_channel__29 : decode cX16_channel_ 29 = .ok (.getfield 831, 3) := by decide +kernel
theorem dX16_channel__32 : decode cX16_channel_ 32 = .ok (.ifCond .eq 7, 3) := by decide +kernel
theorem dX16_channel__35 : decode cX16_channel_ 35 = .ok (.iconst 2, 1) := by decide +kernel
theorem dX16_channel__36 : decode cX16_channel_ 36 = .ok (.goto 20, 3) := by decide +kernel
theorem dX16_channel__39 : decode cX16_channel_ 39 = .ok (.iload_n 2, 1) := by decide +kernel
theorem dX16_channel__40 : decode cX16_channel_ 40 = .ok (.i2l, 1) := by decide +kernel
theorem dX16_channel__41 : decode cX16_channel_ 41 = .ok (.lconst 0, 1) := by decide +kernel
theorem dX16_channel__42 : decode cX16_channel_ 42 = .ok (.ldc2_w 1006, 3) := by decide +kernel
theorem dX16_channel__45 : decode cX16_channel_ 45 = .ok (.invokestatic 45, 3) := by decide +kernel
theorem dX16_channel__48 : decode cX16_channel_ 48 = .ok (.ifCond .ne 7, 3) := by decide +kernel
theorem dX16_channel__51 : decode cX16_channel_ 51 = .ok (.iconst 3, 1) := by decide +kernel
theorem dX16_channel__52 : decode cX16_channel_ 52 = .ok (.goto 4, 3) := by decide +kernel
theorem dX16_channel__55 : decode cX16_channel_ 55 = .ok (.iconst 0, 1) := by decide +kernel
theorem dX16_channel__56 : decode cX16_channel_ 56 = .ok (.putfield 1, 3) := by decide +kernel
theorem dX16_channel__59 : decode cX16_channel_ 59 = .ok (.aload_n 0, 1) := by decide +kernel
theorem dX16_channel__60 : decode cX16_channel_ 60 = .ok (.getfield 1, 3) := by decide +kernel
theorem dX16_channel__63 : decode cX16_channel_ 63 = .ok (.ifCond .le 5, 3) := by decide +kernel
theorem dX16_channel__66 : decode cX16_channel_ 66 = .ok (.lconst 0, 1) := by decide +kernel
theorem dX16_channel__67 : decode cX16_channel_ 67 = .ok (.lreturn, 1) := by decide +kernel
theorem dX16_channel__68 : decode cX16_channel_ 68 = .ok (.iload_n 2, 1) := by decide +kernel
theorem dX16_channel__69 : decode cX16_channel_ 69 = .ok (.ifCond .ne 13, 3) := by decide +kernel
theorem dX16_channel__72 : decode cX16_channel_ 72 = .ok (.aload_n 0, 1) := by decide +kernel
theorem dX16_channel__73 : decode cX16_channel_ 73 = .ok (.getfield 368, 3) := by decide +kernel
theorem dX16_channel__76 : decode cX16_channel_ 76 = .ok (.iload_n 1, 1) := by decide +kernel
theorem dX16_channel__77 : decode cX16_channel_ 77 = .ok (.iaload, 1) := by decide +kernel
theorem dX16_channel__78 : decode cX16_channel_ 78 = .ok (.i2l, 1) := by decide +kernel
theorem dX16_channel__79 : decode cX16_channel_ 79 = .ok (.goto 75, 3) := by decide +kernel
theorem dX16_channel__82 : decode cX16_channel_ 82 = .ok (.iload_n 2, 1) := by decide +kernel
theorem dX16_channel__83 : decode cX16_channel_ 83 = .ok (.iconst 1, 1) := by decide +kernel
theorem dX16_channel__84 : decode cX16_channel_ 84 = .ok (.if_icmp .ne 13, 3) := by decide +kernel
theorem dX16_channel__87 : decode cX16_channel_ 87 = .ok (.aload_n 0, 1) := by decide +kernel
theorem dX16_channel__88 : decode cX16_channel_ 88 = .ok (.getfield 374, 3) := by decide +kernel
theorem dX16_channel__91 : decode cX16_channel_ 91 = .ok (.iload_n 1, 1) := by decide +kernel
theorem dX16_channel__92 : decode cX16_channel_ 92 = .ok (.iaload, 1) := by decide +kernel
theorem dX16_channel__93 : decode cX16_channel_ 93 = .ok (.i2l, 1) := by decide +kernel
theorem dX16_channel__94 : decode cX16_channel_ 94 = .ok (.goto 60, 3) := by decide +kernel
theorem dX16_channel__97 : decode cX16_channel_ 97 = .ok (.iload_n 2, 1) := by decide +kernel
theorem dX16_channel__98 : decode cX16_channel_ 98 = .ok (.iconst 2, 1) := by decide +kernel
theorem dX16_channel__99 : decode cX16_channel_ 99 = .ok (.if_icmp .ne 13, 3) := by decide +kernel
theorem dX16_channel__102 : decode cX16_channel_ 102 = .ok (.aload_n 0, 1) := by decide +kernel
theorem dX16_channel__103 : decode cX16_channel_ 103 = .ok (.getfield 447, 3) := by decide +kernel
theorem dX16_channel__106 : decode cX16_channel_ 106 = .ok (.iload_n 1, 1) := by decide +kernel
theorem dX16_channel__107 : decode cX16_channel_ 107 = .ok (.iaload, 1) := by decide +kernel
theorem dX16_channel__108 : decode cX16_channel_ 108 = .ok (.i2l, 1) := by decide +kernel
theorem dX16_channel__109 : decode cX16_channel_ 109 = .ok (.goto 45, 3) := by decide +kernel
theorem dX16_channel__112 : decode cX16_channel_ 112 = .ok (.iload_n 2, 1) := by decide +kernel
theorem dX16_channel__113 : decode cX16_channel_ 113 = .ok (.iconst 3, 1) := by decide +kernel
theorem dX16_channel__114 : decode cX16_channel_ 114 = .ok (.if_icmp .ne 12, 3) := by decide +kernel
theorem dX16_channel__117 : decode cX16_channel_ 117 = .ok (.aload_n 0, 1) := by decide +kernel
theorem dX16_channel__118 : decode cX16_channel_ 118 = .ok (.getfield 453, 3) := by decide +kernel
theorem dX16_channel__121 : decode cX16_channel_ 121 = .ok (.iload_n 1, 1) := by decide +kernel
theorem dX16_channel__122 : decode cX16_channel_ 122 = .ok (.laload, 1) := by decide +kernel
theorem dX16_channel__123 : decode cX16_channel_ 123 = .ok (.goto 31, 3) := by decide +kernel
theorem dX16_channel__126 : decode cX16_channel_ 126 = .ok (.iload_n 2, 1) := by decide +kernel
theorem dX16_channel__127 : decode cX16_channel_ 127 = .ok (.iconst 4, 1) := by decide +kernel
theorem dX16_channel__128 : decode cX16_channel_ 128 = .ok (.if_icmp .ne 20, 3) := by decide +kernel
theorem dX16_channel__131 : decode cX16_channel_ 131 = .ok (.aload_n 0, 1) := by decide +kernel
theorem dX16_channel__132 : decode cX16_channel_ 132 = .ok (.getfield 456, 3) := by decide +kernel
theorem dX16_channel__135 : decode cX16_channel_ 135 = .ok (.iload_n 1, 1) := by decide +kernel
theorem dX16_channel__136 : decode cX16_channel_ 136 = .ok (.baload, 1) := by decide +kernel
theorem dX16_channel__137 : decode cX16_channel_ 137 = .ok (.ifCond .eq 7, 3) := by decide +kernel
theorem dX16_channel__140 : decode cX16_channel_ 140 = .ok (.lconst 1, 1) := by decide +kernel
theorem dX16_channel__141 : decode cX16_channel_ 141 = .ok (.goto 13, 3) := by decide +kernel
theorem dX16_channel__144 : decode cX16_channel_ 144 = .ok (.lconst 0, 1) := by decide +kernel
theorem dX16_channel__145 : decode cX16_channel_ 145 = .ok (.goto 9, 3) := by decide +kernel
theorem dX16_channel__148 : decode cX16_channel_ 148 = .ok (.aload_n 0, 1) := by decide +kernel
theorem dX16_channel__149 : decode cX16_channel_ 149 = .ok (.getfield 459, 3) := by decide +kernel
theorem dX16_channel__152 : decode cX16_channel_ 152 = .ok (.iload_n 1, 1) := by decide +kernel
theorem dX16_channel__153 : decode cX16_channel_ 153 = .ok (.laload, 1) := by decide +kernel
theorem dX16_channel__154 : decode cX16_channel_ 154 = .ok (.lreturn, 1) := by decide +kernel
set_option maxRecDepth 20000 in
theorem a_X16_channel__154 {Q : Sg → Int64 → Prop} {X : Sg → String → Prop} (K : MC R p s m args c cX16_channel_ 3 RX16 D cA tys A n0 s0 1 25 []) (hQ : HQJ p l e R s m args below meth c cX16_channel_ D cA A n0 s0 QM dm ra jx rm Q) (hX : HX p l e R s m args below meth c 3 D cA A n0 s0 QM dm ra jx rm X) : ∀ (σ : Sg) (u0 : Int64), w_X16_channel__154 ra jx rm Q X σ u0 → RG σ → Shp dm ra jx rm σ → JJ p l e R s m args below meth c 3 D cA A n0 s0 QM σ 154 [(0, .ref rm)] [.long u0] := by
  intro σ u0 h hGσ hS H locs ls hH hl hc
  have B := K.1
  unfold w_X16_channel__154 at h
  exact hQ _ _ _ _ _ _ dX16_channel__154 hH hc h hGσ hS
set_option maxRecDepth 20000 in
theorem a_X16_channel__148 {Q : Sg → Int64 → Prop} {X : Sg → String → Prop} (K : MC R p s m args c cX16_channel_ 3 RX16 D cA tys A n0 s0 1 25 []) (hQ : HQJ p l e R s m args below meth c cX16_channel_ D cA A n0 s0 QM dm ra jx rm Q) (hX : HX p l e R s m args below meth c 3 D cA A n0 s0 QM dm ra jx rm X) : ∀ (σ : Sg) (v1 : Int) (g1 : rng v1), w_X16_channel__148 ra jx rm Q X σ v1 → RG σ → Shp dm ra jx rm σ → JJ p l e R s m args below meth c 3 D cA A n0 s0 QM σ 148 [(0, .ref rm), (1, .int (i32 v1))] [] := by
  intro σ v1 g1 h hGσ hS H locs ls hH hl hc
  have B := K.1
  unfold w_X16_channel__148 at h
  refine lv_aload_n B.1 B.2.1 dX16_channel__148 rfl (lv_at hl 0 rfl) ?_
  refine r_arr B hH hS 58 (kd := 101) (n := 1100) (by decide) (by decide) wf_X16_459 rfl rfl dX16_channel__149 ?_
  refine lv_iload_n B.1 B.2.1 dX16_channel__152 rfl (lv_at hl 1 rfl) ?_
  obtain ⟨q1, h⟩ := h
  refine x_lald B K.2.1 hH (hS.ar (k := 58) (kd := 101) (n := 1100) (by decide)) (by decide) q1 dX16_channel__153 ?_
  exact a_X16_channel__154 K hQ hX _ _ h hGσ hS _ _ _ hH (lv_sub (l' := [(0, .ref rm)]) hl [0] rfl) hc
set_option maxRecDepth 20000 in
theorem a_X16_channel__144 {Q : Sg → Int64 → Prop} {X : Sg → String → Prop} (K : MC R p s m args c cX16_channel_ 3 RX16 D cA tys A n0 s0 1 25 []) (hQ : HQJ p l e R s m args below meth c cX16_channel_ D cA A n0 s0 QM dm ra jx rm Q) (hX : HX p l e R s m args below meth c 3 D cA A n0 s0 QM dm ra jx rm X) : ∀ (σ : Sg), w_X16_channel__144 ra jx rm Q X σ → RG σ → Shp dm ra jx rm σ → JJ p l e R s m args below meth c 3 D cA A n0 s0 QM σ 144 [(0, .ref rm)] [] := by
  intro σ h hGσ hS H locs ls hH hl hc
  have B := K.1
  unfold w_X16_channel__144 at h
  refine lv_lconst (v := 0) B.1 B.2.1 dX16_channel__144 (by decide) ?_
  refine lv_goto (tgt := 154) B.1 B.2.1 dX16_channel__145 (by decide) ?_
  exact a_X16_channel__154 K hQ hX _ _ h hGσ hS _ _ _ hH (lv_sub (l' := [(0, .ref rm)]) hl [0] rfl) hc
set_option maxRecDepth 20000 in
theorem a_X16_channel__140 {Q : Sg → Int64 → Prop} {X : Sg → String → Prop} (K : MC R p s m args c cX16_channel_ 3 RX16 D cA tys A n0 s0 1 25 []) (hQ : HQJ p l e R s m args below meth c cX16_channel_ D cA A n0 s0 QM dm ra jx rm Q) (hX : HX p l e R s m args below meth c 3 D cA A n0 s0 QM dm ra jx rm X) : ∀ (σ : Sg), w_X16_channel__140 ra jx rm Q X σ → RG σ → Shp dm ra jx rm σ → JJ p l e R s m args below meth c 3 D cA A n0 s0 QM σ 140 [(0, .ref rm)] [] := by
  intro σ h hGσ hS H locs ls hH hl hc
  have B := K.1
  unfold w_X16_channel__140 at h
  refine lv_lconst (v := 1) B.1 B.2.1 dX16_channel__140 (by decide) ?_
  refine lv_goto (tgt := 154) B.1 B.2.1 dX16_channel__141 (by decide) ?_
  exact a_X16_channel__154 K hQ hX _ _ h hGσ hS _ _ _ hH (lv_sub (l' := [(0, .ref rm)]) hl [0] rfl) hc
set_option maxRecDepth 20000 in
theorem a_X16_channel__131 {Q : Sg → Int64 → Prop} {X : Sg → String → Prop} (K : MC R p s m args c cX16_channel_ 3 RX16 D cA tys A n0 s0 1 25 []) (hQ : HQJ p l e R s m args below meth c cX16_channel_ D cA A n0 s0 QM dm ra jx rm Q) (hX : HX p l e R s m args below meth c 3 D cA A n0 s0 QM dm ra jx rm X) : ∀ (σ : Sg) (v1 : Int) (g1 : rng v1), w_X16_channel__131 ra jx rm Q X σ v1 → RG σ → Shp dm ra jx rm σ → JJ p l e R s m args below meth c 3 D cA A n0 s0 QM σ 131 [(0, .ref rm), (1, .int (i32 v1))] [] := by
  intro σ v1 g1 h hGσ hS H locs ls hH hl hc
  have B := K.1
  unfold w_X16_channel__131 at h
  refine lv_aload_n B.1 B.2.1 dX16_channel__131 rfl (lv_at hl 0 rfl) ?_
  refine r_arr B hH hS 57 (kd := 103) (n := 1100) (by decide) (by decide) wf_X16_456 rfl rfl dX16_channel__132 ?_
  refine lv_iload_n B.1 B.2.1 dX16_channel__135 rfl (lv_at hl 1 rfl) ?_
  obtain ⟨q1, h⟩ := h
  refine x_zald B K.2.1 hH (hS.ar (k := 57) (kd := 103) (n := 1100) (by decide)) (by decide) q1 dX16_channel__136 ?_
  refine lv_if_eq (tgt := 144) B.1 B.2.1 dX16_channel__137 (by decide) (fun h9 => ?_) (fun h9 => ?_)
  · rw [if_pos ((z_eq (hGσ _ _)).mp h9)] at h
    exact a_X16_channel__144 K hQ hX _ h hGσ hS _ _ _ hH (lv_sub (l' := [(0, .ref rm)]) hl [0] rfl) hc
  · rw [if_neg (fun q => h9 ((z_eq (hGσ _ _)).mpr q))] at h
    exact a_X16_channel__140 K hQ hX _ h hGσ hS _ _ _ hH (lv_sub (l' := [(0, .ref rm)]) hl [0] rfl) hc
set_option maxRecDepth 20000 in
theorem a_X16_channel__126 {Q : Sg → Int64 → Prop} {X : Sg → String → Prop} (K : MC R p s m args c cX16_channel_ 3 RX16 D cA tys A n0 s0 1 25 []) (hQ : HQJ p l e R s m args below meth c cX16_channel_ D cA A n0 s0 QM dm ra jx rm Q) (hX : HX p l e R s m args below meth c 3 D cA A n0 s0 QM dm ra jx rm X) : ∀ (σ : Sg) (v1 : Int) (v2 : Int) (g1 : rng v1) (g2 : rng v2), w_X16_channel__126 ra jx rm Q X σ v1 v2 → RG σ → Shp dm ra jx rm σ → JJ p l e R s m args below meth c 3 D cA A n0 s0 QM σ 126 [(0, .ref rm), (1, .int (i32 v1)), (2, .int (i32 v2))] [] := by
  intro σ v1 v2 g1 g2 h hGσ hS H locs ls hH hl hc
  have B := K.1
  unfold w_X16_channel__126 at h
  refine lv_iload_n B.1 B.2.1 dX16_channel__126 rfl (lv_at hl 2 rfl) ?_
  refine lv_iconst (v := i32 4) B.1 B.2.1 dX16_channel__127 (by decide) ?_
  refine lv_icmp_ne (tgt := 148) B.1 B.2.1 dX16_channel__128 (by decide) (fun h9 => ?_) (fun h9 => ?_)
  · rw [if_pos (fun q => h9 ((i32_eq g2 (by unfold rng; omega)).mpr q))] at h
    exact a_X16_channel__148 K hQ hX _ _ g1 h hGσ hS _ _ _ hH (lv_sub (l' := [(0, .ref rm), (1, .int (i32 v1))]) hl [0, 1] rfl) hc
  · rw [if_neg (fun q => q ((i32_eq g2 (by unfold rng; omega)).mp h9))] at h
    exact a_X16_channel__131 K hQ hX _ _ g1 h hGσ hS _ _ _ hH (lv_sub (l' := [(0, .ref rm), (1, .int (i32 v1))]) hl [0, 1] rfl) hc
set_option maxRecDepth 20000 in
theorem a_X16_channel__117 {Q : Sg → Int64 → Prop} {X : Sg → String → Prop} (K : MC R p s m args c cX16_channel_ 3 RX16 D cA tys A n0 s0 1 25 []) (hQ : HQJ p l e R s m args below meth c cX16_channel_ D cA A n0 s0 QM dm ra jx rm Q) (hX : HX p l e R s m args below meth c 3 D cA A n0 s0 QM dm ra jx rm X) : ∀ (σ : Sg) (v1 : Int) (g1 : rng v1), w_X16_channel__117 ra jx rm Q X σ v1 → RG σ → Shp dm ra jx rm σ → JJ p l e R s m args below meth c 3 D cA A n0 s0 QM σ 117 [(0, .ref rm), (1, .int (i32 v1))] [] := by
  intro σ v1 g1 h hGσ hS H locs ls hH hl hc
  have B := K.1
  unfold w_X16_channel__117 at h
  refine lv_aload_n B.1 B.2.1 dX16_channel__117 rfl (lv_at hl 0 rfl) ?_
  refine r_arr B hH hS 56 (kd := 101) (n := 1100) (by decide) (by decide) wf_X16_453 rfl rfl dX16_channel__118 ?_
  refine lv_iload_n B.1 B.2.1 dX16_channel__121 rfl (lv_at hl 1 rfl) ?_
  obtain ⟨q1, h⟩ := h
  refine x_lald B K.2.1 hH (hS.ar (k := 56) (kd := 101) (n := 1100) (by decide)) (by decide) q1 dX16_channel__122 ?_
  refine lv_goto (tgt := 154) B.1 B.2.1 dX16_channel__123 (by decide) ?_
  exact a_X16_channel__154 K hQ hX _ _ h hGσ hS _ _ _ hH (lv_sub (l' := [(0, .ref rm)]) hl [0] rfl) hc
set_option maxRecDepth 20000 in
theorem a_X16_channel__112 {Q : Sg → Int64 → Prop} {X : Sg → String → Prop} (K : MC R p s m args c cX16_channel_ 3 RX16 D cA tys A n0 s0 1 25 []) (hQ : HQJ p l e R s m args below meth c cX16_channel_ D cA A n0 s0 QM dm ra jx rm Q) (hX : HX p l e R s m args below meth c 3 D cA A n0 s0 QM dm ra jx rm X) : ∀ (σ : Sg) (v1 : Int) (v2 : Int) (g1 : rng v1) (g2 : rng v2), w_X16_channel__112 ra jx rm Q X σ v1 v2 → RG σ → Shp dm ra jx rm σ → JJ p l e R s m args below meth c 3 D cA A n0 s0 QM σ 112 [(0, .ref rm), (1, .int (i32 v1)), (2, .int (i32 v2))] [] := by
  intro σ v1 v2 g1 g2 h hGσ hS H locs ls hH hl hc
  have B := K.1
  unfold w_X16_channel__112 at h
  refine lv_iload_n B.1 B.2.1 dX16_channel__112 rfl (lv_at hl 2 rfl) ?_
  refine lv_iconst (v := i32 3) B.1 B.2.1 dX16_channel__113 (by decide) ?_
  refine lv_icmp_ne (tgt := 126) B.1 B.2.1 dX16_channel__114 (by decide) (fun h9 => ?_) (fun h9 => ?_)
  · rw [if_pos (fun q => h9 ((i32_eq g2 (by unfold rng; omega)).mpr q))] at h
    exact a_X16_channel__126 K hQ hX _ _ _ g1 g2 h hGσ hS _ _ _ hH (lv_sub (l' := [(0, .ref rm), (1, .int (i32 v1)), (2, .int (i32 v2))]) hl [0, 1, 2] rfl) hc
  · rw [if_neg (fun q => q ((i32_eq g2 (by unfold rng; omega)).mp h9))] at h
    exact a_X16_channel__117 K hQ hX _ _ g1 h hGσ hS _ _ _ hH (lv_sub (l' := [(0, .ref rm), (1, .int (i32 v1))]) hl [0, 1] rfl) hc
set_option maxRecDepth 20000 in
theorem a_X16_channel__102 {Q : Sg → Int64 → Prop} {X : Sg → String → Prop} (K : MC R p s m args c cX16_channel_ 3 RX16 D cA tys A n0 s0 1 25 []) (hQ : HQJ p l e R s m args below meth c cX16_channel_ D cA A n0 s0 QM dm ra jx rm Q) (hX : HX p l e R s m args below meth c 3 D cA A n0 s0 QM dm ra jx rm X) : ∀ (σ : Sg) (v1 : Int) (g1 : rng v1), w_X16_channel__102 ra jx rm Q X σ v1 → RG σ → Shp dm ra jx rm σ → JJ p l e R s m args below meth c 3 D cA A n0 s0 QM σ 102 [(0, .ref rm), (1, .int (i32 v1))] [] := by
  intro σ v1 g1 h hGσ hS H locs ls hH hl hc
  have B := K.1
  unfold w_X16_channel__102 at h
  refine lv_aload_n B.1 B.2.1 dX16_channel__102 rfl (lv_at hl 0 rfl) ?_
  refine r_arr B hH hS 54 (kd := 100) (n := 1100) (by decide) (by decide) wf_X16_447 rfl rfl dX16_channel__103 ?_
  refine lv_iload_n B.1 B.2.1 dX16_channel__106 rfl (lv_at hl 1 rfl) ?_
  obtain ⟨q1, h⟩ := h
  refine x_iald B K.2.1 hH (hS.ar (k := 54) (kd := 100) (n := 1100) (by decide)) (by decide) q1 dX16_channel__107 ?_
  refine lv_i2l B.1 B.2.1 dX16_channel__108 (i32_i64 (hGσ _ _)) ?_
  refine lv_goto (tgt := 154) B.1 B.2.1 dX16_channel__109 (by decide) ?_
  exact a_X16_channel__154 K hQ hX _ _ h hGσ hS _ _ _ hH (lv_sub (l' := [(0, .ref rm)]) hl [0] rfl) hc
set_option maxRecDepth 20000 in
theorem a_X16_channel__97 {Q : Sg → Int64 → Prop} {X : Sg → String → Prop} (K : MC R p s m args c cX16_channel_ 3 RX16 D cA tys A n0 s0 1 25 []) (hQ : HQJ p l e R s m args below meth c cX16_channel_ D cA A n0 s0 QM dm ra jx rm Q) (hX : HX p l e R s m args below meth c 3 D cA A n0 s0 QM dm ra jx rm X) : ∀ (σ : Sg) (v1 : Int) (v2 : Int) (g1 : rng v1) (g2 : rng v2), w_X16_channel__97 ra jx rm Q X σ v1 v2 → RG σ → Shp dm ra jx rm σ → JJ p l e R s m args below meth c 3 D cA A n0 s0 QM σ 97 [(0, .ref rm), (1, .int (i32 v1)), (2, .int (i32 v2))] [] := by
  intro σ v1 v2 g1 g2 h hGσ hS H locs ls hH hl hc
  have B := K.1
  unfold w_X16_channel__97 at h
  refine lv_iload_n B.1 B.2.1 dX16_channel__97 rfl (lv_at hl 2 rfl) ?_
  refine lv_iconst (v := i32 2) B.1 B.2.1 dX16_channel__98 (by decide) ?_
  refine lv_icmp_ne (tgt := 112) B.1 B.2.1 dX16_channel__99 (by decide) (fun h9 => ?_) (fun h9 => ?_)
  · rw [if_pos (fun q => h9 ((i32_eq g2 (by unfold rng; omega)).mpr q))] at h
    exact a_X16_channel__112 K hQ hX _ _ _ g1 g2 h hGσ hS _ _ _ hH (lv_sub (l' := [(0, .ref rm), (1, .int (i32 v1)), (2, .int (i32 v2))]) hl [0, 1, 2] rfl) hc
  · rw [if_neg (fun q => q ((i32_eq g2 (by unfold rng; omega)).mp h9))] at h
    exact a_X16_channel__102 K hQ hX _ _ g1 h hGσ hS _ _ _ hH (lv_sub (l' := [(0, .ref rm), (1, .int (i32 v1))]) hl [0, 1] rfl) hc
set_option maxRecDepth 20000 in
theorem a_X16_channel__87 {Q : Sg → Int64 → Prop} {X : Sg → String → Prop} (K : MC R p s m args c cX16_channel_ 3 RX16 D cA tys A n0 s0 1 25 []) (hQ : HQJ p l e R s m args below meth c cX16_channel_ D cA A n0 s0 QM dm ra jx rm Q) (hX : HX p l e R s m args below meth c 3 D cA A n0 s0 QM dm ra jx rm X) : ∀ (σ : Sg) (v1 : Int) (g1 : rng v1), w_X16_channel__87 ra jx rm Q X σ v1 → RG σ → Shp dm ra jx rm σ → JJ p l e R s m args below meth c 3 D cA A n0 s0 QM σ 87 [(0, .ref rm), (1, .int (i32 v1))] [] := by
  intro σ v1 g1 h hGσ hS H locs ls hH hl hc
  have B := K.1
  unfold w_X16_channel__87 at h
  refine lv_aload_n B.1 B.2.1 dX16_channel__87 rfl (lv_at hl 0 rfl) ?_
  refine r_arr B hH hS 52 (kd := 100) (n := 1100) (by decide) (by decide) wf_X16_374 rfl rfl dX16_channel__88 ?_
  refine lv_iload_n B.1 B.2.1 dX16_channel__91 rfl (lv_at hl 1 rfl) ?_
  obtain ⟨q1, h⟩ := h
  refine x_iald B K.2.1 hH (hS.ar (k := 52) (kd := 100) (n := 1100) (by decide)) (by decide) q1 dX16_channel__92 ?_
  refine lv_i2l B.1 B.2.1 dX16_channel__93 (i32_i64 (hGσ _ _)) ?_
  refine lv_goto (tgt := 154) B.1 B.2.1 dX16_channel__94 (by decide) ?_
  exact a_X16_channel__154 K hQ hX _ _ h hGσ hS _ _ _ hH (lv_sub (l' := [(0, .ref rm)]) hl [0] rfl) hc
set_option maxRecDepth 20000 in
theorem a_X16_channel__82 {Q : Sg → Int64 → Prop} {X : Sg → String → Prop} (K : MC R p s m args c cX16_channel_ 3 RX16 D cA tys A n0 s0 1 25 []) (hQ : HQJ p l e R s m args below meth c cX16_channel_ D cA A n0 s0 QM dm ra jx rm Q) (hX : HX p l e R s m args below meth c 3 D cA A n0 s0 QM dm ra jx rm X) : ∀ (σ : Sg) (v1 : Int) (v2 : Int) (g1 : rng v1) (g2 : rng v2), w_X16_channel__82 ra jx rm Q X σ v1 v2 → RG σ → Shp dm ra jx rm σ → JJ p l e R s m args below meth c 3 D cA A n0 s0 QM σ 82 [(0, .ref rm), (1, .int (i32 v1)), (2, .int (i32 v2))] [] := by
  intro σ v1 v2 g1 g2 h hGσ hS H locs ls hH hl hc
  have B := K.1
  unfold w_X16_channel__82 at h
  refine lv_iload_n B.1 B.2.1 dX16_channel__82 rfl (lv_at hl 2 rfl) ?_
  refine lv_iconst (v := i32 1) B.1 B.2.1 dX16_channel__83 (by decide) ?_
  refine lv_icmp_ne (tgt := 97) B.1 B.2.1 dX16_channel__84 (by decide) (fun h9 => ?_) (fun h9 => ?_)
  · rw [if_pos (fun q => h9 ((i32_eq g2 (by unfold rng; omega)).mpr q))] at h
    exact a_X16_channel__97 K hQ hX _ _ _ g1 g2 h hGσ hS _ _ _ hH (lv_sub (l' := [(0, .ref rm), (1, .int (i32 v1)), (2, .int (i32 v2))]) hl [0, 1, 2] rfl) hc
  · rw [if_neg (fun q => q ((i32_eq g2 (by unfold rng; omega)).mp h9))] at h
    exact a_X16_channel__87 K hQ hX _ _ g1 h hGσ hS _ _ _ hH (lv_sub (l' := [(0, .ref rm), (1, .int (i32 v1))]) hl [0, 1] rfl) hc
set_option maxRecDepth 20000 in
theorem a_X16_channel__72 {Q : Sg → Int64 → Prop} {X : Sg → String → Prop} (K : MC R p s m args c cX16_channel_ 3 RX16 D cA tys A n0 s0 1 25 []) (hQ : HQJ p l e R s m args below meth c cX16_channel_ D cA A n0 s0 QM dm ra jx rm Q) (hX : HX p l e R s m args below meth c 3 D cA A n0 s0 QM dm ra jx rm X) : ∀ (σ : Sg) (v1 : Int) (g1 : rng v1), w_X16_channel__72 ra jx rm Q X σ v1 → RG σ → Shp dm ra jx rm σ → JJ p l e R s m args below meth c 3 D cA A n0 s0 QM σ 72 [(0, .ref rm), (1, .int (i32 v1))] [] := by
  intro σ v1 g1 h hGσ hS H locs ls hH hl hc
  have B := K.1
  unfold w_X16_channel__72 at h
  refine lv_aload_n B.1 B.2.1 dX16_channel__72 rfl (lv_at hl 0 rfl) ?_
  refine r_arr B hH hS 51 (kd := 100) (n := 1100) (by decide) (by decide) wf_X16_368 rfl rfl dX16_channel__73 ?_
  refine lv_iload_n B.1 B.2.1 dX16_channel__76 rfl (lv_at hl 1 rfl) ?_
  obtain ⟨q1, h⟩ := h
  refine x_iald B K.2.1 hH (hS.ar (k := 51) (kd := 100) (n := 1100) (by decide)) (by decide) q1 dX16_channel__77 ?_
  refine lv_i2l B.1 B.2.1 dX16_channel__78 (i32_i64 (hGσ _ _)) ?_
  refine lv_goto (tgt := 154) B.1 B.2.1 dX16_channel__79 (by decide) ?_
  exact a_X16_channel__154 K hQ hX _ _ h hGσ hS _ _ _ hH (lv_sub (l' := [(0, .ref rm)]) hl [0] rfl) hc
set_option maxRecDepth 20000 in
theorem a_X16_channel__68 {Q : Sg → Int64 → Prop} {X : Sg → String → Prop} (K : MC R p s m args c cX16_channel_ 3 RX16 D cA tys A n0 s0 1 25 []) (hQ : HQJ p l e R s m args below meth c cX16_channel_ D cA A n0 s0 QM dm ra jx rm Q) (hX : HX p l e R s m args below meth c 3 D cA A n0 s0 QM dm ra jx rm X) : ∀ (σ : Sg) (v1 : Int) (v2 : Int) (g1 : rng v1) (g2 : rng v2), w_X16_channel__68 ra jx rm Q X σ v1 v2 → RG σ → Shp dm ra jx rm σ → JJ p l e R s m args below meth c 3 D cA A n0 s0 QM σ 68 [(0, .ref rm), (1, .int (i32 v1)), (2, .int (i32 v2))] [] := by
  intro σ v1 v2 g1 g2 h hGσ hS H locs ls hH hl hc
  have B := K.1
  unfold w_X16_channel__68 at h
  refine lv_iload_n B.1 B.2.1 dX16_channel__68 rfl (lv_at hl 2 rfl) ?_
  refine lv_if_ne (tgt := 82) B.1 B.2.1 dX16_channel__69 (by decide) (fun h9 => ?_) (fun h9 => ?_)
  · rw [if_pos (fun q => h9 ((z_eq g2).mpr q))] at h
    exact a_X16_channel__82 K hQ hX _ _ _ g1 g2 h hGσ hS _ _ _ hH (lv_sub (l' := [(0, .ref rm), (1, .int (i32 v1)), (2, .int (i32 v2))]) hl [0, 1, 2] rfl) hc
  · rw [if_neg (fun q => q ((z_eq g2).mp h9))] at h
    exact a_X16_channel__72 K hQ hX _ _ g1 h hGσ hS _ _ _ hH (lv_sub (l' := [(0, .ref rm), (1, .int (i32 v1))]) hl [0, 1] rfl) hc
set_option maxRecDepth 20000 in
theorem a_X16_channel__66 {Q : Sg → Int64 → Prop} {X : Sg → String → Prop} (K : MC R p s m args c cX16_channel_ 3 RX16 D cA tys A n0 s0 1 25 []) (hQ : HQJ p l e R s m args below meth c cX16_channel_ D cA A n0 s0 QM dm ra jx rm Q) (hX : HX p l e R s m args below meth c 3 D cA A n0 s0 QM dm ra jx rm X) : ∀ (σ : Sg), w_X16_channel__66 ra jx rm Q X σ → RG σ → Shp dm ra jx rm σ → JJ p l e R s m args below meth c 3 D cA A n0 s0 QM σ 66 [(0, .ref rm)] [] := by
  intro σ h hGσ hS H locs ls hH hl hc
  have B := K.1
  unfold w_X16_channel__66 at h
  refine lv_lconst (v := 0) B.1 B.2.1 dX16_channel__66 (by decide) ?_
  exact hQ _ _ _ _ _ _ dX16_channel__67 hH hc h hGσ hS
set_option maxRecDepth 20000 in
theorem a_X16_channel__56 {Q : Sg → Int64 → Prop} {X : Sg → String → Prop} (K : MC R p s m args c cX16_channel_ 3 RX16 D cA tys A n0 s0 1 25 []) (hQ : HQJ p l e R s m args below meth c cX16_channel_ D cA A n0 s0 QM dm ra jx rm Q) (hX : HX p l e R s m args below meth c 3 D cA A n0 s0 QM dm ra jx rm X) : ∀ (σ : Sg) (v1 : Int) (v2 : Int) (u0 : Int) (g1 : rng v1) (g2 : rng v2) (gu0 : rng u0), w_X16_channel__56 ra jx rm Q X σ v1 v2 u0 → RG σ → Shp dm ra jx rm σ → JJ p l e R s m args below meth c 3 D cA A n0 s0 QM σ 56 [(0, .ref rm), (1, .int (i32 v1)), (2, .int (i32 v2))] [.int (i32 u0), .ref rm] := by
  intro σ v1 v2 u0 g1 g2 gu0 h hGσ hS H locs ls hH hl hc
  have B := K.1
  unfold w_X16_channel__56 at h
  obtain ⟨σ11, eσ11⟩ : ∃ z, z = pI σ rm 0 u0 := ⟨_, rfl⟩
  have h := h σ11 eσ11
  refine r_puti B hH hS 0 (ty := .int) (by decide) wf_X16_1 rfl rfl rfl rfl rfl rfl dX16_channel__56 (fun H locs hH => ?_)
  have hH : Hd D cA A s (pI σ rm 0 u0) H locs := hH
  rw [← eσ11] at hH
  have hGσ11 : RG σ11 := by rw [eσ11]; exact hGσ.pI gu0
  have hS : Shp dm ra jx rm σ11 := by rw [eσ11]; exact hS
  have hc : CB n0 s0 σ11 := by rw [eσ11]; exact hc
  rw [show gc σ = gc σ11 by rw [eσ11], show gs σ = gs σ11 by rw [eσ11]]
  refine lv_aload_n B.1 B.2.1 dX16_channel__59 rfl (lv_at hl 0 rfl) ?_
  refine r_geti B hH hS 0 (by decide) wf_X16_1 rfl rfl dX16_channel__60 ?_
  refine lv_if_le (tgt := 68) B.1 B.2.1 dX16_channel__63 (by decide) (fun h9 => ?_) (fun h9 => ?_)
  · rw [if_pos ((z_le (hGσ11 _ _)).mp h9)] at h
    exact a_X16_channel__68 K hQ hX _ _ _ g1 g2 h hGσ11 hS _ _ _ hH (lv_sub (l' := [(0, .ref rm), (1, .int (i32 v1)), (2, .int (i32 v2))]) hl [0, 1, 2] rfl) hc
  · rw [if_neg (fun q => h9 ((z_le (hGσ11 _ _)).mpr q))] at h
    exact a_X16_channel__66 K hQ hX _ h hGσ11 hS _ _ _ hH (lv_sub (l' := [(0, .ref rm)]) hl [0] rfl) hc
set_option maxRecDepth 20000 in
theorem a_X16_channel__35 {Q : Sg → Int64 → Prop} {X : Sg → String → Prop} (K : MC R p s m args c cX16_channel_ 3 RX16 D cA tys A n0 s0 1 25 []) (hQ : HQJ p l e R s m args below meth c cX16_channel_ D cA A n0 s0 QM dm ra jx rm Q) (hX : HX p l e R s m args below meth c 3 D cA A n0 s0 QM dm ra jx rm X) : ∀ (σ : Sg) (v1 : Int) (v2 : Int) (g1 : rng v1) (g2 : rng v2), w_X16_channel__35 ra jx rm Q X σ v1 v2 → RG σ → Shp dm ra jx rm σ → JJ p l e R s m args below meth c 3 D cA A n0 s0 QM σ 35 [(0, .ref rm), (1, .int (i32 v1)), (2, .int (i32 v2))] [.ref rm] := by
  intro σ v1 v2 g1 g2 h hGσ hS H locs ls hH hl hc
  have B := K.1
  unfold w_X16_channel__35 at h
  refine lv_iconst (v := i32 2) B.1 B.2.1 dX16_channel__35 (by decide) ?_
  refine lv_goto (tgt := 56) B.1 B.2.1 dX16_channel__36 (by decide) ?_
  exact a_X16_channel__56 K hQ hX _ _ _ _ g1 g2 (by unfold rng; omega) h hGσ hS _ _ _ hH (lv_sub (l' := [(0, .ref rm), (1, .int (i32 v1)), (2, .int (i32 v2))]) hl [0, 1, 2] rfl) hc
set_option maxRecDepth 20000 in
theorem a_X16_channel__55 {Q : Sg → Int64 → Prop} {X : Sg → String → Prop} (K : MC R p s m args c cX16_channel_ 3 RX16 D cA tys A n0 s0 1 25 []) (hQ : HQJ p l e R s m args below meth c cX16_channel_ D cA A n0 s0 QM dm ra jx rm Q) (hX : HX p l e R s m args below meth c 3 D cA A n0 s0 QM dm ra jx rm X) : ∀ (σ : Sg) (v1 : Int) (v2 : Int) (g1 : rng v1) (g2 : rng v2), w_X16_channel__55 ra jx rm Q X σ v1 v2 → RG σ → Shp dm ra jx rm σ → JJ p l e R s m args below meth c 3 D cA A n0 s0 QM σ 55 [(0, .ref rm), (1, .int (i32 v1)), (2, .int (i32 v2))] [.ref rm] := by
  intro σ v1 v2 g1 g2 h hGσ hS H locs ls hH hl hc
  have B := K.1
  unfold w_X16_channel__55 at h
  refine lv_iconst (v := i32 0) B.1 B.2.1 dX16_channel__55 (by decide) ?_
  exact a_X16_channel__56 K hQ hX _ _ _ _ g1 g2 (by unfold rng; omega) h hGσ hS _ _ _ hH (lv_sub (l' := [(0, .ref rm), (1, .int (i32 v1)), (2, .int (i32 v2))]) hl [0, 1, 2] rfl) hc
set_option maxRecDepth 20000 in
theorem a_X16_channel__51 {Q : Sg → Int64 → Prop} {X : Sg → String → Prop} (K : MC R p s m args c cX16_channel_ 3 RX16 D cA tys A n0 s0 1 25 []) (hQ : HQJ p l e R s m args below meth c cX16_channel_ D cA A n0 s0 QM dm ra jx rm Q) (hX : HX p l e R s m args below meth c 3 D cA A n0 s0 QM dm ra jx rm X) : ∀ (σ : Sg) (v1 : Int) (v2 : Int) (g1 : rng v1) (g2 : rng v2), w_X16_channel__51 ra jx rm Q X σ v1 v2 → RG σ → Shp dm ra jx rm σ → JJ p l e R s m args below meth c 3 D cA A n0 s0 QM σ 51 [(0, .ref rm), (1, .int (i32 v1)), (2, .int (i32 v2))] [.ref rm] := by
  intro σ v1 v2 g1 g2 h hGσ hS H locs ls hH hl hc
  have B := K.1
  unfold w_X16_channel__51 at h
  refine lv_iconst (v := i32 3) B.1 B.2.1 dX16_channel__51 (by decide) ?_
  refine lv_goto (tgt := 56) B.1 B.2.1 dX16_channel__52 (by decide) ?_
  exact a_X16_channel__56 K hQ hX _ _ _ _ g1 g2 (by unfold rng; omega) h hGσ hS _ _ _ hH (lv_sub (l' := [(0, .ref rm), (1, .int (i32 v1)), (2, .int (i32 v2))]) hl [0, 1, 2] rfl) hc
set_option maxRecDepth 20000 in
theorem a_X16_channel__39 {Q : Sg → Int64 → Prop} {X : Sg → String → Prop} (K : MC R p s m args c cX16_channel_ 3 RX16 D cA tys A n0 s0 1 25 []) (hQ : HQJ p l e R s m args below meth c cX16_channel_ D cA A n0 s0 QM dm ra jx rm Q) (hX : HX p l e R s m args below meth c 3 D cA A n0 s0 QM dm ra jx rm X) : ∀ (σ : Sg) (v1 : Int) (v2 : Int) (g1 : rng v1) (g2 : rng v2), w_X16_channel__39 ra jx rm Q X σ v1 v2 → RG σ → Shp dm ra jx rm σ → JJ p l e R s m args below meth c 3 D cA A n0 s0 QM σ 39 [(0, .ref rm), (1, .int (i32 v1)), (2, .int (i32 v2))] [.ref rm] := by
  intro σ v1 v2 g1 g2 h hGσ hS H locs ls hH hl hc
  have B := K.1
  unfold w_X16_channel__39 at h
  refine lv_iload_n B.1 B.2.1 dX16_channel__39 rfl (lv_at hl 2 rfl) ?_
  refine lv_i2l B.1 B.2.1 dX16_channel__40 (i32_i64 g2) ?_
  refine lv_lconst (v := 0) B.1 B.2.1 dX16_channel__41 (by decide) ?_
  refine lv_ldc2 B.1 B.2.1 B.2.2.1 (B.2.2.2.1 _ (wk_X16_1006)) dX16_channel__42 ?_
  refine c_S B hH hl hc K.2.2.1 (As := [.long (Int64.ofInt v2), .long 0, .long 5]) (ok_X16_within K.2.1 σ (Int64.ofInt v2) 0 5 hGσ hS h) wc_X16_45 3 hd_X16_within ⟨Nat.le_trans (Nat.le_of_ble_eq_true rfl) K.2.2.2.1, Nat.le_trans (Nat.le_of_ble_eq_true rfl) K.2.2.2.2.1⟩ rfl (rest := [.ref rm]) rfl (Nat.le_of_ble_eq_true rfl) dX16_channel__45 (fun σ12 w hq => ?_) (fun σ9 E9 hx9 => hX σ9 E9 _ _ _ (tb_out K.2.2.2.2.2 rfl) hx9.1 hx9.2.1 hx9.2.2)
  obtain ⟨r13, rfl, ⟨gr13, gzr13⟩, h, hGσ12, hS⟩ := hq
  intro H locs ls hH hl hc
  refine W.eq (g2 := F0 m 48 ls [.int (i32 r13), .ref rm]) (rfl) ?_
  try dsimp only at h
  refine lv_if_ne (tgt := 55) B.1 B.2.1 dX16_channel__48 (by decide) (fun h9 => ?_) (fun h9 => ?_)
  · rw [if_pos (fun q => h9 ((z_eq gr13).mpr q))] at h
    exact a_X16_channel__55 K hQ hX _ _ _ g1 g2 h hGσ12 hS _ _ _ hH (lv_sub (l' := [(0, .ref rm), (1, .int (i32 v1)), (2, .int (i32 v2))]) hl [0, 1, 2] rfl) hc
  · rw [if_neg (fun q => q ((z_eq gr13).mp h9))] at h
    exact a_X16_channel__51 K hQ hX _ _ _ g1 g2 h hGσ12 hS _ _ _ hH (lv_sub (l' := [(0, .ref rm), (1, .int (i32 v1)), (2, .int (i32 v2))]) hl [0, 1, 2] rfl) hc
set_option maxRecDepth 20000 in
theorem a_X16_channel__28 {Q : Sg → Int64 → Prop} {X : Sg → String → Prop} (K : MC R p s m args c cX16_channel_ 3 RX16 D cA tys A n0 s0 1 25 []) (hQ : HQJ p l e R s m args below meth c cX16_channel_ D cA A n0 s0 QM dm ra jx rm Q) (hX : HX p l e R s m args below meth c 3 D cA A n0 s0 QM dm ra jx rm X) : ∀ (σ : Sg) (v1 : Int) (v2 : Int) (g1 : rng v1) (g2 : rng v2), w_X16_channel__28 ra jx rm Q X σ v1 v2 → RG σ → Shp dm ra jx rm σ → JJ p l e R s m args below meth c 3 D cA A n0 s0 QM σ 28 [(0, .ref rm), (1, .int (i32 v1)), (2, .int (i32 v2))] [.ref rm] := by
  intro σ v1 v2 g1 g2 h hGσ hS H locs ls hH hl hc
  have B := K.1
  unfold w_X16_channel__28 at h
  refine lv_aload_n B.1 B.2.1 dX16_channel__28 rfl (lv_at hl 0 rfl) ?_
  refine r_geti B hH hS 31 (by decide) wf_X16_831 rfl rfl dX16_channel__29 ?_
  refine lv_if_eq (tgt := 39) B.1 B.2.1 dX16_channel__32 (by decide) (fun h9 => ?_) (fun h9 => ?_)
  · rw [if_pos ((z_eq (hGσ _ _)).mp h9)] at h
    exact a_X16_channel__39 K hQ hX _ _ _ g1 g2 h hGσ hS _ _ _ hH (lv_sub (l' := [(0, .ref rm), (1, .int (i32 v1)), (2, .int (i32 v2))]) hl [0, 1, 2] rfl) hc
  · rw [if_neg (fun q => h9 ((z_eq (hGσ _ _)).mpr q))] at h
    exact a_X16_channel__35 K hQ hX _ _ _ g1 g2 h hGσ hS _ _ _ hH (lv_sub (l' := [(0, .ref rm), (1, .int (i32 v1)), (2, .int (i32 v2))]) hl [0, 1, 2] rfl) hc
set_option maxRecDepth 20000 in
theorem a_X16_channel__21 {Q : Sg → Int64 → Prop} {X : Sg → String → Prop} (K : MC R p s m args c cX16_channel_ 3 RX16 D cA tys A n0 s0 1 25 []) (hQ : HQJ p l e R s m args below meth c cX16_channel_ D cA A n0 s0 QM dm ra jx rm Q) (hX : HX p l e R s m args below meth c 3 D cA A n0 s0 QM dm ra jx rm X) : ∀ (σ : Sg) (v1 : Int) (v2 : Int) (g1 : rng v1) (g2 : rng v2), w_X16_channel__21 ra jx rm Q X σ v1 v2 → RG σ → Shp dm ra jx rm σ → JJ p l e R s m args below meth c 3 D cA A n0 s0 QM σ 21 [(0, .ref rm), (1, .int (i32 v1)), (2, .int (i32 v2))] [.ref rm] := by
  intro σ v1 v2 g1 g2 h hGσ hS H locs ls hH hl hc
  have B := K.1
  unfold w_X16_channel__21 at h
  refine lv_aload_n B.1 B.2.1 dX16_channel__21 rfl (lv_at hl 0 rfl) ?_
  refine r_geti B hH hS 32 (by decide) wf_X16_688 rfl rfl dX16_channel__22 ?_
  refine lv_if_ne (tgt := 35) B.1 B.2.1 dX16_channel__25 (by decide) (fun h9 => ?_) (fun h9 => ?_)
  · rw [if_pos (fun q => h9 ((z_eq (hGσ _ _)).mpr q))] at h
    exact a_X16_channel__35 K hQ hX _ _ _ g1 g2 h hGσ hS _ _ _ hH (lv_sub (l' := [(0, .ref rm), (1, .int (i32 v1)), (2, .int (i32 v2))]) hl [0, 1, 2] rfl) hc
  · rw [if_neg (fun q => q ((z_eq (hGσ _ _)).mp h9))] at h
    exact a_X16_channel__28 K hQ hX _ _ _ g1 g2 h hGσ hS _ _ _ hH (lv_sub (l' := [(0, .ref rm), (1, .int (i32 v1)), (2, .int (i32 v2))]) hl [0, 1, 2] rfl) hc
set_option maxRecDepth 20000 in
theorem a_X16_channel__17 {Q : Sg → Int64 → Prop} {X : Sg → String → Prop} (K : MC R p s m args c cX16_channel_ 3 RX16 D cA tys A n0 s0 1 25 []) (hQ : HQJ p l e R s m args below meth c cX16_channel_ D cA A n0 s0 QM dm ra jx rm Q) (hX : HX p l e R s m args below meth c 3 D cA A n0 s0 QM dm ra jx rm X) : ∀ (σ : Sg) (v1 : Int) (v2 : Int) (g1 : rng v1) (g2 : rng v2), w_X16_channel__17 ra jx rm Q X σ v1 v2 → RG σ → Shp dm ra jx rm σ → JJ p l e R s m args below meth c 3 D cA A n0 s0 QM σ 17 [(0, .ref rm), (1, .int (i32 v1)), (2, .int (i32 v2))] [.ref rm] := by
  intro σ v1 v2 g1 g2 h hGσ hS H locs ls hH hl hc
  have B := K.1
  unfold w_X16_channel__17 at h
  refine lv_iconst (v := i32 1) B.1 B.2.1 dX16_channel__17 (by decide) ?_
  refine lv_goto (tgt := 56) B.1 B.2.1 dX16_channel__18 (by decide) ?_
  exact a_X16_channel__56 K hQ hX _ _ _ _ g1 g2 (by unfold rng; omega) h hGσ hS _ _ _ hH (lv_sub (l' := [(0, .ref rm), (1, .int (i32 v1)), (2, .int (i32 v2))]) hl [0, 1, 2] rfl) hc
set_option maxRecDepth 20000 in
theorem a_X16_channel__0 {Q : Sg → Int64 → Prop} {X : Sg → String → Prop} (K : MC R p s m args c cX16_channel_ 3 RX16 D cA tys A n0 s0 1 25 []) (hQ : HQJ p l e R s m args below meth c cX16_channel_ D cA A n0 s0 QM dm ra jx rm Q) (hX : HX p l e R s m args below meth c 3 D cA A n0 s0 QM dm ra jx rm X) : ∀ (σ : Sg) (v1 : Int) (v2 : Int) (g1 : rng v1) (g2 : rng v2), w_X16_channel__0 ra jx rm Q X σ v1 v2 → RG σ → Shp dm ra jx rm σ → JJ p l e R s m args below meth c 3 D cA A n0 s0 QM σ 0 [(0, .ref rm), (1, .int (i32 v1)), (2, .int (i32 v2))] [] := by
  intro σ v1 v2 g1 g2 h hGσ hS H locs ls hH hl hc
  have B := K.1
  unfold w_X16_channel__0 at h
  refine lv_aload_n B.1 B.2.1 dX16_channel__0 rfl (lv_at hl 0 rfl) ?_
  refine lv_iload_n B.1 B.2.1 dX16_channel__1 rfl (lv_at hl 1 rfl) ?_
  refine lv_i2l B.1 B.2.1 dX16_channel__2 (i32_i64 g1) ?_
  refine lv_lconst (v := 0) B.1 B.2.1 dX16_channel__3 (by decide) ?_
  refine lv_aload_n B.1 B.2.1 dX16_channel__4 rfl (lv_at hl 0 rfl) ?_
  refine r_geti B hH hS 50 (by decide) wf_X16_371 rfl rfl dX16_channel__5 ?_
  refine lv_iconst (v := i32 1) B.1 B.2.1 dX16_channel__8 (by decide) ?_
  obtain ⟨q1, h⟩ := h
  refine lv_isub B.1 B.2.1 dX16_channel__9 ?_
  rw [i32_sub]
  refine lv_i2l B.1 B.2.1 dX16_channel__10 (i32_i64 q1) ?_
  refine c_S B hH hl hc K.2.2.1 (As := [.long (Int64.ofInt v1), .long 0, .long (Int64.ofInt (gI σ rm 50 - 1))]) (ok_X16_within K.2.1 σ (Int64.ofInt v1) 0 (Int64.ofInt (gI σ rm 50 - 1)) hGσ hS h) wc_X16_45 3 hd_X16_within ⟨Nat.le_trans (Nat.le_of_ble_eq_true rfl) K.2.2.2.1, Nat.le_trans (Nat.le_of_ble_eq_true rfl) K.2.2.2.2.1⟩ rfl (rest := [.ref rm]) rfl (Nat.le_of_ble_eq_true rfl) dX16_channel__11 (fun σ14 w hq => ?_) (fun σ9 E9 hx9 => hX σ9 E9 _ _ _ (tb_out K.2.2.2.2.2 rfl) hx9.1 hx9.2.1 hx9.2.2)
  obtain ⟨r15, rfl, ⟨gr15, gzr15⟩, h, hGσ14, hS⟩ := hq
  intro H locs ls hH hl hc
  refine W.eq (g2 := F0 m 14 ls [.int (i32 r15), .ref rm]) (rfl) ?_
  try dsimp only at h
  refine lv_if_ne (tgt := 21) B.1 B.2.1 dX16_channel__14 (by decide) (fun h9 => ?_) (fun h9 => ?_)
  · rw [if_pos (fun q => h9 ((z_eq gr15).mpr q))] at h
    exact a_X16_channel__21 K hQ hX _ _ _ g1 g2 h hGσ14 hS _ _ _ hH (lv_sub (l' := [(0, .ref rm), (1, .int (i32 v1)), (2, .int (i32 v2))]) hl [0, 1, 2] rfl) hc
  · rw [if_neg (fun q => q ((z_eq gr15).mp h9))] at h
    exact a_X16_channel__17 K hQ hX _ _ _ g1 g2 h hGσ14 hS _ _ _ hH (lv_sub (l' := [(0, .ref rm), (1, .int (i32 v1)), (2, .int (i32 v2))]) hl [0, 1, 2] rfl) hc
theorem ok_X16_channel_ (hT : Tys cA tys) {Q : Sg → Int64 → Prop} {X : Sg → String → Prop} (σ : Sg) (v1 : Int) (v2 : Int) (g1 : rng v1) (g2 : rng v2) (hG : RG σ) (hS : Shp dm ra jx rm σ) (h : wp_X16_channel_ ra jx rm v1 v2 σ Q X) : Ok l D cA tys A yX16_channel_ (.code yX16_channel_ cX16_channel_ 3 (some .long)) 1 25 [.ref rm, .int (i32 v1), .int (i32 v2)] σ (QnJ dm ra jx rm Q) (QxR dm ra jx rm X) := by
  unfold wp_X16_channel_ at h
  exact ok_J (plainFor_of_name (by decide)) (by exact Nat.le_of_ble_eq_true rfl) hT (fun p e R s m args below meth c K hQ hX H locs ls hH hl hc => a_X16_channel__0 K hQ hX σ v1 v2 g1 g2 h hG hS H locs ls hH (lv_sub (l' := [(0, .ref rm), (1, .int (i32 v1)), (2, .int (i32 v2))]) hl [0, 1, 2] rfl) hc)
theorem dX16_channelsOf_0 : decode cX16_channelsOf 0 = .ok (.iconst 0, 1) := by decide +kernel
theorem dX16_channelsOf_1 : decode cX16_channelsOf 1 = .ok (.istore_n 2, 1) := by decide +kernel
theorem dX16_channelsOf_2 : decode cX16_channelsOf 2 = .ok (.iconst 0, 1) := by decide +kernel
theorem dX16_channelsOf_3 : decode cX16_channelsOf 3 = .ok (.istore_n 3, 1) := by decide +kernel
theorem dX16_channelsOf_4 : decode cX16_channelsOf 4 = .ok (.iload_n 3, 1) := by decide +kernel
theorem dX16_channelsOf_5 : decode cX16_channelsOf 5 = .ok (.aload_n 0, 1) := by decide +kernel
theorem dX16_channelsOf_6 : decode cX16_channelsOf 6 = .ok (.getfield 371, 3) := by decide +kernel
theorem dX16_channelsOf_9 : decode cX16_channelsOf 9 = .ok (.if_icmp .ge 27, 3) := by decide +kernel
theorem dX16_channelsOf_12 : decode cX16_channelsOf 12 = .ok (.iload_n 2, 1) := by decide +kernel
theorem dX16_channelsOf_13 : decode cX16_channelsOf 13 = .ok (.aload_n 0, 1) := by decide +kernel
theorem dX16_channelsOf_14 : decode cX16_channelsOf 14 = .ok (.getfield 374, 3) := by decide +kernel
theorem dX16_channelsOf_17 : decode cX16_channelsOf 17 = .ok (.iload_n 3, 1) := by decide +kernel
theorem dX16_channelsOf_18 : decode cX16_channelsOf 18 = .ok (.iaload, 1) := by decide +kernel
theorem dX16_channelsOf_19 : decode cX16_channelsOf 19 = .ok (.iload_n 1, 1) := by decide +kernel
theorem dX16_channelsOf_20 : decode cX16_channelsOf 20 = .ok (.if_icmp .ne 7, 3) := by decide +kernel
theorem dX16_channelsOf_23 : decode cX16_channelsOf 23 = .ok (.iconst 1, 1) := by decide +kernel
theorem dX16_channelsOf_24 : decode cX16_channelsOf 24 = .ok (.goto 4, 3) := by decide +kernel
theorem dX16_channelsOf_27 : decode cX16_channelsOf 27 = .ok (.iconst 0, 1) := by decide +kernel
theorem dX16_channelsOf_28 : decode cX16_channelsOf 28 = .ok (.iadd, 1) := by decide +kernel
theorem dX16_channelsOf_29 : decode cX16_channelsOf 29 = .ok (.istore_n 2, 1) := by decide +kernel
theorem dX16_channelsOf_30 : decode cX16_channelsOf 30 = .ok (.iinc 3 1, 3) := by decide +kernel
theorem dX16_channelsOf_33 : decode cX16_channelsOf 33 = .ok (.goto (-29), 3) := by decide +kernel
theorem dX16_channelsOf_36 : decode cX16_channelsOf 36 = .ok (.iload_n 2, 1) := by decide +kernel
theorem dX16_channelsOf_37 : decode cX16_channelsOf 37 = .ok (.ireturn, 1) := by decide +kernel
set_option maxRecDepth 20000 in
theorem a_X16_channelsOf_36 {Q : Sg → Int → Prop} {X : Sg → String → Prop} (K : MC R p s m args c cX16_channelsOf 4 RX16 D cA tys A n0 s0 0 0 []) (hQ : HQI p l e R s m args below meth c cX16_channelsOf D cA A n0 s0 QM dm ra jx rm Q) (hX : HX p l e R s m args below meth c 4 D cA A n0 s0 QM dm ra jx rm X) : ∀ (σ : Sg) (v2 : Int) (g2 : rng v2), w_X16_channelsOf_36 ra jx rm Q X σ v2 → RG σ → Shp dm ra jx rm σ → JJ p l e R s m args below meth c 4 D cA A n0 s0 QM σ 36 [(0, .ref rm), (2, .int (i32 v2))] [] := by
  intro σ v2 g2 h hGσ hS H locs ls hH hl hc
  have B := K.1
  unfold w_X16_channelsOf_36 at h
  refine lv_iload_n B.1 B.2.1 dX16_channelsOf_36 rfl (lv_at hl 1 rfl) ?_
  exact hQ _ _ _ _ _ _ g2 dX16_channelsOf_37 hH hc h hGσ hS
set_option maxRecDepth 20000 in
theorem a_X16_channelsOf_28 {Q : Sg → Int → Prop} {X : Sg → String → Prop} (K : MC R p s m args c cX16_channelsOf 4 RX16 D cA tys A n0 s0 0 0 []) (hQ : HQI p l e R s m args below meth c cX16_channelsOf D cA A n0 s0 QM dm ra jx rm Q) (hX : HX p l e R s m args below meth c 4 D cA A n0 s0 QM dm ra jx rm X) {K4 : Sg → Int → Int → Int → Prop} (hK4 : ∀ (σ : Sg) (v1 : Int) (v2 : Int) (v3 : Int) (g1 : rng v1) (g2 : rng v2) (g3 : rng v3), K4 σ v1 v2 v3 → RG σ → Shp dm ra jx rm σ → JJ p l e R s m args below meth c 4 D cA A n0 s0 QM σ 4 [(0, .ref rm), (1, .int (i32 v1)), (2, .int (i32 v2)), (3, .int (i32 v3))] []) : ∀ (σ : Sg) (v1 : Int) (v3 : Int) (u0 : Int) (u1 : Int) (g1 : rng v1) (g3 : rng v3) (gu0 : rng u0) (gu1 : rng u1), w_X16_channelsOf_28 ra jx rm K4 Q X σ v1 v3 u0 u1 → RG σ → Shp dm ra jx rm σ → JJ p l e R s m args below meth c 4 D cA A n0 s0 QM σ 28 [(0, .ref rm), (1, .int (i32 v1)), (3, .int (i32 v3))] [.int (i32 u0), .int (i32 u1)] := by
  intro σ v1 v3 u0 u1 g1 g3 gu0 gu1 h hGσ hS H locs ls hH hl hc
  have B := K.1
  unfold w_X16_channelsOf_28 at h
  obtain ⟨q1, h⟩ := h
  refine lv_iadd B.1 B.2.1 dX16_channelsOf_28 ?_
  rw [i32_add]
  refine lv_istore_n (lv' := [(2, .int (i32 (u1 + u0))), (0, .ref rm), (1, .int (i32 v1)), (3, .int (i32 v3))]) B.1 B.2.1 dX16_channelsOf_29 rfl hl (by decide) rfl (fun ls hl => ?_)
  obtain ⟨q2, h⟩ := h
  refine lv_iinc (k := 3) (v := i32 (v3 + 1)) (lv' := [(3, .int (i32 (v3 + 1))), (2, .int (i32 (u1 + u0))), (0, .ref rm), (1, .int (i32 v1))]) B.1 B.2.1 dX16_channelsOf_30 hl rfl (i32_add _ _) (by decide) rfl (fun ls hl => ?_)
  refine lv_goto (tgt := 4) B.1 B.2.1 dX16_channelsOf_33 (by decide) ?_
  exact hK4 _ _ _ _ g1 q1 q2 h hGσ hS _ _ _ hH (lv_sub (l' := [(0, .ref rm), (1, .int (i32 v1)), (2, .int (i32 (u1 + u0))), (3, .int (i32 (v3 + 1)))]) hl [2, 3, 1, 0] rfl) hc
set_option maxRecDepth 20000 in
theorem a_X16_channelsOf_27 {Q : Sg → Int → Prop} {X : Sg → String → Prop} (K : MC R p s m args c cX16_channelsOf 4 RX16 D cA tys A n0 s0 0 0 []) (hQ : HQI p l e R s m args below meth c cX16_channelsOf D cA A n0 s0 QM dm ra jx rm Q) (hX : HX p l e R s m args below meth c 4 D cA A n0 s0 QM dm ra jx rm X) {K4 : Sg → Int → Int → Int → Prop} (hK4 : ∀ (σ : Sg) (v1 : Int) (v2 : Int) (v3 : Int) (g1 : rng v1) (g2 : rng v2) (g3 : rng v3), K4 σ v1 v2 v3 → RG σ → Shp dm ra jx rm σ → JJ p l e R s m args below meth c 4 D cA A n0 s0 QM σ 4 [(0, .ref rm), (1, .int (i32 v1)), (2, .int (i32 v2)), (3, .int (i32 v3))] []) : ∀ (σ : Sg) (v1 : Int) (v3 : Int) (u0 : Int) (g1 : rng v1) (g3 : rng v3) (gu0 : rng u0), w_X16_channelsOf_27 ra jx rm K4 Q X σ v1 v3 u0 → RG σ → Shp dm ra jx rm σ → JJ p l e R s m args below meth c 4 D cA A n0 s0 QM σ 27 [(0, .ref rm), (1, .int (i32 v1)), (3, .int (i32 v3))] [.int (i32 u0)] := by
  intro σ v1 v3 u0 g1 g3 gu0 h hGσ hS H locs ls hH hl hc
  have B := K.1
  unfold w_X16_channelsOf_27 at h
  refine lv_iconst (v := i32 0) B.1 B.2.1 dX16_channelsOf_27 (by decide) ?_
  exact a_X16_channelsOf_28 K hQ hX hK4 _ _ _ _ _ g1 g3 (by unfold rng; omega) gu0 h hGσ hS _ _ _ hH (lv_sub (l' := [(0, .ref rm), (1, .int (i32 v1)), (3, .int (i32 v3))]) hl [0, 1, 2] rfl) hc
set_option maxRecDepth 20000 in
theorem a_X16_channelsOf_23 {Q : Sg → Int → Prop} {X : Sg → String → Prop} (K : MC R p s m args c cX16_channelsOf 4 RX16 D cA tys A n0 s0 0 0 []) (hQ : HQI p l e R s m args below meth c cX16_channelsOf D cA A n0 s0 QM dm ra jx rm Q) (hX : HX p l e R s m args below meth c 4 D cA A n0 s0 QM dm ra jx rm X) {K4 : Sg → Int → Int → Int → Prop} (hK4 : ∀ (σ : Sg) (v1 : Int) (v2 : Int) (v3 : Int) (g1 : rng v1) (g2 : rng v2) (g3 : rng v3), K4 σ v1 v2 v3 → RG σ → Shp dm ra jx rm σ → JJ p l e R s m args below meth c 4 D cA A n0 s0 QM σ 4 [(0, .ref rm), (1, .int (i32 v1)), (2, .int (i32 v2)), (3, .int (i32 v3))] []) : ∀ (σ : Sg) (v1 : Int) (v3 : Int) (u0 : Int) (g1 : rng v1) (g3 : rng v3) (gu0 : rng u0), w_X16_channelsOf_23 ra jx rm K4 Q X σ v1 v3 u0 → RG σ → Shp dm ra jx rm σ → JJ p l e R s m args below meth c 4 D cA A n0 s0 QM σ 23 [(0, .ref rm), (1, .int (i32 v1)), (3, .int (i32 v3))] [.int (i32 u0)] := by
  intro σ v1 v3 u0 g1 g3 gu0 h hGσ hS H locs ls hH hl hc
  have B := K.1
  unfold w_X16_channelsOf_23 at h
  refine lv_iconst (v := i32 1) B.1 B.2.1 dX16_channelsOf_23 (by decide) ?_
  refine lv_goto (tgt := 28) B.1 B.2.1 dX16_channelsOf_24 (by decide) ?_
  exact a_X16_channelsOf_28 K hQ hX hK4 _ _ _ _ _ g1 g3 (by unfold rng; omega) gu0 h hGσ hS _ _ _ hH (lv_sub (l' := [(0, .ref rm), (1, .int (i32 v1)), (3, .int (i32 v3))]) hl [0, 1, 2] rfl) hc
set_option maxRecDepth 20000 in
theorem a_X16_channelsOf_12 {Q : Sg → Int → Prop} {X : Sg → String → Prop} (K : MC R p s m args c cX16_channelsOf 4 RX16 D cA tys A n0 s0 0 0 []) (hQ : HQI p l e R s m args below meth c cX16_channelsOf D cA A n0 s0 QM dm ra jx rm Q) (hX : HX p l e R s m args below meth c 4 D cA A n0 s0 QM dm ra jx rm X) {K4 : Sg → Int → Int → Int → Prop} (hK4 : ∀ (σ : Sg) (v1 : Int) (v2 : Int) (v3 : Int) (g1 : rng v1) (g2 : rng v2) (g3 : rng v3), K4 σ v1 v2 v3 → RG σ → Shp dm ra jx rm σ → JJ p l e R s m args below meth c 4 D cA A n0 s0 QM σ 4 [(0, .ref rm), (1, .int (i32 v1)), (2, .int (i32 v2)), (3, .int (i32 v3))] []) : ∀ (σ : Sg) (v1 : Int) (v2 : Int) (v3 : Int) (g1 : rng v1) (g2 : rng v2) (g3 : rng v3), w_X16_channelsOf_12 ra jx rm K4 Q X σ v1 v2 v3 → RG σ → Shp dm ra jx rm σ → JJ p l e R s m args below meth c 4 D cA A n0 s0 QM σ 12 [(0, .ref rm), (1, .int (i32 v1)), (2, .int (i32 v2)), (3, .int (i32 v3))] [] := by
  intro σ v1 v2 v3 g1 g2 g3 h hGσ hS H locs ls hH hl hc
  have B := K.1
  unfold w_X16_channelsOf_12 at h
  refine lv_iload_n B.1 B.2.1 dX16_channelsOf_12 rfl (lv_at hl 2 rfl) ?_
  refine lv_aload_n B.1 B.2.1 dX16_channelsOf_13 rfl (lv_at hl 0 rfl) ?_
  refine r_arr B hH hS 52 (kd := 100) (n := 1100) (by decide) (by decide) wf_X16_374 rfl rfl dX16_channelsOf_14 ?_
  refine lv_iload_n B.1 B.2.1 dX16_channelsOf_17 rfl (lv_at hl 3 rfl) ?_
  obtain ⟨q1, h⟩ := h
  refine x_iald B K.2.1 hH (hS.ar (k := 52) (kd := 100) (n := 1100) (by decide)) (by decide) q1 dX16_channelsOf_18 ?_
  refine lv_iload_n B.1 B.2.1 dX16_channelsOf_19 rfl (lv_at hl 1 rfl) ?_
  refine lv_icmp_ne (tgt := 27) B.1 B.2.1 dX16_channelsOf_20 (by decide) (fun h9 => ?_) (fun h9 => ?_)
  · rw [if_pos (fun q => h9 ((i32_eq (hGσ _ _) g1).mpr q))] at h
    exact a_X16_channelsOf_27 K hQ hX hK4 _ _ _ _ g1 g3 g2 h hGσ hS _ _ _ hH (lv_sub (l' := [(0, .ref rm), (1, .int (i32 v1)), (3, .int (i32 v3))]) hl [0, 1, 3] rfl) hc
  · rw [if_neg (fun q => q ((i32_eq (hGσ _ _) g1).mp h9))] at h
    exact a_X16_channelsOf_23 K hQ hX hK4 _ _ _ _ g1 g3 g2 h hGσ hS _ _ _ hH (lv_sub (l' := [(0, .ref rm), (1, .int (i32 v1)), (3, .int (i32 v3))]) hl [0, 1, 3] rfl) hc
set_option maxRecDepth 20000 in
theorem a_X16_channelsOf_4 {Q : Sg → Int → Prop} {X : Sg → String → Prop} (K : MC R p s m args c cX16_channelsOf 4 RX16 D cA tys A n0 s0 0 0 []) (hQ : HQI p l e R s m args below meth c cX16_channelsOf D cA A n0 s0 QM dm ra jx rm Q) (hX : HX p l e R s m args below meth c 4 D cA A n0 s0 QM dm ra jx rm X) {K4 : Sg → Int → Int → Int → Prop} (hK4 : ∀ (σ : Sg) (v1 : Int) (v2 : Int) (v3 : Int) (g1 : rng v1) (g2 : rng v2) (g3 : rng v3), K4 σ v1 v2 v3 → RG σ → Shp dm ra jx rm σ → JJ p l e R s m args below meth c 4 D cA A n0 s0 QM σ 4 [(0, .ref rm), (1, .int (i32 v1)), (2, .int (i32 v2)), (3, .int (i32 v3))] []) : ∀ (σ : Sg) (v1 : Int) (v2 : Int) (v3 : Int) (g1 : rng v1) (g2 : rng v2) (g3 : rng v3), w_X16_channelsOf_4 ra jx rm K4 Q X σ v1 v2 v3 → RG σ → Shp dm ra jx rm σ → JJ p l e R s m args below meth c 4 D cA A n0 s0 QM σ 4 [(0, .ref rm), (1, .int (i32 v1)), (2, .int (i32 v2)), (3, .int (i32 v3))] [] := by
  intro σ v1 v2 v3 g1 g2 g3 h hGσ hS H locs ls hH hl hc
  have B := K.1
  unfold w_X16_channelsOf_4 at h
  refine lv_iload_n B.1 B.2.1 dX16_channelsOf_4 rfl (lv_at hl 3 rfl) ?_
  refine lv_aload_n B.1 B.2.1 dX16_channelsOf_5 rfl (lv_at hl 0 rfl) ?_
  refine r_geti B hH hS 50 (by decide) wf_X16_371 rfl rfl dX16_channelsOf_6 ?_
  refine lv_icmp_ge (tgt := 36) B.1 B.2.1 dX16_channelsOf_9 (by decide) (fun h9 => ?_) (fun h9 => ?_)
  · rw [if_pos ((i32_le (hGσ _ _) g3).mp h9)] at h
    exact a_X16_channelsOf_36 K hQ hX _ _ g2 h hGσ hS _ _ _ hH (lv_sub (l' := [(0, .ref rm), (2, .int (i32 v2))]) hl [0, 2] rfl) hc
  · rw [if_neg (fun q => h9 ((i32_le (hGσ _ _) g3).mpr q))] at h
    exact a_X16_channelsOf_12 K hQ hX hK4 _ _ _ _ g1 g2 g3 h hGσ hS _ _ _ hH (lv_sub (l' := [(0, .ref rm), (1, .int (i32 v1)), (2, .int (i32 v2)), (3, .int (i32 v3))]) hl [0, 1, 2, 3] rfl) hc
theorem al_X16_channelsOf_4 {Q : Sg → Int → Prop} {X : Sg → String → Prop} (K : MC R p s m args c cX16_channelsOf 4 RX16 D cA tys A n0 s0 0 0 []) (hQ : HQI p l e R s m args below meth c cX16_channelsOf D cA A n0 s0 QM dm ra jx rm Q) (hX : HX p l e R s m args below meth c 4 D cA A n0 s0 QM dm ra jx rm X) : ∀ (n : Nat), ∀ (σ : Sg) (v1 : Int) (v2 : Int) (v3 : Int) (g1 : rng v1) (g2 : rng v2) (g3 : rng v3), wl_X16_channelsOf_4 ra jx rm Q X n σ v1 v2 v3 → RG σ → Shp dm ra jx rm σ → JJ p l e R s m args below meth c 4 D cA A n0 s0 QM σ 4 [(0, .ref rm), (1, .int (i32 v1)), (2, .int (i32 v2)), (3, .int (i32 v3))] [] := by
  intro n
  induction n with
  | zero => intro σ v1 v2 v3 g1 g2 g3 h; exact h.elim
  | succ n ih => exact fun σ v1 v2 v3 g1 g2 g3 h => a_X16_channelsOf_4 K hQ hX ih σ v1 v2 v3 g1 g2 g3 h
set_option maxRecDepth 20000 in
theorem a_X16_channelsOf_0 {Q : Sg → Int → Prop} {X : Sg → String → Prop} (K : MC R p s m args c cX16_channelsOf 4 RX16 D cA tys A n0 s0 0 0 []) (hQ : HQI p l e R s m args below meth c cX16_channelsOf D cA A n0 s0 QM dm ra jx rm Q) (hX : HX p l e R s m args below meth c 4 D cA A n0 s0 QM dm ra jx rm X) : ∀ (σ : Sg) (v1 : Int) (g1 : rng v1), w_X16_channelsOf_0 ra jx rm Q X σ v1 → RG σ → Shp dm ra jx rm σ → JJ p l e R s m args below meth c 4 D cA A n0 s0 QM σ 0 [(0, .ref rm), (1, .int (i32 v1))] [] := by
  intro σ v1 g1 h hGσ hS H locs ls hH hl hc
  have B := K.1
  unfold w_X16_channelsOf_0 at h
  refine lv_iconst (v := i32 0) B.1 B.2.1 dX16_channelsOf_0 (by decide) ?_
  refine lv_istore_n (lv' := [(2, .int (i32 0)), (0, .ref rm), (1, .int (i32 v1))]) B.1 B.2.1 dX16_channelsOf_1 rfl hl (by decide) rfl (fun ls hl => ?_)
  refine lv_iconst (v := i32 0) B.1 B.2.1 dX16_channelsOf_2 (by decide) ?_
  refine lv_istore_n (lv' := [(3, .int (i32 0)), (2, .int (i32 0)), (0, .ref rm), (1, .int (i32 v1))]) B.1 B.2.1 dX16_channelsOf_3 rfl hl (by decide) rfl (fun ls hl => ?_)
  obtain ⟨n9, h⟩ := h
  exact al_X16_channelsOf_4 K hQ hX n9 _ _ _ _ g1 (by unfold rng; omega) (by unfold rng; omega) h hGσ hS _ _ _ hH (lv_sub (l' := [(0, .ref rm), (1, .int (i32 v1)), (2, .int (i32 0)), (3, .int (i32 0))]) hl [2, 3, 1, 0] rfl) hc
theorem ok_X16_channelsOf (hT : Tys cA tys) {Q : Sg → Int → Prop} {X : Sg → String → Prop} (σ : Sg) (v1 : Int) (g1 : rng v1) (hG : RG σ) (hS : Shp dm ra jx rm σ) (h : wp_X16_channelsOf ra jx rm v1 σ Q X) : Ok l D cA tys A yX16_channelsOf (.code yX16_channelsOf cX16_channelsOf 4 (some .int)) 0 0 [.ref rm, .int (i32 v1)] σ (QnI dm ra jx rm Q) (QxR dm ra jx rm X) := by
  unfold wp_X16_channelsOf at h
  exact ok_I (plainFor_of_name (by decide)) (by exact Nat.le_of_ble_eq_true rfl) hT (fun p e R s m args below meth c K hQ hX H locs ls hH hl hc => a_X16_channelsOf_0 K hQ hX σ v1 g1 h hG hS H locs ls hH (lv_sub (l' := [(0, .ref rm), (1, .int (i32 v1))]) hl [0, 1] rfl) hc)
theorem dX16_noHeld_0 : decode cX16_noHeld 0 = .ok (.iconst 0, 1) := by decide +kernel
theorem dX16_noHeld_1 : decode cX16_noHeld 1 = .ok (.istore_n 1, 1) := by decide +kernel
theorem dX16_noHeld_2 : decode cX16_noHeld 2 = .ok (.iload_n 1, 1) := by decide +kernel
theorem dX16_noHeld_3 : decode cX16_noHeld 3 = .ok (.sipush 2000, 3) := by decide +kernel
theorem dX16_noHeld_6 : decode cX16_noHeld 6 = .ok (.if_icmp .ge 31, 3) := by decide +kernel
theorem dX16_noHeld_9 : decode cX16_noHeld 9 = .ok (.aload_n 0, 1) := by decide +kernel
theorem dX16_noHeld_10 : decode cX16_noHeld 10 = .ok (.getfield 652, 3) := by decide +kernel
theorem dX16_noHeld_13 : decode cX16_noHeld 13 = .ok (.iload_n 1, 1) := by decide +kernel
theorem dX16_noHeld_14 : decode cX16_noHeld 14 = .ok (.iload_n 1, 1) := by decide +kernel
theorem dX16_noHeld_15 : decode cX16_noHeld 15 = .ok (.iconst 1, 1) := by decide +kernel
theorem dX16_noHeld_16 : decode cX16_noHeld 16 = .ok (.iadd, 1) := by decide +kernel
theorem dX16_noHeld_17 : decode cX16_noHeld 17 = .ok (.sipush 2000, 3) := by decide +kernel
theorem dX16_noHeld_20 : decode cX16_noHeld 20 = .ok (.if_icmp .ge 9, 3) := by decide +kernel
theorem dX16_noHeld_23 : decode cX16_noHeld 23 = .ok (.iload_n 1, 1) := by decide +kernel
theorem dX16_noHeld_24 : decode cX16_noHeld 24 = .ok (.iconst 1, 1) := by decide +kernel
theorem dX16_noHeld_25 : decode cX16_noHeld 25 = .ok (.iadd, 1) := by decide +kernel
theorem dX16_noHeld_26 : decode cX16_noHeld 26 = .ok (.goto 4, 3) := by decide +kernel
theorem dX16_noHeld_29 : decode cX16_noHeld 29 = .ok (.iconst (-1), 1) := by decide +kernel
theorem dX16_noHeld_30 : decode cX16_noHeld 30 = .ok (.iastore, 1) := by decide +kernel
theorem dX16_noHeld_31 : decode cX16_noHeld 31 = .ok (.iinc 1 1, 3) := by decide +kernel
theorem dX16_noHeld_34 : decode cX16_noHeld 34 = .ok (.goto (-32), 3) := by decide +kernel
theorem dX16_noHeld_37 : decode cX16_noHeld 37 = .ok (.aload_n 0, 1) := by decide +kernel
theorem dX16_noHeld_38 : decode cX16_noHeld 38 = .ok (.iconst 0, 1) := by decide +kernel
theorem dX16_noHeld_39 : decode cX16_noHeld 39 = .ok (.putfield 655, 3) := by decide +kernel
theorem dX16_noHeld_42 : decode cX16_noHeld 42 = .ok (.aload_n 0, 1) := by decide +kernel
theorem dX16_noHeld_43 : decode cX16_noHeld 43 = .ok (.iconst 0, 1) := by decide +kernel
theorem dX16_noHeld_44 : decode cX16_noHeld 44 = .ok (.putfield 658, 3) := by decide +kernel
theorem dX16_noHeld_47 : decode cX16_noHeld 47 = .ok (.iconst 0, 1) := by decide +kernel
theorem dX16_noHeld_48 : decode cX16_noHeld 48 = .ok (.istore_n 1, 1) := by decide +kernel
theorem dX16_noHeld_49 : decode cX16_noHeld 49 = .ok (.iload_n 1, 1) := by decide +kernel
theorem dX16_noHeld_50 : decode cX16_noHeld 50 = .ok (.bipush 12, 2) := by decide +kernel
theorem dX16_noHeld_52 : decode cX16_noHeld 52 = .ok (.if_icmp .ge 30, 3) := by decide +kernel
theorem dX16_noHeld_55 : decode cX16_noHeld 55 = .ok (.aload_n 0, 1) := by decide +kernel
theorem dX16_noHeld_56 : decode cX16_noHeld 56 = .ok (.getfield 661, 3) := by decide +kernel
theorem dX16_noHeld_59 : decode cX16_noHeld 59 = .ok (.iload_n 1, 1) := by decide +kernel
theorem dX16_noHeld_60 : decode cX16_noHeld 60 = .ok (.iconst (-1), 1) := by decide +kernel
theorem dX16_noHeld_61 : decode cX16_noHeld 61 = .ok (.iastore, 1) := by decide +kernel
theorem dX16_noHeld_62 : decode cX16_noHeld 62 = .ok (.aload_n 0, 1) := by decide +kernel
theorem dX16_noHeld_63 : decode cX16_noHeld 63 = .ok (.getfield 664, 3) := by decide +kernel
theorem dX16_noHeld_66 : decode cX16_noHeld 66 = .ok (.iload_n 1, 1) := by decide +kernel
theorem dX16_noHeld_67 : decode cX16_noHeld 67 = .ok (.iconst (-1), 1) := by decide +kernel
theorem dX16_noHeld_68 : decode cX16_noHeld 68 = .ok (.iastore, 1) := by decide +kernel
theorem dX16_noHeld_69 : decode cX16_noHeld 69 = .ok (.aload_n 0, 1) := by decide +kernel
theorem dX16_noHeld_70 : decode cX16_noHeld 70 = .ok (.getfield 667, 3) := by decide +kernel
theorem dX16_noHeld_73 : decode cX16_noHeld 73 = .ok (.iload_n 1, 1) := by decide +kernel
theorem dX16_noHeld_74 : decode cX16_noHeld 74 = .ok (.iconst 0, 1) := by decide +kernel
theorem dX16_noHeld_75 : decode cX16_noHeld 75 = .ok (.iastore, 1) := by decide +kernel
theorem dX16_noHeld_76 : decode cX16_noHeld 76 = .ok (.iinc 1 1, 3) := by decide +kernel
theorem dX16_noHeld_79 : decode cX16_noHeld 79 = .ok (.goto (-30), 3) := by decide +kernel
theorem dX16_noHeld_82 : decode cX16_noHeld 82 = .ok (.return_, 1) := by decide +kernel
set_option maxRecDepth 20000 in
theorem a_X16_noHeld_82 {Q : Sg → Unit → Prop} {X : Sg → String → Prop} (K : MC R p s m args c cX16_noHeld 2 RX16 D cA tys A n0 s0 0 0 []) (hQ : HQV p l e R s m args below meth c cX16_noHeld D cA A n0 s0 QM dm ra jx rm Q) (hX : HX p l e R s m args below meth c 2 D cA A n0 s0 QM dm ra jx rm X) : ∀ (σ : Sg), w_X16_noHeld_82 ra jx rm Q X σ → RG σ → Shp dm ra jx rm σ → JJ p l e R s m args below meth c 2 D cA A n0 s0 QM σ 82 [(0, .ref rm)] [] := by
  intro σ h hGσ hS H locs ls hH hl hc
  have B := K.1
  unfold w_X16_noHeld_82 at h
  exact hQ _ _ _ _ _ dX16_noHeld_82 hH hc h hGσ hS
set_option maxRecDepth 20000 in
theorem a_X16_noHeld_55 {Q : Sg → Unit → Prop} {X : Sg → String → Prop} (K : MC R p s m args c cX16_noHeld 2 RX16 D cA tys A n0 s0 0 0 []) (hQ : HQV p l e R s m args below meth c cX16_noHeld D cA A n0 s0 QM dm ra jx rm Q) (hX : HX p l e R s m args below meth c 2 D cA A n0 s0 QM dm ra jx rm X) {K49 : Sg → Int → Prop} (hK49 : ∀ (σ : Sg) (v1 : Int) (g1 : rng v1), K49 σ v1 → RG σ → Shp dm ra jx rm σ → JJ p l e R s m args below meth c 2 D cA A n0 s0 QM σ 49 [(0, .ref rm), (1, .int (i32 v1))] []) : ∀ (σ : Sg) (v1 : Int) (g1 : rng v1), w_X16_noHeld_55 ra jx rm K49 Q X σ v1 → RG σ → Shp dm ra jx rm σ → JJ p l e R s m args below meth c 2 D cA A n0 s0 QM σ 55 [(0, .ref rm), (1, .int (i32 v1))] [] := by
  intro σ v1 g1 h hGσ hS H locs ls hH hl hc
  have B := K.1
  unfold w_X16_noHeld_55 at h
  refine lv_aload_n B.1 B.2.1 dX16_noHeld_55 rfl (lv_at hl 0 rfl) ?_
  refine r_arr B hH hS 87 (kd := 100) (n := 12) (by decide) (by decide) wf_X16_661 rfl rfl dX16_noHeld_56 ?_
  refine lv_iload_n B.1 B.2.1 dX16_noHeld_59 rfl (lv_at hl 1 rfl) ?_
  refine lv_iconst (v := i32 (-1)) B.1 B.2.1 dX16_noHeld_60 (by decide) ?_
  obtain ⟨q1, h⟩ := h
  obtain ⟨σ13, eσ13⟩ : ∃ z, z = pI σ (ra 87) v1.toNat (-1) := ⟨_, rfl⟩
  have h := h σ13 eσ13
  refine x_iast B K.2.1 hH (hS.ar (k := 87) (kd := 100) (n := 12) (by decide)) (by decide) q1 dX16_noHeld_61 (fun H locs hH => ?_)
  have hH : Hd D cA A s (pI σ (ra 87) v1.toNat (-1)) H locs := hH
  rw [← eσ13] at hH
  have hGσ13 : RG σ13 := by rw [eσ13]; exact hGσ.pI (by unfold rng; omega)
  have hS : Shp dm ra jx rm σ13 := by rw [eσ13]; exact hS
  have hc : CB n0 s0 σ13 := by rw [eσ13]; exact hc
  rw [show gc σ = gc σ13 by rw [eσ13], show gs σ = gs σ13 by rw [eσ13]]
  refine lv_aload_n B.1 B.2.1 dX16_noHeld_62 rfl (lv_at hl 0 rfl) ?_
  refine r_arr B hH hS 88 (kd := 100) (n := 12) (by decide) (by decide) wf_X16_664 rfl rfl dX16_noHeld_63 ?_
  refine lv_iload_n B.1 B.2.1 dX16_noHeld_66 rfl (lv_at hl 1 rfl) ?_
  refine lv_iconst (v := i32 (-1)) B.1 B.2.1 dX16_noHeld_67 (by decide) ?_
  obtain ⟨q3, h⟩ := h
  obtain ⟨σ14, eσ14⟩ : ∃ z, z = pI σ13 (ra 88) v1.toNat (-1) := ⟨_, rfl⟩
  have h := h σ14 eσ14
  refine x_iast B K.2.1 hH (hS.ar (k := 88) (kd := 100) (n := 12) (by decide)) (by decide) q3 dX16_noHeld_68 (fun H locs hH => ?_)
  have hH : Hd D cA A s (pI σ13 (ra 88) v1.toNat (-1)) H locs := hH
  rw [← eσ14] at hH
  have hGσ14 : RG σ14 := by rw [eσ14]; exact hGσ13.pI (by unfold rng; omega)
  have hS : Shp dm ra jx rm σ14 := by rw [eσ14]; exact hS
  have hc : CB n0 s0 σ14 := by rw [eσ14]; exact hc
  rw [show gc σ13 = gc σ14 by rw [eσ14], show gs σ13 = gs σ14 by rw [eσ14]]
  refine lv_aload_n B.1 B.2.1 dX16_noHeld_69 rfl (lv_at hl 0 rfl) ?_
  refine r_arr B hH hS 89 (kd := 100) (n := 12) (by decide) (by decide) wf_X16_667 rfl rfl dX16_noHeld_70 ?_
  refine lv_iload_n B.1 B.2.1 dX16_noHeld_73 rfl (lv_at hl 1 rfl) ?_
  refine lv_iconst (v := i32 0) B.1 B.2.1 dX16_noHeld_74 (by decide) ?_
  obtain ⟨q5, h⟩ := h
  obtain ⟨σ15, eσ15⟩ : ∃ z, z = pI σ14 (ra 89) v1.toNat 0 := ⟨_, rfl⟩
  have h := h σ15 eσ15
  refine x_iast B K.2.1 hH (hS.ar (k := 89) (kd := 100) (n := 12) (by decide)) (by decide) q5 dX16_noHeld_75 (fun H locs hH => ?_)
  have hH : Hd D cA A s (pI σ14 (ra 89) v1.toNat 0) H locs := hH
  rw [← eσ15] at hH
  have hGσ15 : RG σ15 := by rw [eσ15]; exact hGσ14.pI (by unfold rng; omega)
  have hS : Shp dm ra jx rm σ15 := by rw [eσ15]; exact hS
  have hc : CB n0 s0 σ15 := by rw [eσ15]; exact hc
  rw [show gc σ14 = gc σ15 by rw [eσ15], show gs σ14 = gs σ15 by rw [eσ15]]
  obtain ⟨q7, h⟩ := h
  refine lv_iinc (k := 1) (v := i32 (v1 + 1)) (lv' := [(1, .int (i32 (v1 + 1))), (0, .ref rm)]) B.1 B.2.1 dX16_noHeld_76 hl rfl (i32_add _ _) (by decide) rfl (fun ls hl => ?_)
  refine lv_goto (tgt := 49) B.1 B.2.1 dX16_noHeld_79 (by decide) ?_
  exact hK49 _ _ q7 h hGσ15 hS _ _ _ hH (lv_sub (l' := [(0, .ref rm), (1, .int (i32 (v1 + 1)))]) hl [1, 0] rfl) hc
set_option maxRecDepth 20000 in
theorem a_X16_noHeld_49 {Q : Sg → Unit → Prop} {X : Sg → String → Prop} (K : MC R p s m args c cX16_noHeld 2 RX16 D cA tys A n0 s0 0 0 []) (hQ : HQV p l e R s m args below meth c cX16_noHeld D cA A n0 s0 QM dm ra jx rm Q) (hX : HX p l e R s m args below meth c 2 D cA A n0 s0 QM dm ra jx rm X) {K49 : Sg → Int → Prop} (hK49 : ∀ (σ : Sg) (v1 : Int) (g1 : rng v1), K49 σ v1 → RG σ → Shp dm ra jx rm σ → JJ p l e R s m args below meth c 2 D cA A n0 s0 QM σ 49 [(0, .ref rm), (1, .int (i32 v1))] []) : ∀ (σ : Sg) (v1 : Int) (g1 : rng v1), w_X16_noHeld_49 ra jx rm K49 Q X σ v1 → RG σ → Shp dm ra jx rm σ → JJ p l e R s m args below meth c 2 D cA A n0 s0 QM σ 49 [(0, .ref rm), (1, .int (i32 v1))] [] := by
  intro σ v1 g1 h hGσ hS H locs ls hH hl hc
  have B := K.1
  unfold w_X16_noHeld_49 at h
  refine lv_iload_n B.1 B.2.1 dX16_noHeld_49 rfl (lv_at hl 1 rfl) ?_
  refine lv_bipush (v := i32 12) B.1 B.2.1 dX16_noHeld_50 (by decide) ?_
  refine lv_icmp_ge (tgt := 82) B.1 B.2.1 dX16_noHeld_52 (by decide) (fun h9 => ?_) (fun h9 => ?_)
  · rw [if_pos ((i32_le (by unfold rng; omega) g1).mp h9)] at h
    exact a_X16_noHeld_82 K hQ hX _ h hGσ hS _ _ _ hH (lv_sub (l' := [(0, .ref rm)]) hl [0] rfl) hc
  · rw [if_neg (fun q => h9 ((i32_le (by unfold rng; omega) g1).mpr q))] at h
    exact a_X16_noHeld_55 K hQ hX hK49 _ _ g1 h hGσ hS _ _ _ hH (lv_sub (l' := [(0, .ref rm), (1, .int (i32 v1))]) hl [0, 1] rfl) hc
theorem al_X16_noHeld_49 {Q : Sg → Unit → Prop} {X : Sg → String → Prop} (K : MC R p s m args c cX16_noHeld 2 RX16 D cA tys A n0 s0 0 0 []) (hQ : HQV p l e R s m args below meth c cX16_noHeld D cA A n0 s0 QM dm ra jx rm Q) (hX : HX p l e R s m args below meth c 2 D cA A n0 s0 QM dm ra jx rm X) : ∀ (n : Nat), ∀ (σ : Sg) (v1 : Int) (g1 : rng v1), wl_X16_noHeld_49 ra jx rm Q X n σ v1 → RG σ → Shp dm ra jx rm σ → JJ p l e R s m args below meth c 2 D cA A n0 s0 QM σ 49 [(0, .ref rm), (1, .int (i32 v1))] [] := by
  intro n
  induction n with
  | zero => intro σ v1 g1 h; exact h.elim
  | succ n ih => exact fun σ v1 g1 h => a_X16_noHeld_49 K hQ hX ih σ v1 g1 h
set_option maxRecDepth 20000 in
theorem a_X16_noHeld_37 {Q : Sg → Unit → Prop} {X : Sg → String → Prop} (K : MC R p s m args c cX16_noHeld 2 RX16 D cA tys A n0 s0 0 0 []) (hQ : HQV p l e R s m args below meth c cX16_noHeld D cA A n0 s0 QM dm ra jx rm Q) (hX : HX p l e R s m args below meth c 2 D cA A n0 s0 QM dm ra jx rm X) : ∀ (σ : Sg), w_X16_noHeld_37 ra jx rm Q X σ → RG σ → Shp dm ra jx rm σ → JJ p l e R s m args below meth c 2 D cA A n0 s0 QM σ 37 [(0, .ref rm)] [] := by
  intro σ h hGσ hS H locs ls hH hl hc
  have B := K.1
  unfold w_X16_noHeld_37 at h
  refine lv_aload_n B.1 B.2.1 dX16_noHeld_37 rfl (lv_at hl 0 rfl) ?_
  refine lv_iconst (v := i32 0) B.1 B.2.1 dX16_noHeld_38 (by decide) ?_
  obtain ⟨σ16, eσ16⟩ : ∃ z, z = pI σ rm 90 0 := ⟨_, rfl⟩
  have h := h σ16 eσ16
  refine r_puti B hH hS 90 (ty := .int) (by decide) wf_X16_655 rfl rfl rfl rfl rfl rfl dX16_noHeld_39 (fun H locs hH => ?_)
  have hH : Hd D cA A s (pI σ rm 90 0) H locs := hH
  rw [← eσ16] at hH
  have hGσ16 : RG σ16 := by rw [eσ16]; exact hGσ.pI (by unfold rng; omega)
  have hS : Shp dm ra jx rm σ16 := by rw [eσ16]; exact hS
  have hc : CB n0 s0 σ16 := by rw [eσ16]; exact hc
  rw [show gc σ = gc σ16 by rw [eσ16], show gs σ = gs σ16 by rw [eσ16]]
  refine lv_aload_n B.1 B.2.1 dX16_noHeld_42 rfl (lv_at hl 0 rfl) ?_
  refine lv_iconst (v := i32 0) B.1 B.2.1 dX16_noHeld_43 (by decide) ?_
  obtain ⟨σ17, eσ17⟩ : ∃ z, z = pI σ16 rm 91 0 := ⟨_, rfl⟩
  have h := h σ17 eσ17
  refine r_puti B hH hS 91 (ty := .int) (by decide) wf_X16_658 rfl rfl rfl rfl rfl rfl dX16_noHeld_44 (fun H locs hH => ?_)
  have hH : Hd D cA A s (pI σ16 rm 91 0) H locs := hH
  rw [← eσ17] at hH
  have hGσ17 : RG σ17 := by rw [eσ17]; exact hGσ16.pI (by unfold rng; omega)
  have hS : Shp dm ra jx rm σ17 := by rw [eσ17]; exact hS
  have hc : CB n0 s0 σ17 := by rw [eσ17]; exact hc
  rw [show gc σ16 = gc σ17 by rw [eσ17], show gs σ16 = gs σ17 by rw [eσ17]]
  refine lv_iconst (v := i32 0) B.1 B.2.1 dX16_noHeld_47 (by decide) ?_
  refine lv_istore_n (lv' := [(1, .int (i32 0)), (0, .ref rm)]) B.1 B.2.1 dX16_noHeld_48 rfl hl (by decide) rfl (fun ls hl => ?_)
  obtain ⟨n9, h⟩ := h
  exact al_X16_noHeld_49 K hQ hX n9 _ _ (by unfold rng; omega) h hGσ17 hS _ _ _ hH (lv_sub (l' := [(0, .ref rm), (1, .int (i32 0))]) hl [1, 0] rfl) hc
set_option maxRecDepth 20000 in
theorem a_X16_noHeld_30 {Q : Sg → Unit → Prop} {X : Sg → String → Prop} (K : MC R p s m args c cX16_noHeld 2 RX16 D cA tys A n0 s0 0 0 []) (hQ : HQV p l e R s m args below meth c cX16_noHeld D cA A n0 s0 QM dm ra jx rm Q) (hX : HX p l e R s m args below meth c 2 D cA A n0 s0 QM dm ra jx rm X) {K2 : Sg → Int → Prop} (hK2 : ∀ (σ : Sg) (v1 : Int) (g1 : rng v1), K2 σ v1 → RG σ → Shp dm ra jx rm σ → JJ p l e R s m args below meth c 2 D cA A n0 s0 QM σ 2 [(0, .ref rm), (1, .int (i32 v1))] []) : ∀ (σ : Sg) (v1 : Int) (u0 : Int) (u1 : Int) (g1 : rng v1) (gu0 : rng u0) (gu1 : rng u1), w_X16_noHeld_30 ra jx rm K2 Q X σ v1 u0 u1 → RG σ → Shp dm ra jx rm σ → JJ p l e R s m args below meth c 2 D cA A n0 s0 QM σ 30 [(0, .ref rm), (1, .int (i32 v1))] [.int (i32 u0), .int (i32 u1), .ref (ra 86)] := by
  intro σ v1 u0 u1 g1 gu0 gu1 h hGσ hS H locs ls hH hl hc
  have B := K.1
  unfold w_X16_noHeld_30 at h
  obtain ⟨q1, h⟩ := h
  obtain ⟨σ18, eσ18⟩ : ∃ z, z = pI σ (ra 86) u1.toNat u0 := ⟨_, rfl⟩
  have h := h σ18 eσ18
  refine x_iast B K.2.1 hH (hS.ar (k := 86) (kd := 100) (n := 2000) (by decide)) (by decide) q1 dX16_noHeld_30 (fun H locs hH => ?_)
  have hH : Hd D cA A s (pI σ (ra 86) u1.toNat u0) H locs := hH
  rw [← eσ18] at hH
  have hGσ18 : RG σ18 := by rw [eσ18]; exact hGσ.pI gu0
  have hS : Shp dm ra jx rm σ18 := by rw [eσ18]; exact hS
  have hc : CB n0 s0 σ18 := by rw [eσ18]; exact hc
  rw [show gc σ = gc σ18 by rw [eσ18], show gs σ = gs σ18 by rw [eσ18]]
  obtain ⟨q3, h⟩ := h
  refine lv_iinc (k := 1) (v := i32 (v1 + 1)) (lv' := [(1, .int (i32 (v1 + 1))), (0, .ref rm)]) B.1 B.2.1 dX16_noHeld_31 hl rfl (i32_add _ _) (by decide) rfl (fun ls hl => ?_)
  refine lv_goto (tgt := 2) B.1 B.2.1 dX16_noHeld_34 (by decide) ?_
  exact hK2 _ _ q3 h hGσ18 hS _ _ _ hH (lv_sub (l' := [(0, .ref rm), (1, .int (i32 (v1 + 1)))]) hl [1, 0] rfl) hc
set_option maxRecDepth 20000 in
theorem a_X16_noHeld_29 {Q : Sg → Unit → Prop} {X : Sg → String → Prop} (K : MC R p s m args c cX16_noHeld 2 RX16 D cA tys A n0 s0 0 0 []) (hQ : HQV p l e R s m args below meth c cX16_noHeld D cA A n0 s0 QM dm ra jx rm Q) (hX : HX p l e R s m args below meth c 2 D cA A n0 s0 QM dm ra jx rm X) {K2 : Sg → Int → Prop} (hK2 : ∀ (σ : Sg) (v1 : Int) (g1 : rng v1), K2 σ v1 → RG σ → Shp dm ra jx rm σ → JJ p l e R s m args below meth c 2 D cA A n0 s0 QM σ 2 [(0, .ref rm), (1, .int (i32 v1))] []) : ∀ (σ : Sg) (v1 : Int) (u0 : Int) (g1 : rng v1) (gu0 : rng u0), w_X16_noHeld_29 ra jx rm K2 Q X σ v1 u0 → RG σ → Shp dm ra jx rm σ → JJ p l e R s m args below meth c 2 D cA A n0 s0 QM σ 29 [(0, .ref rm), (1, .int (i32 v1))] [.int (i32 u0), .ref (ra 86)] := by
  intro σ v1 u0 g1 gu0 h hGσ hS H locs ls hH hl hc
  have B := K.1
  unfold w_X16_noHeld_29 at h
  refine lv_iconst (v := i32 (-1)) B.1 B.2.1 dX16_noHeld_29 (by decide) ?_
  exact a_X16_noHeld_30 K hQ hX hK2 _ _ _ _ g1 (by unfold rng; omega) gu0 h hGσ hS _ _ _ hH (lv_sub (l' := [(0, .ref rm), (1, .int (i32 v1))]) hl [0, 1] rfl) hc
set_option maxRecDepth 20000 in
theorem a_X16_noHeld_23 {Q : Sg → Unit → Prop} {X : Sg → String → Prop} (K : MC R p s m args c cX16_noHeld 2 RX16 D cA tys A n0 s0 0 0 []) (hQ : HQV p l e R s m args below meth c cX16_noHeld D cA A n0 s0 QM dm ra jx rm Q) (hX : HX p l e R s m args below meth c 2 D cA A n0 s0 QM dm ra jx rm X) {K2 : Sg → Int → Prop} (hK2 : ∀ (σ : Sg) (v1 : Int) (g1 : rng v1), K2 σ v1 → RG σ → Shp dm ra jx rm σ → JJ p l e R s m args below meth c 2 D cA A n0 s0 QM σ 2 [(0, .ref rm), (1, .int (i32 v1))] []) : ∀ (σ : Sg) (v1 : Int) (u0 : Int) (g1 : rng v1) (gu0 : rng u0), w_X16_noHeld_23 ra jx rm K2 Q X σ v1 u0 → RG σ → Shp dm ra jx rm σ → JJ p l e R s m args below meth c 2 D cA A n0 s0 QM σ 23 [(0, .ref rm), (1, .int (i32 v1))] [.int (i32 u0), .ref (ra 86)] := by
  intro σ v1 u0 g1 gu0 h hGσ hS H locs ls hH hl hc
  have B := K.1
  unfold w_X16_noHeld_23 at h
  refine lv_iload_n B.1 B.2.1 dX16_noHeld_23 rfl (lv_at hl 1 rfl) ?_
  refine lv_iconst (v := i32 1) B.1 B.2.1 dX16_noHeld_24 (by decide) ?_
  obtain ⟨q1, h⟩ := h
  refine lv_iadd B.1 B.2.1 dX16_noHeld_25 ?_
  rw [i32_add]
  refine lv_goto (tgt := 30) B.1 B.2.1 dX16_noHeld_26 (by decide) ?_
  exact a_X16_noHeld_30 K hQ hX hK2 _ _ _ _ g1 q1 gu0 h hGσ hS _ _ _ hH (lv_sub (l' := [(0, .ref rm), (1, .int (i32 v1))]) hl [0, 1] rfl) hc
set_option maxRecDepth 20000 in
theorem a_X16_noHeld_9 {Q : Sg → Unit → Prop} {X : Sg → String → Prop} (K : MC R p s m args c cX16_noHeld 2 RX16 D cA tys A n0 s0 0 0 []) (hQ : HQV p l e R s m args below meth c cX16_noHeld D cA A n0 s0 QM dm ra jx rm Q) (hX : HX p l e R s m args below meth c 2 D cA A n0 s0 QM dm ra jx rm X) {K2 : Sg → Int → Prop} (hK2 : ∀ (σ : Sg) (v1 : Int) (g1 : rng v1), K2 σ v1 → RG σ → Shp dm ra jx rm σ → JJ p l e R s m args below meth c 2 D cA A n0 s0 QM σ 2 [(0, .ref rm), (1, .int (i32 v1))] []) : ∀ (σ : Sg) (v1 : Int) (g1 : rng v1), w_X16_noHeld_9 ra jx rm K2 Q X σ v1 → RG σ → Shp dm ra jx rm σ → JJ p l e R s m args below meth c 2 D cA A n0 s0 QM σ 9 [(0, .ref rm), (1, .int (i32 v1))] [] := by
  intro σ v1 g1 h hGσ hS H locs ls hH hl hc
  have B := K.1
  unfold w_X16_noHeld_9 at h
  refine lv_aload_n B.1 B.2.1 dX16_noHeld_9 rfl (lv_at hl 0 rfl) ?_
  refine r_arr B hH hS 86 (kd := 100) (n := 2000) (by decide) (by decide) wf_X16_652 rfl rfl dX16_noHeld_10 ?_
  refine lv_iload_n B.1 B.2.1 dX16_noHeld_13 rfl (lv_at hl 1 rfl) ?_
  refine lv_iload_n B.1 B.2.1 dX16_noHeld_14 rfl (lv_at hl 1 rfl) ?_
  refine lv_iconst (v := i32 1) B.1 B.2.1 dX16_noHeld_15 (by decide) ?_
  obtain ⟨q1, h⟩ := h
  refine lv_iadd B.1 B.2.1 dX16_noHeld_16 ?_
  rw [i32_add]
  refine lv_sipush (v := i32 2000) B.1 B.2.1 dX16_noHeld_17 (by decide) ?_
  refine lv_icmp_ge (tgt := 29) B.1 B.2.1 dX16_noHeld_20 (by decide) (fun h9 => ?_) (fun h9 => ?_)
  · rw [if_pos ((i32_le (by unfold rng; omega) q1).mp h9)] at h
    exact a_X16_noHeld_29 K hQ hX hK2 _ _ _ g1 g1 h hGσ hS _ _ _ hH (lv_sub (l' := [(0, .ref rm), (1, .int (i32 v1))]) hl [0, 1] rfl) hc
  · rw [if_neg (fun q => h9 ((i32_le (by unfold rng; omega) q1).mpr q))] at h
    exact a_X16_noHeld_23 K hQ hX hK2 _ _ _ g1 g1 h hGσ hS _ _ _ hH (lv_sub (l' := [(0, .ref rm), (1, .int (i32 v1))]) hl [0, 1] rfl) hc
set_option maxRecDepth 20000 in
theorem a_X16_noHeld_2 {Q : Sg → Unit → Prop} {X : Sg → String → Prop} (K : MC R p s m args c cX16_noHeld 2 RX16 D cA tys A n0 s0 0 0 []) (hQ : HQV p l e R s m args below meth c cX16_noHeld D cA A n0 s0 QM dm ra jx rm Q) (hX : HX p l e R s m args below meth c 2 D cA A n0 s0 QM dm ra jx rm X) {K2 : Sg → Int → Prop} (hK2 : ∀ (σ : Sg) (v1 : Int) (g1 : rng v1), K2 σ v1 → RG σ → Shp dm ra jx rm σ → JJ p l e R s m args below meth c 2 D cA A n0 s0 QM σ 2 [(0, .ref rm), (1, .int (i32 v1))] []) : ∀ (σ : Sg) (v1 : Int) (g1 : rng v1), w_X16_noHeld_2 ra jx rm K2 Q X σ v1 → RG σ → Shp dm ra jx rm σ → JJ p l e R s m args below meth c 2 D cA A n0 s0 QM σ 2 [(0, .ref rm), (1, .int (i32 v1))] [] := by
  intro σ v1 g1 h hGσ hS H locs ls hH hl hc
  have B := K.1
  unfold w_X16_noHeld_2 at h
  refine lv_iload_n B.1 B.2.1 dX16_noHeld_2 rfl (lv_at hl 1 rfl) ?_
  refine lv_sipush (v := i32 2000) B.1 B.2.1 dX16_noHeld_3 (by decide) ?_
  refine lv_icmp_ge (tgt := 37) B.1 B.2.1 dX16_noHeld_6 (by decide) (fun h9 => ?_) (fun h9 => ?_)
  · rw [if_pos ((i32_le (by unfold rng; omega) g1).mp h9)] at h
    exact a_X16_noHeld_37 K hQ hX _ h hGσ hS _ _ _ hH (lv_sub (l' := [(0, .ref rm)]) hl [0] rfl) hc
  · rw [if_neg (fun q => h9 ((i32_le (by unfold rng; omega) g1).mpr q))] at h
    exact a_X16_noHeld_9 K hQ hX hK2 _ _ g1 h hGσ hS _ _ _ hH (lv_sub (l' := [(0, .ref rm), (1, .int (i32 v1))]) hl [0, 1] rfl) hc
theorem al_X16_noHeld_2 {Q : Sg → Unit → Prop} {X : Sg → String → Prop} (K : MC R p s m args c cX16_noHeld 2 RX16 D cA tys A n0 s0 0 0 []) (hQ : HQV p l e R s m args below meth c cX16_noHeld D cA A n0 s0 QM dm ra jx rm Q) (hX : HX p l e R s m args below meth c 2 D cA A n0 s0 QM dm ra jx rm X) : ∀ (n : Nat), ∀ (σ : Sg) (v1 : Int) (g1 : rng v1), wl_X16_noHeld_2 ra jx rm Q X n σ v1 → RG σ → Shp dm ra jx rm σ → JJ p l e R s m args below meth c 2 D cA A n0 s0 QM σ 2 [(0, .ref rm), (1, .int (i32 v1))] [] := by
  intro n
  induction n with
  | zero => intro σ v1 g1 h; exact h.elim
  | succ n ih => exact fun σ v1 g1 h => a_X16_noHeld_2 K hQ hX ih σ v1 g1 h
set_option maxRecDepth 20000 in
theorem a_X16_noHeld_0 {Q : Sg → Unit → Prop} {X : Sg → String → Prop} (K : MC R p s m args c cX16_noHeld 2 RX16 D cA tys A n0 s0 0 0 []) (hQ : HQV p l e R s m args below meth c cX16_noHeld D cA A n0 s0 QM dm ra jx rm Q) (hX : HX p l e R s m args below meth c 2 D cA A n0 s0 QM dm ra jx rm X) : ∀ (σ : Sg), w_X16_noHeld_0 ra jx rm Q X σ → RG σ → Shp dm ra jx rm σ → JJ p l e R s m args below meth c 2 D cA A n0 s0 QM σ 0 [(0, .ref rm)] [] := by
  intro σ h hGσ hS H locs ls hH hl hc
  have B := K.1
  unfold w_X16_noHeld_0 at h
  refine lv_iconst (v := i32 0) B.1 B.2.1 dX16_noHeld_0 (by decide) ?_
  refine lv_istore_n (lv' := [(1, .int (i32 0)), (0, .ref rm)]) B.1 B.2.1 dX16_noHeld_1 rfl hl (by decide) rfl (fun ls hl => ?_)
  obtain ⟨n9, h⟩ := h
  exact al_X16_noHeld_2 K hQ hX n9 _ _ (by unfold rng; omega) h hGσ hS _ _ _ hH (lv_sub (l' := [(0, .ref rm), (1, .int (i32 0))]) hl [1, 0] rfl) hc
theorem ok_X16_noHeld (hT : Tys cA tys) {Q : Sg → Unit → Prop} {X : Sg → String → Prop} (σ : Sg) (hG : RG σ) (hS : Shp dm ra jx rm σ) (h : wp_X16_noHeld ra jx rm σ Q X) : Ok l D cA tys A yX16_noHeld (.code yX16_noHeld cX16_noHeld 2 none) 0 0 [.ref rm] σ (QnV dm ra jx rm Q) (QxR dm ra jx rm X) := by
  unfold wp_X16_noHeld at h
  exact ok_V (plainFor_of_name (by decide)) (by exact Nat.le_of_ble_eq_true rfl) hT (fun p e R s m args below meth c K hQ hX H locs ls hH hl hc => a_X16_noHeld_0 K hQ hX σ h hG hS H locs ls hH (lv_sub (l' := [(0, .ref rm)]) hl [0] rfl) hc)
theorem dX16_noRun_0 : decode cX16_noRun 0 = .ok (.aload_n 0, 1) := by decide +kernel
theorem dX16_noRun_1 : decode cX16_noRun 1 = .ok (.iconst 0, 1) := by decide +kernel
theorem dX16_noRun_2 : decode cX16_noRun 2 = .ok (.putfield 852, 3) := by decide +kernel
theorem dX16_noRun_5 : decode cX16_noRun 5 = .ok (.aload_n 0, 1) := by decide +kernel
theorem dX16_noRun_6 : decode cX16_noRun 6 = .ok (.iconst 0, 1) := by decide +kernel
theorem dX16_noRun_7 : decode cX16_noRun 7 = .ok (.putfield 831, 3) := by decide +kernel
theorem dX16_noRun_10 : decode cX16_noRun 10 = .ok (.aload_n 0, 1) := by decide +kernel
theorem dX16_noRun_11 : decode cX16_noRun 11 = .ok (.iconst 0, 1) := by decide +kernel
theorem dX16_noRun_12 : decode cX16_noRun 12 = .ok (.putfield 399, 3) := by decide +kernel
theorem dX16_noRun_15 : decode cX16_noRun 15 = .ok (.aload_n 0, 1) := by decide +kernel
theorem dX16_noRun_16 : decode cX16_noRun 16 = .ok (.iconst 0, 1) := by decide +kernel
theorem dX16_noRun_17 : decode cX16_noRun 17 = .ok (.putfield 371, 3) := by decide +kernel
theorem dX16_noRun_20 : decode cX16_noRun 20 = .ok (.aload_n 0, 1) := by decide +kernel
theorem dX16_noRun_21 : decode cX16_noRun 21 = .ok (.iconst 0, 1) := by decide +kernel
theorem dX16_noRun_22 : decode cX16_noRun 22 = .ok (.putfield 745, 3) := by decide +kernel
theorem dX16_noRun_25 : decode cX16_noRun 25 = .ok (.aload_n 0, 1) := by decide +kernel
theorem dX16_noRun_26 : decode cX16_noRun 26 = .ok (.iconst 0, 1) := by decide +kernel
theorem dX16_noRun_27 : decode cX16_noRun 27 = .ok (.putfield 742, 3) := by decide +kernel
theorem dX16_noRun_30 : decode cX16_noRun 30 = .ok (.aload_n 0, 1) := by decide +kernel
theorem dX16_noRun_31 : decode cX16_noRun 31 = .ok (.iconst 0, 1) := by decide +kernel
theorem dX16_noRun_32 : decode cX16_noRun 32 = .ok (.putfield 855, 3) := by decide +kernel
theorem dX16_noRun_35 : decode cX16_noRun 35 = .ok (.aload_n 0, 1) := by decide +kernel
theorem dX16_noRun_36 : decode cX16_noRun 36 = .ok (.lconst 0, 1) := by decide +kernel
theorem dX16_noRun_37 : decode cX16_noRun 37 = .ok (.putfield 807, 3) := by decide +kernel
theorem dX16_noRun_40 : decode cX16_noRun 40 = .ok (.aload_n 0, 1) := by decide +kernel
theorem dX16_noRun_41 : decode cX16_noRun 41 = .ok (.lconst 0, 1) := by decide +kernel
theorem dX16_noRun_42 : decode cX16_noRun 42 = .ok (.putfield 826, 3) := by decide +kernel
theorem dX16_noRun_45 : decode cX16_noRun 45 = .ok (.aload_n 0, 1) := by decide +kernel
theorem dX16_noRun_46 : decode cX16_noRun 46 = .ok (.iconst 0, 1) := by decide +kernel
theorem dX16_noRun_47 : decode cX16_noRun 47 = .ok (.putfield 837, 3) := by decide +kernel
theorem dX16_noRun_50 : decode cX16_noRun 50 = .ok (.aload_n 0, 1) := by decide +kernel
theorem dX16_noRun_51 : decode cX16_noRun 51 = .ok (.iconst 0, 1) := by decide +kernel
theorem dX16_noRun_52 : decode cX16_noRun 52 = .ok (.putfield 343, 3) := by decide +kernel
theorem dX16_noRun_55 : decode cX16_noRun 55 = .ok (.aload_n 0, 1) := by decide +kernel
theorem dX16_noRun_56 : decode cX16_noRun 56 = .ok (.getfield 703, 3) := by decide +kernel
theorem dX16_noRun_59 : decode cX16_noRun 59 = .ok (.iconst 0, 1) := by decide +kernel
theorem dX16_noRun_60 : decode cX16_noRun 60 = .ok (.iconst 0, 1) := by decide +kernel
theorem dX16_noRun_61 : decode cX16_noRun 61 = .ok (.iastore, 1) := by decide +kernel
theorem dX16_noRun_62 : decode cX16_noRun 62 = .ok (.aload_n 0, 1) := by decide +kernel
theorem dX16_noRun_63 : decode cX16_noRun 63 = .ok (.getfield 703, 3) := by decide +kernel
theorem dX16_noRun_66 : decode cX16_noRun 66 = .ok (.iconst 1, 1) := by decide +kernel
theorem dX16_noRun_67 : decode cX16_noRun 67 = .ok (.iconst 0, 1) := by decide +kernel
theorem dX16_noRun_68 : decode cX16_noRun 68 = .ok (.iastore, 1) := by decide +kernel
theorem dX16_noRun_69 : decode cX16_noRun 69 = .ok (.aload_n 0, 1) := by decide +kernel
theorem dX16_noRun_70 : decode cX16_noRun 70 = .ok (.invokevirtual 858, 3) := by decide +kernel
theorem dX16_noRun_73 : decode cX16_noRun 73 = .ok (.aload_n 0, 1) := by decide +kernel
theorem dX16_noRun_74 : decode cX16_noRun 74 = .ok (.invokevirtual 834, 3) := by decide +kernel
theorem dX16_noRun_77 : decode cX16_noRun 77 = .ok (.aload_n 0, 1) := by decide +kernel
theorem dX16_noRun_78 : decode cX16_noRun 78 = .ok (.invokevirtual 843, 3) := by decide +kernel
theorem dX16_noRun_81 : decode cX16_noRun 81 = .ok (.return_, 1) := by decide +kernel
set_option maxRecDepth 20000 in
theorem a_X16_noRun_0 {Q : Sg → Unit → Prop} {X : Sg → String → Prop} (K : MC R p s m args c cX16_noRun 1 RX16 D cA tys A n0 s0 1 21 []) (hQ : HQV p l e R s m args below meth c cX16_noRun D cA A n0 s0 QM dm ra jx rm Q) (hX : HX p l e R s m args below meth c 1 D cA A n0 s0 QM dm ra jx rm X) : ∀ (σ : Sg), w_X16_noRun_0 ra jx rm Q X σ → RG σ → Shp dm ra jx rm σ → JJ p l e R s m args below meth c 1 D cA A n0 s0 QM σ 0 [(0, .ref rm)] [] := by
  intro σ h hGσ hS H locs ls hH hl hc
  have B := K.1
  unfold w_X16_noRun_0 at h
  refine lv_aload_n B.1 B.2.1 dX16_noRun_0 rfl (lv_at hl 0 rfl) ?_
  refine lv_iconst (v := i32 0) B.1 B.2.1 dX16_noRun_1 (by decide) ?_
  obtain ⟨σ33, eσ33⟩ : ∃ z, z = pI σ rm 30 0 := ⟨_, rfl⟩
  have h := h σ33 eσ33
  refine r_puti B hH hS 30 (ty := .boolean) (by decide) wf_X16_852 rfl rfl rfl rfl rfl rfl dX16_noRun_2 (fun H locs hH => ?_)
  have hH : Hd D cA A s (pI σ rm 30 0) H locs := hH
  rw [← eσ33] at hH
  have hGσ33 : RG σ33 := by rw [eσ33]; exact hGσ.pI (by unfold rng; omega)
  have hS : Shp dm ra jx rm σ33 := by rw [eσ33]; exact hS
  have hc : CB n0 s0 σ33 := by rw [eσ33]; exact hc
  rw [show gc σ = gc σ33 by rw [eσ33], show gs σ = gs σ33 by rw [eσ33]]
  refine lv_aload_n B.1 B.2.1 dX16_noRun_5 rfl (lv_at hl 0 rfl) ?_
  refine lv_iconst (v := i32 0) B.1 B.2.1 dX16_noRun_6 (by decide) ?_
  obtain ⟨σ34, eσ34⟩ : ∃ z, z = pI σ33 rm 31 0 := ⟨_, rfl⟩
  have h := h σ34 eσ34
  refine r_puti B hH hS 31 (ty := .boolean) (by decide) wf_X16_831 rfl rfl rfl rfl rfl rfl dX16_noRun_7 (fun H locs hH => ?_)
  have hH : Hd D cA A s (pI σ33 rm 31 0) H locs := hH
  rw [← eσ34] at hH
  have hGσ34 : RG σ34 := by rw [eσ34]; exact hGσ33.pI (by unfold rng; omega)
  have hS : Shp dm ra jx rm σ34 := by rw [eσ34]; exact hS
  have hc : CB n0 s0 σ34 := by rw [eσ34]; exact hc
  rw [show gc σ33 = gc σ34 by rw [eσ34], show gs σ33 = gs σ34 by rw [eσ34]]
  refine lv_aload_n B.1 B.2.1 dX16_noRun_10 rfl (lv_at hl 0 rfl) ?_
  refine lv_iconst (v := i32 0) B.1 B.2.1 dX16_noRun_11 (by decide) ?_
  obtain ⟨σ35, eσ35⟩ : ∃ z, z = pI σ34 rm 36 0 := ⟨_, rfl⟩
  have h := h σ35 eσ35
  refine r_puti B hH hS 36 (ty := .int) (by decide) wf_X16_399 rfl rfl rfl rfl rfl rfl dX16_noRun_12 (fun H locs hH => ?_)
  have hH : Hd D cA A s (pI σ34 rm 36 0) H locs := hH
  rw [← eσ35] at hH
  have hGσ35 : RG σ35 := by rw [eσ35]; exact hGσ34.pI (by unfold rng; omega)
  have hS : Shp dm ra jx rm σ35 := by rw [eσ35]; exact hS
  have hc : CB n0 s0 σ35 := by rw [eσ35]; exact hc
  rw [show gc σ34 = gc σ35 by rw [eσ35], show gs σ34 = gs σ35 by rw [eσ35]]
  refine lv_aload_n B.1 B.2.1 dX16_noRun_15 rfl (lv_at hl 0 rfl) ?_
  refine lv_iconst (v := i32 0) B.1 B.2.1 dX16_noRun_16 (by decide) ?_
  obtain ⟨σ36, eσ36⟩ : ∃ z, z = pI σ35 rm 50 0 := ⟨_, rfl⟩
  have h := h σ36 eσ36
  refine r_puti B hH hS 50 (ty := .int) (by decide) wf_X16_371 rfl rfl rfl rfl rfl rfl dX16_noRun_17 (fun H locs hH => ?_)
  have hH : Hd D cA A s (pI σ35 rm 50 0) H locs := hH
  rw [← eσ36] at hH
  have hGσ36 : RG σ36 := by rw [eσ36]; exact hGσ35.pI (by unfold rng; omega)
  have hS : Shp dm ra jx rm σ36 := by rw [eσ36]; exact hS
  have hc : CB n0 s0 σ36 := by rw [eσ36]; exact hc
  rw [show gc σ35 = gc σ36 by rw [eσ36], show gs σ35 = gs σ36 by rw [eσ36]]
  refine lv_aload_n B.1 B.2.1 dX16_noRun_20 rfl (lv_at hl 0 rfl) ?_
  refine lv_iconst (v := i32 0) B.1 B.2.1 dX16_noRun_21 (by decide) ?_
  obtain ⟨σ37, eσ37⟩ : ∃ z, z = pI σ36 rm 92 0 := ⟨_, rfl⟩
  have h := h σ37 eσ37
  refine r_puti B hH hS 92 (ty := .int) (by decide) wf_X16_745 rfl rfl rfl rfl rfl rfl dX16_noRun_22 (fun H locs hH => ?_)
  have hH : Hd D cA A s (pI σ36 rm 92 0) H locs := hH
  rw [← eσ37] at hH
  have hGσ37 : RG σ37 := by rw [eσ37]; exact hGσ36.pI (by unfold rng; omega)
  have hS : Shp dm ra jx rm σ37 := by rw [eσ37]; exact hS
  have hc : CB n0 s0 σ37 := by rw [eσ37]; exact hc
  rw [show gc σ36 = gc σ37 by rw [eσ37], show gs σ36 = gs σ37 by rw [eσ37]]
  refine lv_aload_n B.1 B.2.1 dX16_noRun_25 rfl (lv_at hl 0 rfl) ?_
  refine lv_iconst (v := i32 0) B.1 B.2.1 dX16_noRun_26 (by decide) ?_
  obtain ⟨σ38, eσ38⟩ : ∃ z, z = pI σ37 rm 93 0 := ⟨_, rfl⟩
  have h := h σ38 eσ38
  refine r_puti B hH hS 93 (ty := .int) (by decide) wf_X16_742 rfl rfl rfl rfl rfl rfl dX16_noRun_27 (fun H locs hH => ?_)
  have hH : Hd D cA A s (pI σ37 rm 93 0) H locs := hH
  rw [← eσ38] at hH
  have hGσ38 : RG σ38 := by rw [eσ38]; exact hGσ37.pI (by unfold rng; omega)
  have hS : Shp dm ra jx rm σ38 := by rw [eσ38]; exact hS
  have hc : CB n0 s0 σ38 := by rw [eσ38]; exact hc
  rw [show gc σ37 = gc σ38 by rw [eσ38], show gs σ37 = gs σ38 by rw [eσ38]]
  refine lv_aload_n B.1 B.2.1 dX16_noRun_30 rfl (lv_at hl 0 rfl) ?_
  refine lv_iconst (v := i32 0) B.1 B.2.1 dX16_noRun_31 (by decide) ?_
  obtain ⟨σ39, eσ39⟩ : ∃ z, z = pI σ38 rm 94 0 := ⟨_, rfl⟩
  have h := h σ39 eσ39
  refine r_puti B hH hS 94 (ty := .int) (by decide) wf_X16_855 rfl rfl rfl rfl rfl rfl dX16_noRun_32 (fun H locs hH => ?_)
  have hH : Hd D cA A s (pI σ38 rm 94 0) H locs := hH
  rw [← eσ39] at hH
  have hGσ39 : RG σ39 := by rw [eσ39]; exact hGσ38.pI (by unfold rng; omega)
  have hS : Shp dm ra jx rm σ39 := by rw [eσ39]; exact hS
  have hc : CB n0 s0 σ39 := by rw [eσ39]; exact hc
  rw [show gc σ38 = gc σ39 by rw [eσ39], show gs σ38 = gs σ39 by rw [eσ39]]
  refine lv_aload_n B.1 B.2.1 dX16_noRun_35 rfl (lv_at hl 0 rfl) ?_
  refine lv_lconst (v := 0) B.1 B.2.1 dX16_noRun_36 (by decide) ?_
  obtain ⟨σ40, eσ40⟩ : ∃ z, z = pJ σ39 rm 110 0 := ⟨_, rfl⟩
  have h := h σ40 eσ40
  refine r_putl B hH hS 110 (by decide) wf_X16_807 rfl rfl rfl rfl dX16_noRun_37 (fun H locs hH => ?_)
  have hH : Hd D cA A s (pJ σ39 rm 110 0) H locs := hH
  rw [← eσ40] at hH
  have hGσ40 : RG σ40 := by rw [eσ40]; exact hGσ39.pJ
  have hS : Shp dm ra jx rm σ40 := by rw [eσ40]; exact hS
  have hc : CB n0 s0 σ40 := by rw [eσ40]; exact hc
  rw [show gc σ39 = gc σ40 by rw [eσ40], show gs σ39 = gs σ40 by rw [eσ40]]
  refine lv_aload_n B.1 B.2.1 dX16_noRun_40 rfl (lv_at hl 0 rfl) ?_
  refine lv_lconst (v := 0) B.1 B.2.1 dX16_noRun_41 (by decide) ?_
  obtain ⟨σ41, eσ41⟩ : ∃ z, z = pJ σ40 rm 111 0 := ⟨_, rfl⟩
  have h := h σ41 eσ41
  refine r_putl B hH hS 111 (by decide) wf_X16_826 rfl rfl rfl rfl dX16_noRun_42 (fun H locs hH => ?_)
  have hH : Hd D cA A s (pJ σ40 rm 111 0) H locs := hH
  rw [← eσ41] at hH
  have hGσ41 : RG σ41 := by rw [eσ41]; exact hGσ40.pJ
  have hS : Shp dm ra jx rm σ41 := by rw [eσ41]; exact hS
  have hc : CB n0 s0 σ41 := by rw [eσ41]; exact hc
  rw [show gc σ40 = gc σ41 by rw [eσ41], show gs σ40 = gs σ41 by rw [eσ41]]
  refine lv_aload_n B.1 B.2.1 dX16_noRun_45 rfl (lv_at hl 0 rfl) ?_
  refine lv_iconst (v := i32 0) B.1 B.2.1 dX16_noRun_46 (by decide) ?_
  obtain ⟨σ42, eσ42⟩ : ∃ z, z = pI σ41 rm 112 0 := ⟨_, rfl⟩
  have h := h σ42 eσ42
  refine r_puti B hH hS 112 (ty := .int) (by decide) wf_X16_837 rfl rfl rfl rfl rfl rfl dX16_noRun_47 (fun H locs hH => ?_)
  have hH : Hd D cA A s (pI σ41 rm 112 0) H locs := hH
  rw [← eσ42] at hH
  have hGσ42 : RG σ42 := by rw [eσ42]; exact hGσ41.pI (by unfold rng; omega)
  have hS : Shp dm ra jx rm σ42 := by rw [eσ42]; exact hS
  have hc : CB n0 s0 σ42 := by rw [eσ42]; exact hc
  rw [show gc σ41 = gc σ42 by rw [eσ42], show gs σ41 = gs σ42 by rw [eσ42]]
  refine lv_aload_n B.1 B.2.1 dX16_noRun_50 rfl (lv_at hl 0 rfl) ?_
  refine lv_iconst (v := i32 0) B.1 B.2.1 dX16_noRun_51 (by decide) ?_
  obtain ⟨σ43, eσ43⟩ : ∃ z, z = pI σ42 rm 27 0 := ⟨_, rfl⟩
  have h := h σ43 eσ43
  refine r_puti B hH hS 27 (ty := .int) (by decide) wf_X16_343 rfl rfl rfl rfl rfl rfl dX16_noRun_52 (fun H locs hH => ?_)
  have hH : Hd D cA A s (pI σ42 rm 27 0) H locs := hH
  rw [← eσ43] at hH
  have hGσ43 : RG σ43 := by rw [eσ43]; exact hGσ42.pI (by unfold rng; omega)
  have hS : Shp dm ra jx rm σ43 := by rw [eσ43]; exact hS
  have hc : CB n0 s0 σ43 := by rw [eσ43]; exact hc
  rw [show gc σ42 = gc σ43 by rw [eσ43], show gs σ42 = gs σ43 by rw [eσ43]]
  refine lv_aload_n B.1 B.2.1 dX16_noRun_55 rfl (lv_at hl 0 rfl) ?_
  refine r_arr B hH hS 98 (kd := 100) (n := 2) (by decide) (by decide) wf_X16_703 rfl rfl dX16_noRun_56 ?_
  refine lv_iconst (v := i32 0) B.1 B.2.1 dX16_noRun_59 (by decide) ?_
  refine lv_iconst (v := i32 0) B.1 B.2.1 dX16_noRun_60 (by decide) ?_
  obtain ⟨σ44, eσ44⟩ : ∃ z, z = pI σ43 (ra 98) 0 0 := ⟨_, rfl⟩
  have h := h σ44 eσ44
  refine x_iast B K.2.1 hH (hS.ar (k := 98) (kd := 100) (n := 2) (by decide)) (by decide) (by decide) dX16_noRun_61 (fun H locs hH => ?_)
  have hH : Hd D cA A s (pI σ43 (ra 98) 0 0) H locs := hH
  rw [← eσ44] at hH
  have hGσ44 : RG σ44 := by rw [eσ44]; exact hGσ43.pI (by unfold rng; omega)
  have hS : Shp dm ra jx rm σ44 := by rw [eσ44]; exact hS
  have hc : CB n0 s0 σ44 := by rw [eσ44]; exact hc
  rw [show gc σ43 = gc σ44 by rw [eσ44], show gs σ43 = gs σ44 by rw [eσ44]]
  refine lv_aload_n B.1 B.2.1 dX16_noRun_62 rfl (lv_at hl 0 rfl) ?_
  refine r_arr B hH hS 98 (kd := 100) (n := 2) (by decide) (by decide) wf_X16_703 rfl rfl dX16_noRun_63 ?_
  refine lv_iconst (v := i32 1) B.1 B.2.1 dX16_noRun_66 (by decide) ?_
  refine lv_iconst (v := i32 0) B.1 B.2.1 dX16_noRun_67 (by decide) ?_
  obtain ⟨σ45, eσ45⟩ : ∃ z, z = pI σ44 (ra 98) 1 0 := ⟨_, rfl⟩
  have h := h σ45 eσ45
  refine x_iast B K.2.1 hH (hS.ar (k := 98) (kd := 100) (n := 2) (by decide)) (by decide) (by decide) dX16_noRun_68 (fun H locs hH => ?_)
  have hH : Hd D cA A s (pI σ44 (ra 98) 1 0) H locs := hH
  rw [← eσ45] at hH
  have hGσ45 : RG σ45 := by rw [eσ45]; exact hGσ44.pI (by unfold rng; omega)
  have hS : Shp dm ra jx rm σ45 := by rw [eσ45]; exact hS
  have hc : CB n0 s0 σ45 := by rw [eσ45]; exact hc
  rw [show gc σ44 = gc σ45 by rw [eσ45], show gs σ44 = gs σ45 by rw [eσ45]]
  refine lv_aload_n B.1 B.2.1 dX16_noRun_69 rfl (lv_at hl 0 rfl) ?_
  refine c_V B hH hl hc K.2.2.1 (C := RX16) (T := TX16) (N := 123) (ci := 16) (As := []) (ok_X16_noHeld K.2.1 σ45 hGσ45 hS h) wc_X16_858 0 hd_X16_noHeld ⟨Nat.le_trans (Nat.le_of_ble_eq_true rfl) K.2.2.2.1, Nat.le_trans (Nat.le_of_ble_eq_true rfl) K.2.2.2.2.1⟩ hS.1.1 hS.1.2 (by decide) rfl rfl (rest := []) rfl (Nat.le_of_ble_eq_true rfl) dX16_noRun_70 (fun σ46 w hq => ?_) (fun σ9 E9 hx9 => hX σ9 E9 _ _ _ (tb_out K.2.2.2.2.2 rfl) hx9.1 hx9.2.1 hx9.2.2)
  obtain ⟨rfl, h, hGσ46, hS⟩ := hq
  intro H locs ls hH hl hc
  refine W.eq (g2 := F0 m 73 ls []) (rfl) ?_
  try dsimp only at h
  refine lv_aload_n B.1 B.2.1 dX16_noRun_73 rfl (lv_at hl 0 rfl) ?_
  refine c_V B hH hl hc K.2.2.1 (C := RX16) (T := TX16) (N := 123) (ci := 16) (As := []) (ok_X16_noRecords K.2.1 σ46 hGσ46 hS h) wc_X16_834 0 hd_X16_noRecords ⟨Nat.le_trans (Nat.le_of_ble_eq_true rfl) K.2.2.2.1, Nat.le_trans (Nat.le_of_ble_eq_true rfl) K.2.2.2.2.1⟩ hS.1.1 hS.1.2 (by decide) rfl rfl (rest := []) rfl (Nat.le_of_ble_eq_true rfl) dX16_noRun_74 (fun σ47 w hq => ?_) (fun σ9 E9 hx9 => hX σ9 E9 _ _ _ (tb_out K.2.2.2.2.2 rfl) hx9.1 hx9.2.1 hx9.2.2)
  obtain ⟨rfl, h, hGσ47, hS⟩ := hq
  intro H locs ls hH hl hc
  refine W.eq (g2 := F0 m 77 ls []) (rfl) ?_
  try dsimp only at h
  refine lv_aload_n B.1 B.2.1 dX16_noRun_77 rfl (lv_at hl 0 rfl) ?_
  refine c_V B hH hl hc K.2.2.1 (C := RX16) (T := TX16) (N := 123) (ci := 16) (As := []) (ok_X16_empty K.2.1 σ47 hGσ47 hS h) wc_X16_843 0 hd_X16_empty ⟨Nat.le_trans (Nat.le_of_ble_eq_true rfl) K.2.2.2.1, Nat.le_trans (Nat.le_of_ble_eq_true rfl) K.2.2.2.2.1⟩ hS.1.1 hS.1.2 (by decide) rfl rfl (rest := []) rfl (Nat.le_of_ble_eq_true rfl) dX16_noRun_78 (fun σ48 w hq => ?_) (fun σ9 E9 hx9 => hX σ9 E9 _ _ _ (tb_out K.2.2.2.2.2 rfl) hx9.1 hx9.2.1 hx9.2.2)
  obtain ⟨rfl, h, hGσ48, hS⟩ := hq
  intro H locs ls hH hl hc
  refine W.eq (g2 := F0 m 81 ls []) (rfl) ?_
  try dsimp only at h
  exact hQ _ _ _ _ _ dX16_noRun_81 hH hc h hGσ48 hS
theorem ok_X16_noRun (hT : Tys cA tys) {Q : Sg → Unit → Prop} {X : Sg → String → Prop} (σ : Sg) (hG : RG σ) (hS : Shp dm ra jx rm σ) (h : wp_X16_noRun ra jx rm σ Q X) : Ok l D cA tys A yX16_noRun (.code yX16_noRun cX16_noRun 1 none) 1 21 [.ref rm] σ (QnV dm ra jx rm Q) (QxR dm ra jx rm X) := by
  unfold wp_X16_noRun at h
  exact ok_V (plainFor_of_name (by decide)) (by exact Nat.le_of_ble_eq_true rfl) hT (fun p e R s m args below meth c K hQ hX H locs ls hH hl hc => a_X16_noRun_0 K hQ hX σ h hG hS H locs ls hH (lv_sub (l' := [(0, .ref rm)]) hl [0] rfl) hc)
theorem dX16_clear_0 : decode cX16_clear 0 = .ok (.aload_n 0, 1) := by decide +kernel
theorem dX16_clear_1 : decode cX16_clear 1 = .ok (.iconst 0, 1) := by decide +kernel
theorem dX16_clear_2 : decode cX16_clear 2 = .ok (.putfield 1, 3) := by decide +kernel
theorem dX16_clear_5 : decode cX16_clear 5 = .ok (.aload_n 0, 1) := by decide +kernel
theorem dX16_clear_6 : decode cX16_clear 6 = .ok (.iconst 0, 1) := by decide +kernel
theorem dX16_clear_7 : decode cX16_clear 7 = .ok (.putfield 972, 3) := by decide +kernel
theorem dX16_clear_10 : decode cX16_clear 10 = .ok (.aload_n 0, 1) := by decide +kernel
theorem dX16_clear_11 : decode cX16_clear 11 = .ok (.iconst 0, 1) := by decide +kernel
theorem dX16_clear_12 : decode cX16_clear 12 = .ok (.putfield 7, 3) := by decide +kernel
theorem dX16_clear_15 : decode cX16_clear 15 = .ok (.aload_n 0, 1) := by decide +kernel
theorem dX16_clear_16 : decode cX16_clear 16 = .ok (.aconst_null, 1) := by decide +kernel
theorem dX16_clear_17 : decode cX16_clear 17 = .ok (.putfield 356, 3) := by decide +kernel
theorem dX16_clear_20 : decode cX16_clear 20 = .ok (.aload_n 0, 1) := by decide +kernel
theorem dX16_clear_21 : decode cX16_clear 21 = .ok (.iconst 0, 1) := by decide +kernel
theorem dX16_clear_22 : decode cX16_clear 22 = .ok (.putfield 688, 3) := by decide +kernel
theorem dX16_clear_25 : decode cX16_clear 25 = .ok (.aload_n 0, 1) := by decide +kernel
theorem dX16_clear_26 : decode cX16_clear 26 = .ok (.iconst (-1), 1) := by decide +kernel
theorem dX16_clear_27 : decode cX16_clear 27 = .ok (.putfield 685, 3) := by decide +kernel
theorem dX16_clear_30 : decode cX16_clear 30 = .ok (.iconst 0, 1) := by decide +kernel
theorem dX16_clear_31 : decode cX16_clear 31 = .ok (.istore_n 1, 1) := by decide +kernel
theorem dX16_clear_32 : decode cX16_clear 32 = .ok (.iload_n 1, 1) := by decide +kernel
theorem dX16_clear_33 : decode cX16_clear 33 = .ok (.iconst 4, 1) := by decide +kernel
theorem dX16_clear_34 : decode cX16_clear 34 = .ok (.if_icmp .ge 23, 3) := by decide +kernel
theorem dX16_clear_37 : decode cX16_clear 37 = .ok (.aload_n 0, 1) := by decide +kernel
theorem dX16_clear_38 : decode cX16_clear 38 = .ok (.getfield 763, 3) := by decide +kernel
theorem dX16_clear_41 : decode cX16_clear 41 = .ok (.iload_n 1, 1) := by decide +kernel
theorem dX16_clear_42 : decode cX16_clear 42 = .ok (.iconst 0, 1) := by decide +kernel
theorem dX16_clear_43 : decode cX16_clear 43 = .ok (.iastore, 1) := by decide +kernel
theorem dX16_clear_44 : decode cX16_clear 44 = .ok (.aload_n 0, 1) := by decide +kernel
theorem dX16_clear_45 : decode cX16_clear 45 = .ok (.getfield 779, 3) := by decide +kernel
theorem dX16_clear_48 : decode cX16_clear 48 = .ok (.iload_n 1, 1) := by decide +kernel
theorem dX16_clear_49 : decode cX16_clear 49 = .ok (.iconst 0, 1) := by decide +kernel
theorem dX16_clear_50 : decode cX16_clear 50 = .ok (.bastore, 1) := by decide +kernel
theorem dX16_clear_51 : decode cX16_clear 51 = .ok (.iinc 1 1, 3) := by decide +kernel
theorem dX16_clear_54 : decode cX16_clear 54 = .ok (.goto (-22), 3) := by decide +kernel
theorem dX16_clear_57 : decode cX16_clear 57 = .ok (.aload_n 0, 1) := by decide +kernel
theorem dX16_clear_58 : decode cX16_clear 58 = .ok (.invokevirtual 979, 3) := by decide +kernel
theorem dX16_clear_61 : decode cX16_clear 61 = .ok (.return_, 1) := by decide +kernel
set_option maxRecDepth 20000 in
theorem a_X16_clear_57 {Q : Sg → Unit → Prop} {X : Sg → String → Prop} (K : MC R p s m args c cX16_clear 2 RX16 D cA tys A n0 s0 2 41 []) (hQ : HQV p l e R s m args below meth c cX16_clear D cA A n0 s0 QM dm ra jx rm Q) (hX : HX p l e R s m args below meth c 2 D cA A n0 s0 QM dm ra jx rm X) : ∀ (σ : Sg), w_X16_clear_57 ra jx rm Q X σ → RG σ → Shp dm ra jx rm σ → JJ p l e R s m args below meth c 2 D cA A n0 s0 QM σ 57 [(0, .ref rm)] [] := by
  intro σ h hGσ hS H locs ls hH hl hc
  have B := K.1
  unfold w_X16_clear_57 at h
  refine lv_aload_n B.1 B.2.1 dX16_clear_57 rfl (lv_at hl 0 rfl) ?_
  refine c_V B hH hl hc K.2.2.1 (C := RX16) (T := TX16) (N := 123) (ci := 16) (As := []) (ok_X16_noRun K.2.1 σ hGσ hS h) wc_X16_979 0 hd_X16_noRun ⟨Nat.le_trans (Nat.le_of_ble_eq_true rfl) K.2.2.2.1, Nat.le_trans (Nat.le_of_ble_eq_true rfl) K.2.2.2.2.1⟩ hS.1.1 hS.1.2 (by decide) rfl rfl (rest := []) rfl (Nat.le_of_ble_eq_true rfl) dX16_clear_58 (fun σ19 w hq => ?_) (fun σ9 E9 hx9 => hX σ9 E9 _ _ _ (tb_out K.2.2.2.2.2 rfl) hx9.1 hx9.2.1 hx9.2.2)
  obtain ⟨rfl, h, hGσ19, hS⟩ := hq
  intro H locs ls hH hl hc
  refine W.eq (g2 := F0 m 61 ls []) (rfl) ?_
  try dsimp only at h
  exact hQ _ _ _ _ _ dX16_clear_61 hH hc h hGσ19 hS
set_option maxRecDepth 20000 in
theorem a_X16_clear_37 {Q : Sg → Unit → Prop} {X : Sg → String → Prop} (K : MC R p s m args c cX16_clear 2 RX16 D cA tys A n0 s0 2 41 []) (hQ : HQV p l e R s m args below meth c cX16_clear D cA A n0 s0 QM dm ra jx rm Q) (hX : HX p l e R s m args below meth c 2 D cA A n0 s0 QM dm ra jx rm X) {K32 : Sg → Int → Prop} (hK32 : ∀ (σ : Sg) (v1 : Int) (g1 : rng v1), K32 σ v1 → RG σ → Shp dm ra jx rm σ → JJ p l e R s m args below meth c 2 D cA A n0 s0 QM σ 32 [(0, .ref rm), (1, .int (i32 v1))] []) : ∀ (σ : Sg) (v1 : Int) (g1 : rng v1), w_X16_clear_37 ra jx rm K32 Q X σ v1 → RG σ → Shp dm ra jx rm σ → JJ p l e R s m args below meth c 2 D cA A n0 s0 QM σ 37 [(0, .ref rm), (1, .int (i32 v1))] [] := by
  intro σ v1 g1 h hGσ hS H locs ls hH hl hc
  have B := K.1
  unfold w_X16_clear_37 at h
  refine lv_aload_n B.1 B.2.1 dX16_clear_37 rfl (lv_at hl 0 rfl) ?_
  refine r_arr B hH hS 22 (kd := 100) (n := 4) (by decide) (by decide) wf_X16_763 rfl rfl dX16_clear_38 ?_
  refine lv_iload_n B.1 B.2.1 dX16_clear_41 rfl (lv_at hl 1 rfl) ?_
  refine lv_iconst (v := i32 0) B.1 B.2.1 dX16_clear_42 (by decide) ?_
  obtain ⟨q1, h⟩ := h
  obtain ⟨σ20, eσ20⟩ : ∃ z, z = pI σ (ra 22) v1.toNat 0 := ⟨_, rfl⟩
  have h := h σ20 eσ20
  refine x_iast B K.2.1 hH (hS.ar (k := 22) (kd := 100) (n := 4) (by decide)) (by decide) q1 dX16_clear_43 (fun H locs hH => ?_)
  have hH : Hd D cA A s (pI σ (ra 22) v1.toNat 0) H locs := hH
  rw [← eσ20] at hH
  have hGσ20 : RG σ20 := by rw [eσ20]; exact hGσ.pI (by unfold rng; omega)
  have hS : Shp dm ra jx rm σ20 := by rw [eσ20]; exact hS
  have hc : CB n0 s0 σ20 := by rw [eσ20]; exact hc
  rw [show gc σ = gc σ20 by rw [eσ20], show gs σ = gs σ20 by rw [eσ20]]
  refine lv_aload_n B.1 B.2.1 dX16_clear_44 rfl (lv_at hl 0 rfl) ?_
  refine r_arr B hH hS 25 (kd := 103) (n := 4) (by decide) (by decide) wf_X16_779 rfl rfl dX16_clear_45 ?_
  refine lv_iload_n B.1 B.2.1 dX16_clear_48 rfl (lv_at hl 1 rfl) ?_
  refine lv_iconst (v := i32 0) B.1 B.2.1 dX16_clear_49 (by decide) ?_
  obtain ⟨q3, h⟩ := h
  obtain ⟨σ21, eσ21⟩ : ∃ z, z = pI σ20 (ra 25) v1.toNat (nZ 0) := ⟨_, rfl⟩
  have h := h σ21 eσ21
  refine x_zast B K.2.1 hH (hS.ar (k := 25) (kd := 103) (n := 4) (by decide)) (by decide) q3 dX16_clear_50 (fun H locs hH => ?_)
  have hH : Hd D cA A s (pI σ20 (ra 25) v1.toNat (nZ 0)) H locs := hH
  rw [← eσ21] at hH
  have hGσ21 : RG σ21 := by rw [eσ21]; exact hGσ20.pI (rng_toInt _)
  have hS : Shp dm ra jx rm σ21 := by rw [eσ21]; exact hS
  have hc : CB n0 s0 σ21 := by rw [eσ21]; exact hc
  rw [show gc σ20 = gc σ21 by rw [eσ21], show gs σ20 = gs σ21 by rw [eσ21]]
  obtain ⟨q5, h⟩ := h
  refine lv_iinc (k := 1) (v := i32 (v1 + 1)) (lv' := [(1, .int (i32 (v1 + 1))), (0, .ref rm)]) B.1 B.2.1 dX16_clear_51 hl rfl (i32_add _ _) (by decide) rfl (fun ls hl => ?_)
  refine lv_goto (tgt := 32) B.1 B.2.1 dX16_clear_54 (by decide) ?_
  exact hK32 _ _ q5 h hGσ21 hS _ _ _ hH (lv_sub (l' := [(0, .ref rm), (1, .int (i32 (v1 + 1)))]) hl [1, 0] rfl) hc
set_option maxRecDepth 20000 in
theorem a_X16_clear_32 {Q : Sg → Unit → Prop} {X : Sg → String → Prop} (K : MC R p s m args c cX16_clear 2 RX16 D cA tys A n0 s0 2 41 []) (hQ : HQV p l e R s m args below meth c cX16_clear D cA A n0 s0 QM dm ra jx rm Q) (hX : HX p l e R s m args below meth c 2 D cA A n0 s0 QM dm ra jx rm X) {K32 : Sg → Int → Prop} (hK32 : ∀ (σ : Sg) (v1 : Int) (g1 : rng v1), K32 σ v1 → RG σ → Shp dm ra jx rm σ → JJ p l e R s m args below meth c 2 D cA A n0 s0 QM σ 32 [(0, .ref rm), (1, .int (i32 v1))] []) : ∀ (σ : Sg) (v1 : Int) (g1 : rng v1), w_X16_clear_32 ra jx rm K32 Q X σ v1 → RG σ → Shp dm ra jx rm σ → JJ p l e R s m args below meth c 2 D cA A n0 s0 QM σ 32 [(0, .ref rm), (1, .int (i32 v1))] [] := by
  intro σ v1 g1 h hGσ hS H locs ls hH hl hc
  have B := K.1
  unfold w_X16_clear_32 at h
  refine lv_iload_n B.1 B.2.1 dX16_clear_32 rfl (lv_at hl 1 rfl) ?_
  refine lv_iconst (v := i32 4) B.1 B.2.1 dX16_clear_33 (by decide) ?_
  refine lv_icmp_ge (tgt := 57) B.1 B.2.1 dX16_clear_34 (by decide) (fun h9 => ?_) (fun h9 => ?_)
  · rw [if_pos ((i32_le (by unfold rng; omega) g1).mp h9)] at h
    exact a_X16_clear_57 K hQ hX _ h hGσ hS _ _ _ hH (lv_sub (l' := [(0, .ref rm)]) hl [0] rfl) hc
  · rw [if_neg (fun q => h9 ((i32_le (by unfold rng; omega) g1).mpr q))] at h
    exact a_X16_clear_37 K hQ hX hK32 _ _ g1 h hGσ hS _ _ _ hH (lv_sub (l' := [(0, .ref rm), (1, .int (i32 v1))]) hl [0, 1] rfl) hc
theorem al_X16_clear_32 {Q : Sg → Unit → Prop} {X : Sg → String → Prop} (K : MC R p s m args c cX16_clear 2 RX16 D cA tys A n0 s0 2 41 []) (hQ : HQV p l e R s m args below meth c cX16_clear D cA A n0 s0 QM dm ra jx rm Q) (hX : HX p l e R s m args below meth c 2 D cA A n0 s0 QM dm ra jx rm X) : ∀ (n : Nat), ∀ (σ : Sg) (v1 : Int) (g1 : rng v1), wl_X16_clear_32 ra jx rm Q X n σ v1 → RG σ → Shp dm ra jx rm σ → JJ p l e R s m args below meth c 2 D cA A n0 s0 QM σ 32 [(0, .ref rm), (1, .int (i32 v1))] [] := by
  intro n
  induction n with
  | zero => intro σ v1 g1 h; exact h.elim
  | succ n ih => exact fun σ v1 g1 h => a_X16_clear_32 K hQ hX ih σ v1 g1 h
set_option maxRecDepth 20000 in
theorem a_X16_clear_0 {Q : Sg → Unit → Prop} {X : Sg → String → Prop} (K : MC R p s m args c cX16_clear 2 RX16 D cA tys A n0 s0 2 41 []) (hQ : HQV p l e R s m args below meth c cX16_clear D cA A n0 s0 QM dm ra jx rm Q) (hX : HX p l e R s m args below meth c 2 D cA A n0 s0 QM dm ra jx rm X) : ∀ (σ : Sg), w_X16_clear_0 ra jx rm Q X σ → RG σ → Shp dm ra jx rm σ → JJ p l e R s m args below meth c 2 D cA A n0 s0 QM σ 0 [(0, .ref rm)] [] := by
  intro σ h hGσ hS H locs ls hH hl hc
  have B := K.1
  unfold w_X16_clear_0 at h
  refine lv_aload_n B.1 B.2.1 dX16_clear_0 rfl (lv_at hl 0 rfl) ?_
  refine lv_iconst (v := i32 0) B.1 B.2.1 dX16_clear_1 (by decide) ?_
  obtain ⟨σ22, eσ22⟩ : ∃ z, z = pI σ rm 0 0 := ⟨_, rfl⟩
  have h := h σ22 eσ22
  refine r_puti B hH hS 0 (ty := .int) (by decide) wf_X16_1 rfl rfl rfl rfl rfl rfl dX16_clear_2 (fun H locs hH => ?_)
  have hH : Hd D cA A s (pI σ rm 0 0) H locs := hH
  rw [← eσ22] at hH
  have hGσ22 : RG σ22 := by rw [eσ22]; exact hGσ.pI (by unfold rng; omega)
  have hS : Shp dm ra jx rm σ22 := by rw [eσ22]; exact hS
  have hc : CB n0 s0 σ22 := by rw [eσ22]; exact hc
  rw [show gc σ = gc σ22 by rw [eσ22], show gs σ = gs σ22 by rw [eσ22]]
  refine lv_aload_n B.1 B.2.1 dX16_clear_5 rfl (lv_at hl 0 rfl) ?_
  refine lv_iconst (v := i32 0) B.1 B.2.1 dX16_clear_6 (by decide) ?_
  obtain ⟨σ23, eσ23⟩ : ∃ z, z = pI σ22 rm 3 0 := ⟨_, rfl⟩
  have h := h σ23 eσ23
  refine r_puti B hH hS 3 (ty := .int) (by decide) wf_X16_972 rfl rfl rfl rfl rfl rfl dX16_clear_7 (fun H locs hH => ?_)
  have hH : Hd D cA A s (pI σ22 rm 3 0) H locs := hH
  rw [← eσ23] at hH
  have hGσ23 : RG σ23 := by rw [eσ23]; exact hGσ22.pI (by unfold rng; omega)
  have hS : Shp dm ra jx rm σ23 := by rw [eσ23]; exact hS
  have hc : CB n0 s0 σ23 := by rw [eσ23]; exact hc
  rw [show gc σ22 = gc σ23 by rw [eσ23], show gs σ22 = gs σ23 by rw [eσ23]]
  refine lv_aload_n B.1 B.2.1 dX16_clear_10 rfl (lv_at hl 0 rfl) ?_
  refine lv_iconst (v := i32 0) B.1 B.2.1 dX16_clear_11 (by decide) ?_
  obtain ⟨σ24, eσ24⟩ : ∃ z, z = pI σ23 rm 4 0 := ⟨_, rfl⟩
  have h := h σ24 eσ24
  refine r_puti B hH hS 4 (ty := .int) (by decide) wf_X16_7 rfl rfl rfl rfl rfl rfl dX16_clear_12 (fun H locs hH => ?_)
  have hH : Hd D cA A s (pI σ23 rm 4 0) H locs := hH
  rw [← eσ24] at hH
  have hGσ24 : RG σ24 := by rw [eσ24]; exact hGσ23.pI (by unfold rng; omega)
  have hS : Shp dm ra jx rm σ24 := by rw [eσ24]; exact hS
  have hc : CB n0 s0 σ24 := by rw [eσ24]; exact hc
  rw [show gc σ23 = gc σ24 by rw [eσ24], show gs σ23 = gs σ24 by rw [eσ24]]
  refine lv_aload_n B.1 B.2.1 dX16_clear_15 rfl (lv_at hl 0 rfl) ?_
  refine lv_null B.1 B.2.1 dX16_clear_16 ?_
  obtain ⟨σ25, eσ25⟩ : ∃ z, z = pP σ24 rm 17 none := ⟨_, rfl⟩
  have h := h σ25 eσ25
  refine W.eq (g2 := F0 m 17 ls [va_rf none, .ref rm]) (rfl) ?_
  refine r_putq B hH hS 17 (r := none) (by decide) wf_X16_356 rfl rfl rfl rfl dX16_clear_17 (fun H locs hH => ?_)
  have hH : Hd D cA A s (pP σ24 rm 17 none) H locs := hH
  rw [← eσ25] at hH
  have hGσ25 : RG σ25 := by rw [eσ25]; exact hGσ24.pP
  have hS : Shp dm ra jx rm σ25 := by rw [eσ25]; exact hS.pP (by decide)
  have hc : CB n0 s0 σ25 := by rw [eσ25]; exact hc
  rw [show gc σ24 = gc σ25 by rw [eσ25], show gs σ24 = gs σ25 by rw [eσ25]]
  refine lv_aload_n B.1 B.2.1 dX16_clear_20 rfl (lv_at hl 0 rfl) ?_
  refine lv_iconst (v := i32 0) B.1 B.2.1 dX16_clear_21 (by decide) ?_
  obtain ⟨σ26, eσ26⟩ : ∃ z, z = pI σ25 rm 32 0 := ⟨_, rfl⟩
  have h := h σ26 eσ26
  refine r_puti B hH hS 32 (ty := .boolean) (by decide) wf_X16_688 rfl rfl rfl rfl rfl rfl dX16_clear_22 (fun H locs hH => ?_)
  have hH : Hd D cA A s (pI σ25 rm 32 0) H locs := hH
  rw [← eσ26] at hH
  have hGσ26 : RG σ26 := by rw [eσ26]; exact hGσ25.pI (by unfold rng; omega)
  have hS : Shp dm ra jx rm σ26 := by rw [eσ26]; exact hS
  have hc : CB n0 s0 σ26 := by rw [eσ26]; exact hc
  rw [show gc σ25 = gc σ26 by rw [eσ26], show gs σ25 = gs σ26 by rw [eσ26]]
  refine lv_aload_n B.1 B.2.1 dX16_clear_25 rfl (lv_at hl 0 rfl) ?_
  refine lv_iconst (v := i32 (-1)) B.1 B.2.1 dX16_clear_26 (by decide) ?_
  obtain ⟨σ27, eσ27⟩ : ∃ z, z = pI σ26 rm 96 (-1) := ⟨_, rfl⟩
  have h := h σ27 eσ27
  refine r_puti B hH hS 96 (ty := .int) (by decide) wf_X16_685 rfl rfl rfl rfl rfl rfl dX16_clear_27 (fun H locs hH => ?_)
  have hH : Hd D cA A s (pI σ26 rm 96 (-1)) H locs := hH
  rw [← eσ27] at hH
  have hGσ27 : RG σ27 := by rw [eσ27]; exact hGσ26.pI (by unfold rng; omega)
  have hS : Shp dm ra jx rm σ27 := by rw [eσ27]; exact hS
  have hc : CB n0 s0 σ27 := by rw [eσ27]; exact hc
  rw [show gc σ26 = gc σ27 by rw [eσ27], show gs σ26 = gs σ27 by rw [eσ27]]
  refine lv_iconst (v := i32 0) B.1 B.2.1 dX16_clear_30 (by decide) ?_
  refine lv_istore_n (lv' := [(1, .int (i32 0)), (0, .ref rm)]) B.1 B.2.1 dX16_clear_31 rfl hl (by decide) rfl (fun ls hl => ?_)
  obtain ⟨n9, h⟩ := h
  exact al_X16_clear_32 K hQ hX n9 _ _ (by unfold rng; omega) h hGσ27 hS _ _ _ hH (lv_sub (l' := [(0, .ref rm), (1, .int (i32 0))]) hl [1, 0] rfl) hc
theorem ok_X16_clear (hT : Tys cA tys) {Q : Sg → Unit → Prop} {X : Sg → String → Prop} (σ : Sg) (hG : RG σ) (hS : Shp dm ra jx rm σ) (h : wp_X16_clear ra jx rm σ Q X) : Ok l D cA tys A yX16_clear (.code yX16_clear cX16_clear 2 none) 2 41 [.ref rm] σ (QnV dm ra jx rm Q) (QxR dm ra jx rm X) := by
  unfold wp_X16_clear at h
  exact ok_V (plainFor_of_name (by decide)) (by exact Nat.le_of_ble_eq_true rfl) hT (fun p e R s m args below meth c K hQ hX H locs ls hH hl hc => a_X16_clear_0 K hQ hX σ h hG hS H locs ls hH (lv_sub (l' := [(0, .ref rm)]) hl [0] rfl) hc)
theorem dX16_hasSource_0 : decode cX16_hasSource 0 = .ok (.aload_n 0, 1) := by decide +kernel
theorem dX16_hasSource_1 : decode cX16_hasSource 1 = .ok (.getfield 356, 3) := by decide +kernel
theorem dX16_hasSource_4 : decode cX16_hasSource 4 = .ok (.ifnull 20, 3) := by decide +kernel
theorem dX16_hasSource_7 : decode cX16_hasSource 7 = .ok (.aload_n 0, 1) := by decide +kernel
theorem dX16_hasSource_8 : decode cX16_hasSource 8 = .ok (.getfield 356, 3) := by decide +kernel
theorem dX16_hasSource_11 : decode cX16_hasSource 11 = .ok (.getfield 188, 3) := by decide +kernel
theorem dX16_hasSource_14 : decode cX16_hasSource 14 = .ok (.iload_n 1, 1) := by decide +kernel
theorem dX16_hasSource_15 : decode cX16_hasSource 15 = .ok (.iaload, 1) := by decide +kernel
theorem dX16_hasSource_16 : decode cX16_hasSource 16 = .ok (.iconst (-1), 1) := by decide +kernel
theorem dX16_hasSource_17 : decode cX16_hasSource 17 = .ok (.if_icmp .eq 7, 3) := by decide +kernel
theorem dX16_hasSource_20 : decode cX16_hasSource 20 = .ok (.iconst 1, 1) := by decide +kernel
theorem dX16_hasSource_21 : decode cX16_hasSource 21 = .ok (.goto 4, 3) := by decide +kernel
theorem dX16_hasSource_24 : decode cX16_hasSource 24 = .ok (.iconst 0, 1) := by decide +kernel
theorem dX16_hasSource_25 : decode cX16_hasSource 25 = .ok (.ireturn, 1) := by decide +kernel
set_option maxRecDepth 20000 in
theorem a_X16_hasSource_25 {Q : Sg → Int → Prop} {X : Sg → String → Prop} (K : MC R p s m args c cX16_hasSource 2 RX16 D cA tys A n0 s0 0 0 []) (hQ : HQZ p l e R s m args below meth c cX16_hasSource D cA A n0 s0 QM dm ra jx rm Q) (hX : HX p l e R s m args below meth c 2 D cA A n0 s0 QM dm ra jx rm X) : ∀ (σ : Sg) (u0 : Int) (gu0 : rng u0), w_X16_hasSource_25 ra jx rm Q X σ u0 → RG σ → Shp dm ra jx rm σ → JJ p l e R s m args below meth c 2 D cA A n0 s0 QM σ 25 [(0, .ref rm)] [.int (i32 u0)] := by
  intro σ u0 gu0 h hGσ hS H locs ls hH hl hc
  have B := K.1
  unfold w_X16_hasSource_25 at h
  obtain ⟨qz, h⟩ := h
  exact hQ _ _ _ _ _ _ gu0 qz dX16_hasSource_25 hH hc h hGσ hS
set_option maxRecDepth 20000 in
theorem a_X16_hasSource_24 {Q : Sg → Int → Prop} {X : Sg → String → Prop} (K : MC R p s m args c cX16_hasSource 2 RX16 D cA tys A n0 s0 0 0 []) (hQ : HQZ p l e R s m args below meth c cX16_hasSource D cA A n0 s0 QM dm ra jx rm Q) (hX : HX p l e R s m args below meth c 2 D cA A n0 s0 QM dm ra jx rm X) : ∀ (σ : Sg), w_X16_hasSource_24 ra jx rm Q X σ → RG σ → Shp dm ra jx rm σ → JJ p l e R s m args below meth c 2 D cA A n0 s0 QM σ 24 [(0, .ref rm)] [] := by
  intro σ h hGσ hS H locs ls hH hl hc
  have B := K.1
  unfold w_X16_hasSource_24 at h
  refine lv_iconst (v := i32 0) B.1 B.2.1 dX16_hasSource_24 (by decide) ?_
  exact a_X16_hasSource_25 K hQ hX _ _ (by unfold rng; omega) h hGσ hS _ _ _ hH (lv_sub (l' := [(0, .ref rm)]) hl [0] rfl) hc
set_option maxRecDepth 20000 in
theorem a_X16_hasSource_20 {Q : Sg → Int → Prop} {X : Sg → String → Prop} (K : MC R p s m args c cX16_hasSource 2 RX16 D cA tys A n0 s0 0 0 []) (hQ : HQZ p l e R s m args below meth c cX16_hasSource D cA A n0 s0 QM dm ra jx rm Q) (hX : HX p l e R s m args below meth c 2 D cA A n0 s0 QM dm ra jx rm X) : ∀ (σ : Sg), w_X16_hasSource_20 ra jx rm Q X σ → RG σ → Shp dm ra jx rm σ → JJ p l e R s m args below meth c 2 D cA A n0 s0 QM σ 20 [(0, .ref rm)] [] := by
  intro σ h hGσ hS H locs ls hH hl hc
  have B := K.1
  unfold w_X16_hasSource_20 at h
  refine lv_iconst (v := i32 1) B.1 B.2.1 dX16_hasSource_20 (by decide) ?_
  refine lv_goto (tgt := 25) B.1 B.2.1 dX16_hasSource_21 (by decide) ?_
  exact a_X16_hasSource_25 K hQ hX _ _ (by unfold rng; omega) h hGσ hS _ _ _ hH (lv_sub (l' := [(0, .ref rm)]) hl [0] rfl) hc
set_option maxRecDepth 20000 in
theorem a_X16_hasSource_7 {Q : Sg → Int → Prop} {X : Sg → String → Prop} (K : MC R p s m args c cX16_hasSource 2 RX16 D cA tys A n0 s0 0 0 []) (hQ : HQZ p l e R s m args below meth c cX16_hasSource D cA A n0 s0 QM dm ra jx rm Q) (hX : HX p l e R s m args below meth c 2 D cA A n0 s0 QM dm ra jx rm X) : ∀ (σ : Sg) (v1 : Int) (g1 : rng v1), w_X16_hasSource_7 ra jx rm Q X σ v1 → RG σ → Shp dm ra jx rm σ → JJ p l e R s m args below meth c 2 D cA A n0 s0 QM σ 7 [(0, .ref rm), (1, .int (i32 v1))] [] := by
  intro σ v1 g1 h hGσ hS H locs ls hH hl hc
  have B := K.1
  unfold w_X16_hasSource_7 at h
  refine lv_aload_n B.1 B.2.1 dX16_hasSource_7 rfl (lv_at hl 0 rfl) ?_
  refine r_getp B hH hS 17 (by decide) wf_X16_356 rfl rfl dX16_hasSource_8 ?_
  obtain ⟨a3, ea3, ja3, h⟩ := h
  refine W.eq (g2 := F0 m 11 ls [.ref a3]) (by rw [ea3]; rfl) ?_
  refine n_arr B hH hS ja3 18 (kd := 100) (n := 4) (by decide) (by decide) (List.mem_of_getElem? (i := 18) rfl) rfl dX16_hasSource_11 ?_
  refine lv_iload_n B.1 B.2.1 dX16_hasSource_14 rfl (lv_at hl 1 rfl) ?_
  obtain ⟨q2, h⟩ := h
  refine x_iald B K.2.1 hH (hS.ja ja3 (k := 18) (kd := 100) (n := 4) (by decide)) (by decide) q2 dX16_hasSource_15 ?_
  refine lv_iconst (v := i32 (-1)) B.1 B.2.1 dX16_hasSource_16 (by decide) ?_
  refine lv_icmp_eq (tgt := 24) B.1 B.2.1 dX16_hasSource_17 (by decide) (fun h9 => ?_) (fun h9 => ?_)
  · rw [if_pos ((i32_eq (hGσ _ _) (by unfold rng; omega)).mp h9)] at h
    exact a_X16_hasSource_24 K hQ hX _ h hGσ hS _ _ _ hH (lv_sub (l' := [(0, .ref rm)]) hl [0] rfl) hc
  · rw [if_neg (fun q => h9 ((i32_eq (hGσ _ _) (by unfold rng; omega)).mpr q))] at h
    exact a_X16_hasSource_20 K hQ hX _ h hGσ hS _ _ _ hH (lv_sub (l' := [(0, .ref rm)]) hl [0] rfl) hc
set_option maxRecDepth 20000 in
theorem a_X16_hasSource_0 {Q : Sg → Int → Prop} {X : Sg → String → Prop} (K : MC R p s m args c cX16_hasSource 2 RX16 D cA tys A n0 s0 0 0 []) (hQ : HQZ p l e R s m args below meth c cX16_hasSource D cA A n0 s0 QM dm ra jx rm Q) (hX : HX p l e R s m args below meth c 2 D cA A n0 s0 QM dm ra jx rm X) : ∀ (σ : Sg) (v1 : Int) (g1 : rng v1), w_X16_hasSource_0 ra jx rm Q X σ v1 → RG σ → Shp dm ra jx rm σ → JJ p l e R s m args below meth c 2 D cA A n0 s0 QM σ 0 [(0, .ref rm), (1, .int (i32 v1))] [] := by
  intro σ v1 g1 h hGσ hS H locs ls hH hl hc
  have B := K.1
  unfold w_X16_hasSource_0 at h
  refine lv_aload_n B.1 B.2.1 dX16_hasSource_0 rfl (lv_at hl 0 rfl) ?_
  refine r_getp B hH hS 17 (by decide) wf_X16_356 rfl rfl dX16_hasSource_1 ?_
  refine lv_ifnullQ (tgt := 24) B.1 B.2.1 dX16_hasSource_4 (by decide) (fun h9 => ?_) (fun h9 => ?_)
  · rw [if_pos (h9)] at h
    exact a_X16_hasSource_24 K hQ hX _ h hGσ hS _ _ _ hH (lv_sub (l' := [(0, .ref rm)]) hl [0] rfl) hc
  · rw [if_neg (h9)] at h
    exact a_X16_hasSource_7 K hQ hX _ _ g1 h hGσ hS _ _ _ hH (lv_sub (l' := [(0, .ref rm), (1, .int (i32 v1))]) hl [0, 1] rfl) hc
theorem ok_X16_hasSource (hT : Tys cA tys) {Q : Sg → Int → Prop} {X : Sg → String → Prop} (σ : Sg) (v1 : Int) (g1 : rng v1) (hG : RG σ) (hS : Shp dm ra jx rm σ) (h : wp_X16_hasSource ra jx rm v1 σ Q X) : Ok l D cA tys A yX16_hasSource (.code yX16_hasSource cX16_hasSource 2 (some .boolean)) 0 0 [.ref rm, .int (i32 v1)] σ (QnZ dm ra jx rm Q) (QxR dm ra jx rm X) := by
  unfold wp_X16_hasSource at h
  exact ok_Z (plainFor_of_name (by decide)) (by exact Nat.le_of_ble_eq_true rfl) hT (fun p e R s m args below meth c K hQ hX H locs ls hH hl hc => a_X16_hasSource_0 K hQ hX σ v1 g1 h hG hS H locs ls hH (lv_sub (l' := [(0, .ref rm), (1, .int (i32 v1))]) hl [0, 1] rfl) hc)
theorem dX16_close_0 : decode cX16_close 0 = .ok (.aload_n 0, 1) := by decide +kernel
theorem dX16_close_1 : decode cX16_close 1 = .ok (.iload_n 1, 1) := by decide +kernel
theorem dX16_close_2 : decode cX16_close 2 = .ok (.i2l, 1) := by decide +kernel
theorem dX16_close_3 : decode cX16_close 3 = .ok (.lconst 0, 1) := by decide +kernel
theorem dX16_close_4 : decode cX16_close 4 = .ok (.ldc2_w 186, 3) := by decide +kernel
theorem dX16_close_7 : decode cX16_close 7 = .ok (.invokestatic 45, 3) := by decide +kernel
theorem dX16_close_10 : decode cX16_close 10 = .ok (.ifCond .ne 7, 3) := by decide +kernel
theorem dX16_close_13 : decode cX16_close 13 = .ok (.iconst 1, 1) := by decide +kernel
theorem dX16_close_14 : decode cX16_close 14 = .ok (.goto 16, 3) := by decide +kernel
theorem dX16_close_17 : decode cX16_close 17 = .ok (.aload_n 0, 1) := by decide +kernel
theorem dX16_close_18 : decode cX16_close 18 = .ok (.iload_n 1, 1) := by decide +kernel
theorem dX16_close_19 : decode cX16_close 19 = .ok (.invokevirtual 984, 3) := by decide +kernel
theorem dX16_close_22 : decode cX16_close 22 = .ok (.ifCond .ne 7, 3) := by decide +kernel
theorem dX16_close_25 : decode cX16_close 25 = .ok (.iconst 2, 1) := by decide +kernel
theorem dX16_close_26 : decode cX16_close 26 = .ok (.goto 4, 3) := by decide +kernel
theorem dX16_close_29 : decode cX16_close 29 = .ok (.iconst 0, 1) := by decide +kernel
theorem dX16_close_30 : decode cX16_close 30 = .ok (.putfield 1, 3) := by decide +kernel
theorem dX16_close_33 : decode cX16_close 33 = .ok (.aload_n 0, 1) := by decide +kernel
theorem dX16_close_34 : decode cX16_close 34 = .ok (.getfield 1, 3) := by decide +kernel
theorem dX16_close_37 : decode cX16_close 37 = .ok (.ifCond .le 5, 3) := by decide +kernel
theorem dX16_close_40 : decode cX16_close 40 = .ok (.iconst 0, 1) := by decide +kernel
theorem dX16_close_41 : decode cX16_close 41 = .ok (.ireturn, 1) := by decide +kernel
theorem dX16_close_42 : decode cX16_close 42 = .ok (.aload_n 0, 1) := by decide +kernel
theorem dX16_close_43 : decode cX16_close 43 = .ok (.getfield 779, 3) := by decide +kernel
theorem dX16_close_46 : decode cX16_close 46 = .ok (.iload_n 1, 1) := by decide +kernel
theorem dX16_close_47 : decode cX16_close 47 = .ok (.baload, 1) := by decide +kernel
theorem dX16_close_48 : decode cX16_close 48 = .ok (.istore_n 2, 1) := by decide +kernel
theorem dX16_close_49 : decode cX16_close 49 = .ok (.aload_n 0, 1) := by decide +kernel
theorem dX16_close_50 : decode cX16_close 50 = .ok (.getfield 779, 3) := by decide +kernel
theorem dX16_close_53 : decode cX16_close 53 = .ok (.iload_n 1, 1) := by decide +kernel
theorem dX16_close_54 : decode cX16_close 54 = .ok (.iconst 1, 1) := by decide +kernel
theorem dX16_close_55 : decode cX16_close 55 = .ok (.bastore, 1) := by decide +kernel
theorem dX16_close_56 : decode cX16_close 56 = .ok (.iload_n 2, 1) := by decide +kernel
theorem dX16_close_57 : decode cX16_close 57 = .ok (.ifCond .ne 7, 3) := by decide +kernel
theorem dX16_close_60 : decode cX16_close 60 = .ok (.iconst 1, 1) := by decide +kernel
theorem dX16_close_61 : decode cX16_close 61 = .ok (.goto 4, 3) := by decide +kernel
theorem dX16_close_64 : decode cX16_close 64 = .ok (.iconst 0, 1) := by decide +kernel
theorem dX16_close_65 : decode cX16_close 65 = .ok (.ireturn, 1) := by decide +kernel
set_option maxRecDepth 20000 in
theorem a_X16_close_65 {Q : Sg → Int → Prop} {X : Sg → String → Prop} (K : MC R p s m args c cX16_close 3 RX16 D cA tys A n0 s0 1 25 []) (hQ : HQZ p l e R s m args below meth c cX16_close D cA A n0 s0 QM dm ra jx rm Q) (hX : HX p l e R s m args below meth c 3 D cA A n0 s0 QM dm ra jx rm X) : ∀ (σ : Sg) (u0 : Int) (gu0 : rng u0), w_X16_close_65 ra jx rm Q X σ u0 → RG σ → Shp dm ra jx rm σ → JJ p l e R s m args below meth c 3 D cA A n0 s0 QM σ 65 [(0, .ref rm)] [.int (i32 u0)] := by
  intro σ u0 gu0 h hGσ hS H locs ls hH hl hc
  have B := K.1
  unfold w_X16_close_65 at h
  obtain ⟨qz, h⟩ := h
  exact hQ _ _ _ _ _ _ gu0 qz dX16_close_65 hH hc h hGσ hS
set_option maxRecDepth 20000 in
theorem a_X16_close_64 {Q : Sg → Int → Prop} {X : Sg → String → Prop} (K : MC R p s m args c cX16_close 3 RX16 D cA tys A n0 s0 1 25 []) (hQ : HQZ p l e R s m args below meth c cX16_close D cA A n0 s0 QM dm ra jx rm Q) (hX : HX p l e R s m args below meth c 3 D cA A n0 s0 QM dm ra jx rm X) : ∀ (σ : Sg), w_X16_close_64 ra jx rm Q X σ → RG σ → Shp dm ra jx rm σ → JJ p l e R s m args below meth c 3 D cA A n0 s0 QM σ 64 [(0, .ref rm)] [] := by
  intro σ h hGσ hS H locs ls hH hl hc
  have B := K.1
  unfold w_X16_close_64 at h
  refine lv_iconst (v := i32 0) B.1 B.2.1 dX16_close_64 (by decide) ?_
  exact a_X16_close_65 K hQ hX _ _ (by unfold rng; omega) h hGσ hS _ _ _ hH (lv_sub (l' := [(0, .ref rm)]) hl [0] rfl) hc
set_option maxRecDepth 20000 in
theorem a_X16_close_60 {Q : Sg → Int → Prop} {X : Sg → String → Prop} (K : MC R p s m args c cX16_close 3 RX16 D cA tys A n0 s0 1 25 []) (hQ : HQZ p l e R s m args below meth c cX16_close D cA A n0 s0 QM dm ra jx rm Q) (hX : HX p l e R s m args below meth c 3 D cA A n0 s0 QM dm ra jx rm X) : ∀ (σ : Sg), w_X16_close_60 ra jx rm Q X σ → RG σ → Shp dm ra jx rm σ → JJ p l e R s m args below meth c 3 D cA A n0 s0 QM σ 60 [(0, .ref rm)] [] := by
  intro σ h hGσ hS H locs ls hH hl hc
  have B := K.1
  unfold w_X16_close_60 at h
  refine lv_iconst (v := i32 1) B.1 B.2.1 dX16_close_60 (by decide) ?_
  refine lv_goto (tgt := 65) B.1 B.2.1 dX16_close_61 (by decide) ?_
  exact a_X16_close_65 K hQ hX _ _ (by unfold rng; omega) h hGσ hS _ _ _ hH (lv_sub (l' := [(0, .ref rm)]) hl [0] rfl) hc
set_option maxRecDepth 20000 in
theorem a_X16_close_42 {Q : Sg → Int → Prop} {X : Sg → String → Prop} (K : MC R p s m args c cX16_close 3 RX16 D cA tys A n0 s0 1 25 []) (hQ : HQZ p l e R s m args below meth c cX16_close D cA A n0 s0 QM dm ra jx rm Q) (hX : HX p l e R s m args below meth c 3 D cA A n0 s0 QM dm ra jx rm X) : ∀ (σ : Sg) (v1 : Int) (g1 : rng v1), w_X16_close_42 ra jx rm Q X σ v1 → RG σ → Shp dm ra jx rm σ → JJ p l e R s m args below meth c 3 D cA A n0 s0 QM σ 42 [(0, .ref rm), (1, .int (i32 v1))] [] := by
  intro σ v1 g1 h hGσ hS H locs ls hH hl hc
  have B := K.1
  unfold w_X16_close_42 at h
  refine lv_aload_n B.1 B.2.1 dX16_close_42 rfl (lv_at hl 0 rfl) ?_
  refine r_arr B hH hS 25 (kd := 103) (n := 4) (by decide) (by decide) wf_X16_779 rfl rfl dX16_close_43 ?_
  refine lv_iload_n B.1 B.2.1 dX16_close_46 rfl (lv_at hl 1 rfl) ?_
  obtain ⟨q1, h⟩ := h
  refine x_zald B K.2.1 hH (hS.ar (k := 25) (kd := 103) (n := 4) (by decide)) (by decide) q1 dX16_close_47 ?_
  refine lv_istore_n (lv' := [(2, .int (i32 (gI σ (ra 25) v1.toNat))), (0, .ref rm), (1, .int (i32 v1))]) B.1 B.2.1 dX16_close_48 rfl hl (by decide) rfl (fun ls hl => ?_)
  refine lv_aload_n B.1 B.2.1 dX16_close_49 rfl (lv_at hl 1 rfl) ?_
  refine r_arr B hH hS 25 (kd := 103) (n := 4) (by decide) (by decide) wf_X16_779 rfl rfl dX16_close_50 ?_
  refine lv_iload_n B.1 B.2.1 dX16_close_53 rfl (lv_at hl 2 rfl) ?_
  refine lv_iconst (v := i32 1) B.1 B.2.1 dX16_close_54 (by decide) ?_
  obtain ⟨q2, h⟩ := h
  obtain ⟨σ13, eσ13⟩ : ∃ z, z = pI σ (ra 25) v1.toNat (nZ 1) := ⟨_, rfl⟩
  have h := h σ13 eσ13
  refine x_zast B K.2.1 hH (hS.ar (k := 25) (kd := 103) (n := 4) (by decide)) (by decide) q2 dX16_close_55 (fun H locs hH => ?_)
  have hH : Hd D cA A s (pI σ (ra 25) v1.toNat (nZ 1)) H locs := hH
  rw [← eσ13] at hH
  have hGσ13 : RG σ13 := by rw [eσ13]; exact hGσ.pI (rng_toInt _)
  have hS : Shp dm ra jx rm σ13 := by rw [eσ13]; exact hS
  have hc : CB n0 s0 σ13 := by rw [eσ13]; exact hc
  rw [show gc σ = gc σ13 by rw [eσ13], show gs σ = gs σ13 by rw [eσ13]]
  refine lv_iload_n B.1 B.2.1 dX16_close_56 rfl (lv_at hl 0 rfl) ?_
  refine lv_if_ne (tgt := 64) B.1 B.2.1 dX16_close_57 (by decide) (fun h9 => ?_) (fun h9 => ?_)
  · rw [if_pos (fun q => h9 ((z_eq (hGσ _ _)).mpr q))] at h
    exact a_X16_close_64 K hQ hX _ h hGσ13 hS _ _ _ hH (lv_sub (l' := [(0, .ref rm)]) hl [1] rfl) hc
  · rw [if_neg (fun q => q ((z_eq (hGσ _ _)).mp h9))] at h
    exact a_X16_close_60 K hQ hX _ h hGσ13 hS _ _ _ hH (lv_sub (l' := [(0, .ref rm)]) hl [1] rfl) hc
set_option maxRecDepth 20000 in
theorem a_X16_close_40 {Q : Sg → Int → Prop} {X : Sg → String → Prop} (K : MC R p s m args c cX16_close 3 RX16 D cA tys A n0 s0 1 25 []) (hQ : HQZ p l e R s m args below meth c cX16_close D cA A n0 s0 QM dm ra jx rm Q) (hX : HX p l e R s m args below meth c 3 D cA A n0 s0 QM dm ra jx rm X) : ∀ (σ : Sg), w_X16_close_40 ra jx rm Q X σ → RG σ → Shp dm ra jx rm σ → JJ p l e R s m args below meth c 3 D cA A n0 s0 QM σ 40 [(0, .ref rm)] [] := by
  intro σ h hGσ hS H locs ls hH hl hc
  have B := K.1
  unfold w_X16_close_40 at h
  refine lv_iconst (v := i32 0) B.1 B.2.1 dX16_close_40 (by decide) ?_
  exact hQ _ _ _ _ _ _ (by unfold rng; omega) (Or.inl rfl) dX16_close_41 hH hc h hGσ hS
set_option maxRecDepth 20000 in
theorem a_X16_close_30 {Q : Sg → Int → Prop} {X : Sg → String → Prop} (K : MC R p s m args c cX16_close 3 RX16 D cA tys A n0 s0 1 25 []) (hQ : HQZ p l e R s m args below meth c cX16_close D cA A n0 s0 QM dm ra jx rm Q) (hX : HX p l e R s m args below meth c 3 D cA A n0 s0 QM dm ra jx rm X) : ∀ (σ : Sg) (v1 : Int) (u0 : Int) (g1 : rng v1) (gu0 : rng u0), w_X16_close_30 ra jx rm Q X σ v1 u0 → RG σ → Shp dm ra jx rm σ → JJ p l e R s m args below meth c 3 D cA A n0 s0 QM σ 30 [(0, .ref rm), (1, .int (i32 v1))] [.int (i32 u0), .ref rm] := by
  intro σ v1 u0 g1 gu0 h hGσ hS H locs ls hH hl hc
  have B := K.1
  unfold w_X16_close_30 at h
  obtain ⟨σ14, eσ14⟩ : ∃ z, z = pI σ rm 0 u0 := ⟨_, rfl⟩
  have h := h σ14 eσ14
  refine r_puti B hH hS 0 (ty := .int) (by decide) wf_X16_1 rfl rfl rfl rfl rfl rfl dX16_close_30 (fun H locs hH => ?_)
  have hH : Hd D cA A s (pI σ rm 0 u0) H locs := hH
  rw [← eσ14] at hH
  have hGσ14 : RG σ14 := by rw [eσ14]; exact hGσ.pI gu0
  have hS : Shp dm ra jx rm σ14 := by rw [eσ14]; exact hS
  have hc : CB n0 s0 σ14 := by rw [eσ14]; exact hc
  rw [show gc σ = gc σ14 by rw [eσ14], show gs σ = gs σ14 by rw [eσ14]]
  refine lv_aload_n B.1 B.2.1 dX16_close_33 rfl (lv_at hl 0 rfl) ?_
  refine r_geti B hH hS 0 (by decide) wf_X16_1 rfl rfl dX16_close_34 ?_
  refine lv_if_le (tgt := 42) B.1 B.2.1 dX16_close_37 (by decide) (fun h9 => ?_) (fun h9 => ?_)
  · rw [if_pos ((z_le (hGσ14 _ _)).mp h9)] at h
    exact a_X16_close_42 K hQ hX _ _ g1 h hGσ14 hS _ _ _ hH (lv_sub (l' := [(0, .ref rm), (1, .int (i32 v1))]) hl [0, 1] rfl) hc
  · rw [if_neg (fun q => h9 ((z_le (hGσ14 _ _)).mpr q))] at h
    exact a_X16_close_40 K hQ hX _ h hGσ14 hS _ _ _ hH (lv_sub (l' := [(0, .ref rm)]) hl [0] rfl) hc
set_option maxRecDepth 20000 in
theorem a_X16_close_29 {Q : Sg → Int → Prop} {X : Sg → String → Prop} (K : MC R p s m args c cX16_close 3 RX16 D cA tys A n0 s0 1 25 []) (hQ : HQZ p l e R s m args below meth c cX16_close D cA A n0 s0 QM dm ra jx rm Q) (hX : HX p l e R s m args below meth c 3 D cA A n0 s0 QM dm ra jx rm X) : ∀ (σ : Sg) (v1 : Int) (g1 : rng v1), w_X16_close_29 ra jx rm Q X σ v1 → RG σ → Shp dm ra jx rm σ → JJ p l e R s m args below meth c 3 D cA A n0 s0 QM σ 29 [(0, .ref rm), (1, .int (i32 v1))] [.ref rm] := by
  intro σ v1 g1 h hGσ hS H locs ls hH hl hc
  have B := K.1
  unfold w_X16_close_29 at h
  refine lv_iconst (v := i32 0) B.1 B.2.1 dX16_close_29 (by decide) ?_
  exact a_X16_close_30 K hQ hX _ _ _ g1 (by unfold rng; omega) h hGσ hS _ _ _ hH (lv_sub (l' := [(0, .ref rm), (1, .int (i32 v1))]) hl [0, 1] rfl) hc
set_option maxRecDepth 20000 in
theorem a_X16_close_25 {Q : Sg → Int → Prop} {X : Sg → String → Prop} (K : MC R p s m args c cX16_close 3 RX16 D cA tys A n0 s0 1 25 []) (hQ : HQZ p l e R s m args below meth c cX16_close D cA A n0 s0 QM dm ra jx rm Q) (hX : HX p l e R s m args below meth c 3 D cA A n0 s0 QM dm ra jx rm X) : ∀ (σ : Sg) (v1 : Int) (g1 : rng v1), w_X16_close_25 ra jx rm Q X σ v1 → RG σ → Shp dm ra jx rm σ → JJ p l e R s m args below meth c 3 D cA A n0 s0 QM σ 25 [(0, .ref rm), (1, .int (i32 v1))] [.ref rm] := by
  intro σ v1 g1 h hGσ hS H locs ls hH hl hc
  have B := K.1
  unfold w_X16_close_25 at h
  refine lv_iconst (v := i32 2) B.1 B.2.1 dX16_close_25 (by decide) ?_
  refine lv_goto (tgt := 30) B.1 B.2.1 dX16_close_26 (by decide) ?_
  exact a_X16_close_30 K hQ hX _ _ _ g1 (by unfold rng; omega) h hGσ hS _ _ _ hH (lv_sub (l' := [(0, .ref rm), (1, .int (i32 v1))]) hl [0, 1] rfl) hc
set_option maxRecDepth 20000 in
theorem a_X16_close_17 {Q : Sg → Int → Prop} {X : Sg → String → Prop} (K : MC R p s m args c cX16_close 3 RX16 D cA tys A n0 s0 1 25 []) (hQ : HQZ p l e R s m args below meth c cX16_close D cA A n0 s0 QM dm ra jx rm Q) (hX : HX p l e R s m args below meth c 3 D cA A n0 s0 QM dm ra jx rm X) : ∀ (σ : Sg) (v1 : Int) (g1 : rng v1), w_X16_close_17 ra jx rm Q X σ v1 → RG σ → Shp dm ra jx rm σ → JJ p l e R s m args below meth c 3 D cA A n0 s0 QM σ 17 [(0, .ref rm), (1, .int (i32 v1))] [.ref rm] := by
  intro σ v1 g1 h hGσ hS H locs ls hH hl hc
  have B := K.1
  unfold w_X16_close_17 at h
  refine lv_aload_n B.1 B.2.1 dX16_close_17 rfl (lv_at hl 0 rfl) ?_
  refine lv_iload_n B.1 B.2.1 dX16_close_18 rfl (lv_at hl 1 rfl) ?_
  refine c_V B hH hl hc K.2.2.1 (C := RX16) (T := TX16) (N := 123) (ci := 16) (As := [.int (i32 v1)]) (ok_X16_hasSource K.2.1 σ v1 g1 hGσ hS h) wc_X16_984 1 hd_X16_hasSource ⟨Nat.le_trans (Nat.le_of_ble_eq_true rfl) K.2.2.2.1, Nat.le_trans (Nat.le_of_ble_eq_true rfl) K.2.2.2.2.1⟩ hS.1.1 hS.1.2 (by decide) rfl rfl (rest := [.ref rm]) rfl (Nat.le_of_ble_eq_true rfl) dX16_close_19 (fun σ15 w hq => ?_) (fun σ9 E9 hx9 => hX σ9 E9 _ _ _ (tb_out K.2.2.2.2.2 rfl) hx9.1 hx9.2.1 hx9.2.2)
  obtain ⟨r16, rfl, ⟨gr16, gzr16⟩, h, hGσ15, hS⟩ := hq
  intro H locs ls hH hl hc
  refine W.eq (g2 := F0 m 22 ls [.int (i32 r16), .ref rm]) (rfl) ?_
  try dsimp only at h
  refine lv_if_ne (tgt := 29) B.1 B.2.1 dX16_close_22 (by decide) (fun h9 => ?_) (fun h9 => ?_)
  · rw [if_pos (fun q => h9 ((z_eq gr16).mpr q))] at h
    exact a_X16_close_29 K hQ hX _ _ g1 h hGσ15 hS _ _ _ hH (lv_sub (l' := [(0, .ref rm), (1, .int (i32 v1))]) hl [0, 1] rfl) hc
  · rw [if_neg (fun q => q ((z_eq gr16).mp h9))] at h
    exact a_X16_close_25 K hQ hX _ _ g1 h hGσ15 hS _ _ _ hH (lv_sub (l' := [(0, .ref rm), (1, .int (i32 v1))]) hl [0, 1] rfl) hc
set_option maxRecDepth 20000 in
theorem a_X16_close_13 {Q : Sg → Int → Prop} {X : Sg → String → Prop} (K : MC R p s m args c cX16_close 3 RX16 D cA tys A n0 s0 1 25 []) (hQ : HQZ p l e R s m args below meth c cX16_close D cA A n0 s0 QM dm ra jx rm Q) (hX : HX p l e R s m args below meth c 3 D cA A n0 s0 QM dm ra jx rm X) : ∀ (σ : Sg) (v1 : Int) (g1 : rng v1), w_X16_close_13 ra jx rm Q X σ v1 → RG σ → Shp dm ra jx rm σ → JJ p l e R s m args below meth c 3 D cA A n0 s0 QM σ 13 [(0, .ref rm), (1, .int (i32 v1))] [.ref rm] := by
  intro σ v1 g1 h hGσ hS H locs ls hH hl hc
  have B := K.1
  unfold w_X16_close_13 at h
  refine lv_iconst (v := i32 1) B.1 B.2.1 dX16_close_13 (by decide) ?_
  refine lv_goto (tgt := 30) B.1 B.2.1 dX16_close_14 (by decide) ?_
  exact a_X16_close_30 K hQ hX _ _ _ g1 (by unfold rng; omega) h hGσ hS _ _ _ hH (lv_sub (l' := [(0, .ref rm), (1, .int (i32 v1))]) hl [0, 1] rfl) hc
set_option maxRecDepth 20000 in
theorem a_X16_close_0 {Q : Sg → Int → Prop} {X : Sg → String → Prop} (K : MC R p s m args c cX16_close 3 RX16 D cA tys A n0 s0 1 25 []) (hQ : HQZ p l e R s m args below meth c cX16_close D cA A n0 s0 QM dm ra jx rm Q) (hX : HX p l e R s m args below meth c 3 D cA A n0 s0 QM dm ra jx rm X) : ∀ (σ : Sg) (v1 : Int) (g1 : rng v1), w_X16_close_0 ra jx rm Q X σ v1 → RG σ → Shp dm ra jx rm σ → JJ p l e R s m args below meth c 3 D cA A n0 s0 QM σ 0 [(0, .ref rm), (1, .int (i32 v1))] [] := by
  intro σ v1 g1 h hGσ hS H locs ls hH hl hc
  have B := K.1
  unfold w_X16_close_0 at h
  refine lv_aload_n B.1 B.2.1 dX16_close_0 rfl (lv_at hl 0 rfl) ?_
  refine lv_iload_n B.1 B.2.1 dX16_close_1 rfl (lv_at hl 1 rfl) ?_
  refine lv_i2l B.1 B.2.1 dX16_close_2 (i32_i64 g1) ?_
  refine lv_lconst (v := 0) B.1 B.2.1 dX16_close_3 (by decide) ?_
  refine lv_ldc2 B.1 B.2.1 B.2.2.1 (B.2.2.2.1 _ (wk_X16_186)) dX16_close_4 ?_
  refine c_S B hH hl hc K.2.2.1 (As := [.long (Int64.ofInt v1), .long 0, .long 3]) (ok_X16_within K.2.1 σ (Int64.ofInt v1) 0 3 hGσ hS h) wc_X16_45 3 hd_X16_within ⟨Nat.le_trans (Nat.le_of_ble_eq_true rfl) K.2.2.2.1, Nat.le_trans (Nat.le_of_ble_eq_true rfl) K.2.2.2.2.1⟩ rfl (rest := [.ref rm]) rfl (Nat.le_of_ble_eq_true rfl) dX16_close_7 (fun σ17 w hq => ?_) (fun σ9 E9 hx9 => hX σ9 E9 _ _ _ (tb_out K.2.2.2.2.2 rfl) hx9.1 hx9.2.1 hx9.2.2)
  obtain ⟨r18, rfl, ⟨gr18, gzr18⟩, h, hGσ17, hS⟩ := hq
  intro H locs ls hH hl hc
  refine W.eq (g2 := F0 m 10 ls [.int (i32 r18), .ref rm]) (rfl) ?_
  try dsimp only at h
  refine lv_if_ne (tgt := 17) B.1 B.2.1 dX16_close_10 (by decide) (fun h9 => ?_) (fun h9 => ?_)
  · rw [if_pos (fun q => h9 ((z_eq gr18).mpr q))] at h
    exact a_X16_close_17 K hQ hX _ _ g1 h hGσ17 hS _ _ _ hH (lv_sub (l' := [(0, .ref rm), (1, .int (i32 v1))]) hl [0, 1] rfl) hc
  · rw [if_neg (fun q => q ((z_eq gr18).mp h9))] at h
    exact a_X16_close_13 K hQ hX _ _ g1 h hGσ17 hS _ _ _ hH (lv_sub (l' := [(0, .ref rm), (1, .int (i32 v1))]) hl [0, 1] rfl) hc
theorem ok_X16_close (hT : Tys cA tys) {Q : Sg → Int → Prop} {X : Sg → String → Prop} (σ : Sg) (v1 : Int) (g1 : rng v1) (hG : RG σ) (hS : Shp dm ra jx rm σ) (h : wp_X16_close ra jx rm v1 σ Q X) : Ok l D cA tys A yX16_close (.code yX16_close cX16_close 3 (some .boolean)) 1 25 [.ref rm, .int (i32 v1)] σ (QnZ dm ra jx rm Q) (QxR dm ra jx rm X) := by
  unfold wp_X16_close at h
  exact ok_Z (plainFor_of_name (by decide)) (by exact Nat.le_of_ble_eq_true rfl) hT (fun p e R s m args below meth c K hQ hX H locs ls hH hl hc => a_X16_close_0 K hQ hX σ v1 g1 h hG hS H locs ls hH (lv_sub (l' := [(0, .ref rm), (1, .int (i32 v1))]) hl [0, 1] rfl) hc)
theorem dX16_columnOf_0 : decode cX16_columnOf 0 = .ok (.aload_n 0, 1) := by decide +kernel
theorem dX16_columnOf_1 : decode cX16_columnOf 1 = .ok (.getfield 118, 3) := by decide +kernel
theorem dX16_columnOf_4 : decode cX16_columnOf 4 = .ok (.iload_n 1, 1) := by decide +kernel
theorem dX16_columnOf_5 : decode cX16_columnOf 5 = .ok (.aload_n 0, 1) := by decide +kernel
theorem dX16_columnOf_6 : decode cX16_columnOf 6 = .ok (.invokevirtual 164, 3) := by decide +kernel
theorem dX16_columnOf_9 : decode cX16_columnOf 9 = .ok (.invokevirtual 168, 3) := by decide +kernel
theorem dX16_columnOf_12 : decode cX16_columnOf 12 = .ok (.istore_n 2, 1) := by decide +kernel
theorem dX16_columnOf_13 : decode cX16_columnOf 13 = .ok (.iload_n 2, 1) := by decide +kernel
theorem dX16_columnOf_14 : decode cX16_columnOf 14 = .ok (.iconst (-1), 1) := by decide +kernel
theorem dX16_columnOf_15 : decode cX16_columnOf 15 = .ok (.if_icmp .ne 9, 3) := by decide +kernel
theorem dX16_columnOf_18 : decode cX16_columnOf 18 = .ok (.aload_n 0, 1) := by decide +kernel
theorem dX16_columnOf_19 : decode cX16_columnOf 19 = .ok (.iconst 5, 1) := by decide +kernel
theorem dX16_columnOf_20 : decode cX16_columnOf 20 = .ok (.invokevirtual 65, 3) := by decide +kernel
theorem dX16_columnOf_23 : decode cX16_columnOf 23 = .ok (.athrow, 1) := by decide +kernel
theorem dX16_columnOf_24 : decode cX16_columnOf 24 = .ok (.aload_n 0, 1) := by decide +kernel
theorem dX16_columnOf_25 : decode cX16_columnOf 25 = .ok (.invokevirtual 84, 3) := by decide +kernel
theorem dX16_columnOf_28 : decode cX16_columnOf 28 = .ok (.iload_n 2, 1) := by decide +kernel
theorem dX16_columnOf_29 : decode cX16_columnOf 29 = .ok (.ireturn, 1) := by decide +kernel
set_option maxRecDepth 20000 in
theorem a_X16_columnOf_24 {Q : Sg → Int → Prop} {X : Sg → String → Prop} (K : MC R p s m args c cX16_columnOf 3 RX16 D cA tys A n0 s0 7 153 []) (hQ : HQI p l e R s m args below meth c cX16_columnOf D cA A n0 s0 QM dm ra jx rm Q) (hX : HX p l e R s m args below meth c 3 D cA A n0 s0 QM dm ra jx rm X) : ∀ (σ : Sg) (v2 : Int) (g2 : rng v2), w_X16_columnOf_24 ra jx rm Q X σ v2 → RG σ → Shp dm ra jx rm σ → JJ p l e R s m args below meth c 3 D cA A n0 s0 QM σ 24 [(0, .ref rm), (2, .int (i32 v2))] [] := by
  intro σ v2 g2 h hGσ hS H locs ls hH hl hc
  have B := K.1
  unfold w_X16_columnOf_24 at h
  refine lv_aload_n B.1 B.2.1 dX16_columnOf_24 rfl (lv_at hl 0 rfl) ?_
  refine c_V B hH hl hc K.2.2.1 (C := RX16) (T := TX16) (N := 123) (ci := 16) (As := []) (ok_X16_take K.2.1 σ hGσ hS h) wc_X16_84 0 hd_X16_take ⟨Nat.le_trans (Nat.le_of_ble_eq_true rfl) K.2.2.2.1, Nat.le_trans (Nat.le_of_ble_eq_true rfl) K.2.2.2.2.1⟩ hS.1.1 hS.1.2 (by decide) rfl rfl (rest := []) rfl (Nat.le_of_ble_eq_true rfl) dX16_columnOf_25 (fun σ17 w hq => ?_) (fun σ9 E9 hx9 => hX σ9 E9 _ _ _ (tb_out K.2.2.2.2.2 rfl) hx9.1 hx9.2.1 hx9.2.2)
  obtain ⟨rfl, h, hGσ17, hS⟩ := hq
  intro H locs ls hH hl hc
  refine W.eq (g2 := F0 m 28 ls []) (rfl) ?_
  try dsimp only at h
  refine lv_iload_n B.1 B.2.1 dX16_columnOf_28 rfl (lv_at hl 1 rfl) ?_
  exact hQ _ _ _ _ _ _ g2 dX16_columnOf_29 hH hc h hGσ17 hS
set_option maxRecDepth 20000 in
theorem a_X16_columnOf_18 {Q : Sg → Int → Prop} {X : Sg → String → Prop} (K : MC R p s m args c cX16_columnOf 3 RX16 D cA tys A n0 s0 7 153 []) (hQ : HQI p l e R s m args below meth c cX16_columnOf D cA A n0 s0 QM dm ra jx rm Q) (hX : HX p l e R s m args below meth c 3 D cA A n0 s0 QM dm ra jx rm X) : ∀ (σ : Sg), w_X16_columnOf_18 ra jx rm Q X σ → RG σ → Shp dm ra jx rm σ → JJ p l e R s m args below meth c 3 D cA A n0 s0 QM σ 18 [(0, .ref rm)] [] := by
  intro σ h hGσ hS H locs ls hH hl hc
  have B := K.1
  unfold w_X16_columnOf_18 at h
  refine lv_aload_n B.1 B.2.1 dX16_columnOf_18 rfl (lv_at hl 0 rfl) ?_
  refine lv_iconst (v := i32 5) B.1 B.2.1 dX16_columnOf_19 (by decide) ?_
  refine c_V B hH hl hc K.2.2.1 (C := RX16) (T := TX16) (N := 123) (ci := 16) (As := [.int (i32 5)]) (ok_X16_fail K.2.1 σ 5 (by unfold rng; omega) hGσ hS h) wc_X16_65 1 hd_X16_fail ⟨Nat.le_trans (Nat.le_of_ble_eq_true rfl) K.2.2.2.1, Nat.le_trans (Nat.le_of_ble_eq_true rfl) K.2.2.2.2.1⟩ hS.1.1 hS.1.2 (by decide) rfl rfl (rest := []) rfl (Nat.le_of_ble_eq_true rfl) dX16_columnOf_20 (fun σ18 w hq => ?_) (fun σ9 E9 hx9 => hX σ9 E9 _ _ _ (tb_out K.2.2.2.2.2 rfl) hx9.1 hx9.2.1 hx9.2.2)
  obtain ⟨r19, rfl, h, hGσ18, hS⟩ := hq
  intro H locs ls hH hl hc
  refine W.eq (g2 := F0 m 23 ls [va_rf r19]) (rfl) ?_
  try dsimp only at h
  obtain ⟨qt, h⟩ := h
  refine W.eq (g2 := F0 m 23 ls [.ref (ra 1)]) (by rw [qt]; rfl) ?_
  have hx9 := And.intro h (And.intro hGσ18 hS)
  refine h_athrow B hH hl hc (ci := 14) (hS.ob (k := 1) (ci := 14) (by decide)).1 (hS.ob (k := 1) (ci := 14) (by decide)).2 (by decide) rfl dX16_columnOf_23 ?_
  exact hX σ18 _ _ _ _ (tb_out K.2.2.2.2.2 rfl) hx9.1 hx9.2.1 hx9.2.2
set_option maxRecDepth 20000 in
theorem a_X16_columnOf_0 {Q : Sg → Int → Prop} {X : Sg → String → Prop} (K : MC R p s m args c cX16_columnOf 3 RX16 D cA tys A n0 s0 7 153 []) (hQ : HQI p l e R s m args below meth c cX16_columnOf D cA A n0 s0 QM dm ra jx rm Q) (hX : HX p l e R s m args below meth c 3 D cA A n0 s0 QM dm ra jx rm X) : ∀ (σ : Sg) (v1 : Int) (g1 : rng v1), w_X16_columnOf_0 ra jx rm Q X σ v1 → RG σ → Shp dm ra jx rm σ → JJ p l e R s m args below meth c 3 D cA A n0 s0 QM σ 0 [(0, .ref rm), (1, .int (i32 v1))] [] := by
  intro σ v1 g1 h hGσ hS H locs ls hH hl hc
  have B := K.1
  unfold w_X16_columnOf_0 at h
  refine lv_aload_n B.1 B.2.1 dX16_columnOf_0 rfl (lv_at hl 0 rfl) ?_
  refine r_getp B hH hS 18 (by decide) wf_X16_118 rfl rfl dX16_columnOf_1 ?_
  refine lv_iload_n B.1 B.2.1 dX16_columnOf_4 rfl (lv_at hl 1 rfl) ?_
  refine lv_aload_n B.1 B.2.1 dX16_columnOf_5 rfl (lv_at hl 0 rfl) ?_
  refine c_V B hH hl hc K.2.2.1 (C := RX16) (T := TX16) (N := 123) (ci := 16) (As := []) (ok_X16_seeName K.2.1 σ hGσ hS h) wc_X16_164 0 hd_X16_seeName ⟨Nat.le_trans (Nat.le_of_ble_eq_true rfl) K.2.2.2.1, Nat.le_trans (Nat.le_of_ble_eq_true rfl) K.2.2.2.2.1⟩ hS.1.1 hS.1.2 (by decide) rfl rfl (rest := [.int (i32 v1), va_rf (gP σ rm 18)]) rfl (by simp only [List.map_cons, List.map_nil, rf_cat]; exact Nat.le_of_ble_eq_true rfl) dX16_columnOf_6 (fun σ20 w hq => ?_) (fun σ9 E9 hx9 => hX σ9 E9 _ _ _ (tb_out K.2.2.2.2.2 rfl) hx9.1 hx9.2.1 hx9.2.2)
  obtain ⟨r21, rfl, h, hGσ20, hS⟩ := hq
  intro H locs ls hH hl hc
  refine W.eq (g2 := F0 m 9 ls [.long r21, .int (i32 v1), va_rf (gP σ rm 18)]) (rfl) ?_
  try dsimp only at h
  obtain ⟨a22, ea22, ja22, h⟩ := h
  refine W.eq (g2 := F0 m 9 ls [.long r21, .int (i32 v1), .ref a22]) (by rw [ea22]; rfl) ?_
  refine c_V B hH hl hc K.2.2.1 (C := RX15) (T := TX15) (N := 20) (ci := 15) (As := [.int (i32 v1), .long r21]) (ok_X15_column ja22 K.2.1 σ20 v1 r21 g1 hGσ20 hS h) wc_X16_168 2 hd_X15_column ⟨Nat.le_trans (Nat.le_of_ble_eq_true rfl) K.2.2.2.1, Nat.le_trans (Nat.le_of_ble_eq_true rfl) K.2.2.2.2.1⟩ (hS.jb ja22).1 (hS.jb ja22).2 (by decide) rfl rfl (rest := []) rfl (Nat.le_of_ble_eq_true rfl) dX16_columnOf_9 (fun σ23 w hq => ?_) (fun σ9 E9 hx9 => hX σ9 E9 _ _ _ (tb_out K.2.2.2.2.2 rfl) hx9.1 hx9.2.1 hx9.2.2)
  obtain ⟨r24, rfl, gr24, h, hGσ23, hS⟩ := hq
  intro H locs ls hH hl hc
  refine W.eq (g2 := F0 m 12 ls [.int (i32 r24)]) (rfl) ?_
  try dsimp only at h
  refine lv_istore_n (lv' := [(2, .int (i32 r24)), (0, .ref rm), (1, .int (i32 v1))]) B.1 B.2.1 dX16_columnOf_12 rfl hl (by decide) rfl (fun ls hl => ?_)
  refine lv_iload_n B.1 B.2.1 dX16_columnOf_13 rfl (lv_at hl 0 rfl) ?_
  refine lv_iconst (v := i32 (-1)) B.1 B.2.1 dX16_columnOf_14 (by decide) ?_
  refine lv_icmp_ne (tgt := 24) B.1 B.2.1 dX16_columnOf_15 (by decide) (fun h9 => ?_) (fun h9 => ?_)
  · rw [if_pos (fun q => h9 ((i32_eq gr24 (by unfold rng; omega)).mpr q))] at h
    exact a_X16_columnOf_24 K hQ hX _ _ gr24 h hGσ23 hS _ _ _ hH (lv_sub (l' := [(0, .ref rm), (2, .int (i32 r24))]) hl [1, 0] rfl) hc
  · rw [if_neg (fun q => q ((i32_eq gr24 (by unfold rng; omega)).mp h9))] at h
    exact a_X16_columnOf_18 K hQ hX _ h hGσ23 hS _ _ _ hH (lv_sub (l' := [(0, .ref rm)]) hl [1] rfl) hc
theorem ok_X16_columnOf (hT : Tys cA tys) {Q : Sg → Int → Prop} {X : Sg → String → Prop} (σ : Sg) (v1 : Int) (g1 : rng v1) (hG : RG σ) (hS : Shp dm ra jx rm σ) (h : wp_X16_columnOf ra jx rm v1 σ Q X) : Ok l D cA tys A yX16_columnOf (.code yX16_columnOf cX16_columnOf 3 (some .int)) 7 153 [.ref rm, .int (i32 v1)] σ (QnI dm ra jx rm Q) (QxR dm ra jx rm X) := by
  unfold wp_X16_columnOf at h
  exact ok_I (plainFor_of_name (by decide)) (by exact Nat.le_of_ble_eq_true rfl) hT (fun p e R s m args below meth c K hQ hX H locs ls hH hl hc => a_X16_columnOf_0 K hQ hX σ v1 g1 h hG hS H locs ls hH (lv_sub (l' := [(0, .ref rm), (1, .int (i32 v1))]) hl [0, 1] rfl) hc)
theorem dX16_crash_0 : decode cX16_crash 0 = .ok (.aload_n 0, 1) := by decide +kernel
theorem dX16_crash_1 : decode cX16_crash 1 = .ok (.aload_n 0, 1) := by decide +kernel
theorem dX16_crash_2 : decode cX16_crash 2 = .ok (.getfield 688, 3) := by decide +kernel
theorem dX16_crash_5 : decode cX16_crash 5 = .ok (.ifCond .eq 7, 3) := by decide +kernel
theorem dX16_crash_8 : decode cX16_crash 8 = .ok (.iconst 1, 1) := by decide +kernel
theorem dX16_crash_9 : decode cX16_crash 9 = .ok (.goto 13, 3) := by decide +kernel
theorem dX16_crash_12 : decode cX16_crash 12 = .ok (.iload_n 1, 1) := by decide +kernel
theorem dX16_crash_13 : decode cX16_crash 13 = .ok (.iconst (-1), 1) := by decide +kernel
theorem dX16_crash_14 : decode cX16_crash 14 = .ok (.if_icmp .ge 7, 3) := by decide +kernel
theorem dX16_crash_17 : decode cX16_crash 17 = .ok (.iconst 2, 1) := by decide +kernel
theorem dX16_crash_18 : decode cX16_crash 18 = .ok (.goto 4, 3) := by decide +kernel
theorem dX16_crash_21 : decode cX16_crash 21 = .ok (.iconst 0, 1) := by decide +kernel
theorem dX16_crash_22 : decode cX16_crash 22 = .ok (.putfield 1, 3) := by decide +kernel
theorem dX16_crash_25 : decode cX16_crash 25 = .ok (.aload_n 0, 1) := by decide +kernel
theorem dX16_crash_26 : decode cX16_crash 26 = .ok (.getfield 1, 3) := by decide +kernel
theorem dX16_crash_29 : decode cX16_crash 29 = .ok (.ifCond .ne 8, 3) := by decide +kernel
theorem dX16_crash_32 : decode cX16_crash 32 = .ok (.aload_n 0, 1) := by decide +kernel
theorem dX16_crash_33 : decode cX16_crash 33 = .ok (.iload_n 1, 1) := by decide +kernel
theorem dX16_crash_34 : decode cX16_crash 34 = .ok (.putfield 685, 3) := by decide +kernel
theorem dX16_crash_37 : decode cX16_crash 37 = .ok (.return_, 1) := by decide +kernel
set_option maxRecDepth 20000 in
theorem a_X16_crash_37 {Q : Sg → Unit → Prop} {X : Sg → String → Prop} (K : MC R p s m args c cX16_crash 2 RX16 D cA tys A n0 s0 0 0 []) (hQ : HQV p l e R s m args below meth c cX16_crash D cA A n0 s0 QM dm ra jx rm Q) (hX : HX p l e R s m args below meth c 2 D cA A n0 s0 QM dm ra jx rm X) : ∀ (σ : Sg), w_X16_crash_37 ra jx rm Q X σ → RG σ → Shp dm ra jx rm σ → JJ p l e R s m args below meth c 2 D cA A n0 s0 QM σ 37 [(0, .ref rm)] [] := by
  intro σ h hGσ hS H locs ls hH hl hc
  have B := K.1
  unfold w_X16_crash_37 at h
  exact hQ _ _ _ _ _ dX16_crash_37 hH hc h hGσ hS
set_option maxRecDepth 20000 in
theorem a_X16_crash_32 {Q : Sg → Unit → Prop} {X : Sg → String → Prop} (K : MC R p s m args c cX16_crash 2 RX16 D cA tys A n0 s0 0 0 []) (hQ : HQV p l e R s m args below meth c cX16_crash D cA A n0 s0 QM dm ra jx rm Q) (hX : HX p l e R s m args below meth c 2 D cA A n0 s0 QM dm ra jx rm X) : ∀ (σ : Sg) (v1 : Int) (g1 : rng v1), w_X16_crash_32 ra jx rm Q X σ v1 → RG σ → Shp dm ra jx rm σ → JJ p l e R s m args below meth c 2 D cA A n0 s0 QM σ 32 [(0, .ref rm), (1, .int (i32 v1))] [] := by
  intro σ v1 g1 h hGσ hS H locs ls hH hl hc
  have B := K.1
  unfold w_X16_crash_32 at h
  refine lv_aload_n B.1 B.2.1 dX16_crash_32 rfl (lv_at hl 0 rfl) ?_
  refine lv_iload_n B.1 B.2.1 dX16_crash_33 rfl (lv_at hl 1 rfl) ?_
  obtain ⟨σ5, eσ5⟩ : ∃ z, z = pI σ rm 96 v1 := ⟨_, rfl⟩
  have h := h σ5 eσ5
  refine r_puti B hH hS 96 (ty := .int) (by decide) wf_X16_685 rfl rfl rfl rfl rfl rfl dX16_crash_34 (fun H locs hH => ?_)
  have hH : Hd D cA A s (pI σ rm 96 v1) H locs := hH
  rw [← eσ5] at hH
  have hGσ5 : RG σ5 := by rw [eσ5]; exact hGσ.pI g1
  have hS : Shp dm ra jx rm σ5 := by rw [eσ5]; exact hS
  have hc : CB n0 s0 σ5 := by rw [eσ5]; exact hc
  rw [show gc σ = gc σ5 by rw [eσ5], show gs σ = gs σ5 by rw [eσ5]]
  exact a_X16_crash_37 K hQ hX _ h hGσ5 hS _ _ _ hH (lv_sub (l' := [(0, .ref rm)]) hl [0] rfl) hc
set_option maxRecDepth 20000 in
theorem a_X16_crash_22 {Q : Sg → Unit → Prop} {X : Sg → String → Prop} (K : MC R p s m args c cX16_crash 2 RX16 D cA tys A n0 s0 0 0 []) (hQ : HQV p l e R s m args below meth c cX16_crash D cA A n0 s0 QM dm ra jx rm Q) (hX : HX p l e R s m args below meth c 2 D cA A n0 s0 QM dm ra jx rm X) : ∀ (σ : Sg) (v1 : Int) (u0 : Int) (g1 : rng v1) (gu0 : rng u0), w_X16_crash_22 ra jx rm Q X σ v1 u0 → RG σ → Shp dm ra jx rm σ → JJ p l e R s m args below meth c 2 D cA A n0 s0 QM σ 22 [(0, .ref rm), (1, .int (i32 v1))] [.int (i32 u0), .ref rm] := by
  intro σ v1 u0 g1 gu0 h hGσ hS H locs ls hH hl hc
  have B := K.1
  unfold w_X16_crash_22 at h
  obtain ⟨σ6, eσ6⟩ : ∃ z, z = pI σ rm 0 u0 := ⟨_, rfl⟩
  have h := h σ6 eσ6
  refine r_puti B hH hS 0 (ty := .int) (by decide) wf_X16_1 rfl rfl rfl rfl rfl rfl dX16_crash_22 (fun H locs hH => ?_)
  have hH : Hd D cA A s (pI σ rm 0 u0) H locs := hH
  rw [← eσ6] at hH
  have hGσ6 : RG σ6 := by rw [eσ6]; exact hGσ.pI gu0
  have hS : Shp dm ra jx rm σ6 := by rw [eσ6]; exact hS
  have hc : CB n0 s0 σ6 := by rw [eσ6]; exact hc
  rw [show gc σ = gc σ6 by rw [eσ6], show gs σ = gs σ6 by rw [eσ6]]
  refine lv_aload_n B.1 B.2.1 dX16_crash_25 rfl (lv_at hl 0 rfl) ?_
  refine r_geti B hH hS 0 (by decide) wf_X16_1 rfl rfl dX16_crash_26 ?_
  refine lv_if_ne (tgt := 37) B.1 B.2.1 dX16_crash_29 (by decide) (fun h9 => ?_) (fun h9 => ?_)
  · rw [if_pos (fun q => h9 ((z_eq (hGσ6 _ _)).mpr q))] at h
    exact a_X16_crash_37 K hQ hX _ h hGσ6 hS _ _ _ hH (lv_sub (l' := [(0, .ref rm)]) hl [0] rfl) hc
  · rw [if_neg (fun q => q ((z_eq (hGσ6 _ _)).mp h9))] at h
    exact a_X16_crash_32 K hQ hX _ _ g1 h hGσ6 hS _ _ _ hH (lv_sub (l' := [(0, .ref rm), (1, .int (i32 v1))]) hl [0, 1] rfl) hc
set_option maxRecDepth 20000 in
theorem a_X16_crash_21 {Q : Sg → Unit → Prop} {X : Sg → String → Prop} (K : MC R p s m args c cX16_crash 2 RX16 D cA tys A n0 s0 0 0 []) (hQ : HQV p l e R s m args below meth c cX16_crash D cA A n0 s0 QM dm ra jx rm Q) (hX : HX p l e R s m args below meth c 2 D cA A n0 s0 QM dm ra jx rm X) : ∀ (σ : Sg) (v1 : Int) (g1 : rng v1), w_X16_crash_21 ra jx rm Q X σ v1 → RG σ → Shp dm ra jx rm σ → JJ p l e R s m args below meth c 2 D cA A n0 s0 QM σ 21 [(0, .ref rm), (1, .int (i32 v1))] [.ref rm] := by
  intro σ v1 g1 h hGσ hS H locs ls hH hl hc
  have B := K.1
  unfold w_X16_crash_21 at h
  refine lv_iconst (v := i32 0) B.1 B.2.1 dX16_crash_21 (by decide) ?_
  exact a_X16_crash_22 K hQ hX _ _ _ g1 (by unfold rng; omega) h hGσ hS _ _ _ hH (lv_sub (l' := [(0, .ref rm), (1, .int (i32 v1))]) hl [0, 1] rfl) hc
set_option maxRecDepth 20000 in
theorem a_X16_crash_17 {Q : Sg → Unit → Prop} {X : Sg → String → Prop} (K : MC R p s m args c cX16_crash 2 RX16 D cA tys A n0 s0 0 0 []) (hQ : HQV p l e R s m args below meth c cX16_crash D cA A n0 s0 QM dm ra jx rm Q) (hX : HX p l e R s m args below meth c 2 D cA A n0 s0 QM dm ra jx rm X) : ∀ (σ : Sg) (v1 : Int) (g1 : rng v1), w_X16_crash_17 ra jx rm Q X σ v1 → RG σ → Shp dm ra jx rm σ → JJ p l e R s m args below meth c 2 D cA A n0 s0 QM σ 17 [(0, .ref rm), (1, .int (i32 v1))] [.ref rm] := by
  intro σ v1 g1 h hGσ hS H locs ls hH hl hc
  have B := K.1
  unfold w_X16_crash_17 at h
  refine lv_iconst (v := i32 2) B.1 B.2.1 dX16_crash_17 (by decide) ?_
  refine lv_goto (tgt := 22) B.1 B.2.1 dX16_crash_18 (by decide) ?_
  exact a_X16_crash_22 K hQ hX _ _ _ g1 (by unfold rng; omega) h hGσ hS _ _ _ hH (lv_sub (l' := [(0, .ref rm), (1, .int (i32 v1))]) hl [0, 1] rfl) hc
set_option maxRecDepth 20000 in
theorem a_X16_crash_12 {Q : Sg → Unit → Prop} {X : Sg → String → Prop} (K : MC R p s m args c cX16_crash 2 RX16 D cA tys A n0 s0 0 0 []) (hQ : HQV p l e R s m args below meth c cX16_crash D cA A n0 s0 QM dm ra jx rm Q) (hX : HX p l e R s m args below meth c 2 D cA A n0 s0 QM dm ra jx rm X) : ∀ (σ : Sg) (v1 : Int) (g1 : rng v1), w_X16_crash_12 ra jx rm Q X σ v1 → RG σ → Shp dm ra jx rm σ → JJ p l e R s m args below meth c 2 D cA A n0 s0 QM σ 12 [(0, .ref rm), (1, .int (i32 v1))] [.ref rm] := by
  intro σ v1 g1 h hGσ hS H locs ls hH hl hc
  have B := K.1
  unfold w_X16_crash_12 at h
  refine lv_iload_n B.1 B.2.1 dX16_crash_12 rfl (lv_at hl 1 rfl) ?_
  refine lv_iconst (v := i32 (-1)) B.1 B.2.1 dX16_crash_13 (by decide) ?_
  refine lv_icmp_ge (tgt := 21) B.1 B.2.1 dX16_crash_14 (by decide) (fun h9 => ?_) (fun h9 => ?_)
  · rw [if_pos ((i32_le (by unfold rng; omega) g1).mp h9)] at h
    exact a_X16_crash_21 K hQ hX _ _ g1 h hGσ hS _ _ _ hH (lv_sub (l' := [(0, .ref rm), (1, .int (i32 v1))]) hl [0, 1] rfl) hc
  · rw [if_neg (fun q => h9 ((i32_le (by unfold rng; omega) g1).mpr q))] at h
    exact a_X16_crash_17 K hQ hX _ _ g1 h hGσ hS _ _ _ hH (lv_sub (l' := [(0, .ref rm), (1, .int (i32 v1))]) hl [0, 1] rfl) hc
set_option maxRecDepth 20000 in
theorem a_X16_crash_8 {Q : Sg → Unit → Prop} {X : Sg → String → Prop} (K : MC R p s m args c cX16_crash 2 RX16 D cA tys A n0 s0 0 0 []) (hQ : HQV p l e R s m args below meth c cX16_crash D cA A n0 s0 QM dm ra jx rm Q) (hX : HX p l e R s m args below meth c 2 D cA A n0 s0 QM dm ra jx rm X) : ∀ (σ : Sg) (v1 : Int) (g1 : rng v1), w_X16_crash_8 ra jx rm Q X σ v1 → RG σ → Shp dm ra jx rm σ → JJ p l e R s m args below meth c 2 D cA A n0 s0 QM σ 8 [(0, .ref rm), (1, .int (i32 v1))] [.ref rm] := by
  intro σ v1 g1 h hGσ hS H locs ls hH hl hc
  have B := K.1
  unfold w_X16_crash_8 at h
  refine lv_iconst (v := i32 1) B.1 B.2.1 dX16_crash_8 (by decide) ?_
  refine lv_goto (tgt := 22) B.1 B.2.1 dX16_crash_9 (by decide) ?_
  exact a_X16_crash_22 K hQ hX _ _ _ g1 (by unfold rng; omega) h hGσ hS _ _ _ hH (lv_sub (l' := [(0, .ref rm), (1, .int (i32 v1))]) hl [0, 1] rfl) hc
set_option maxRecDepth 20000 in
theorem a_X16_crash_0 {Q : Sg → Unit → Prop} {X : Sg → String → Prop} (K : MC R p s m args c cX16_crash 2 RX16 D cA tys A n0 s0 0 0 []) (hQ : HQV p l e R s m args below meth c cX16_crash D cA A n0 s0 QM dm ra jx rm Q) (hX : HX p l e R s m args below meth c 2 D cA A n0 s0 QM dm ra jx rm X) : ∀ (σ : Sg) (v1 : Int) (g1 : rng v1), w_X16_crash_0 ra jx rm Q X σ v1 → RG σ → Shp dm ra jx rm σ → JJ p l e R s m args below meth c 2 D cA A n0 s0 QM σ 0 [(0, .ref rm), (1, .int (i32 v1))] [] := by
  intro σ v1 g1 h hGσ hS H locs ls hH hl hc
  have B := K.1
  unfold w_X16_crash_0 at h
  refine lv_aload_n B.1 B.2.1 dX16_crash_0 rfl (lv_at hl 0 rfl) ?_
  refine lv_aload_n B.1 B.2.1 dX16_crash_1 rfl (lv_at hl 0 rfl) ?_
  refine r_geti B hH hS 32 (by decide) wf_X16_688 rfl rfl dX16_crash_2 ?_
  refine lv_if_eq (tgt := 12) B.1 B.2.1 dX16_crash_5 (by decide) (fun h9 => ?_) (fun h9 => ?_)
  · rw [if_pos ((z_eq (hGσ _ _)).mp h9)] at h
    exact a_X16_crash_12 K hQ hX _ _ g1 h hGσ hS _ _ _ hH (lv_sub (l' := [(0, .ref rm), (1, .int (i32 v1))]) hl [0, 1] rfl) hc
  · rw [if_neg (fun q => h9 ((z_eq (hGσ _ _)).mpr q))] at h
    exact a_X16_crash_8 K hQ hX _ _ g1 h hGσ hS _ _ _ hH (lv_sub (l' := [(0, .ref rm), (1, .int (i32 v1))]) hl [0, 1] rfl) hc
theorem ok_X16_crash (hT : Tys cA tys) {Q : Sg → Unit → Prop} {X : Sg → String → Prop} (σ : Sg) (v1 : Int) (g1 : rng v1) (hG : RG σ) (hS : Shp dm ra jx rm σ) (h : wp_X16_crash ra jx rm v1 σ Q X) : Ok l D cA tys A yX16_crash (.code yX16_crash cX16_crash 2 none) 0 0 [.ref rm, .int (i32 v1)] σ (QnV dm ra jx rm Q) (QxR dm ra jx rm X) := by
  unfold wp_X16_crash at h
  exact ok_V (plainFor_of_name (by decide)) (by exact Nat.le_of_ble_eq_true rfl) hT (fun p e R s m args below meth c K hQ hX H locs ls hH hl hc => a_X16_crash_0 K hQ hX σ v1 g1 h hG hS H locs ls hH (lv_sub (l' := [(0, .ref rm), (1, .int (i32 v1))]) hl [0, 1] rfl) hc)
theorem dX16_down_0 : decode cX16_down 0 = .ok (.lload_n 0, 1) := by decide +kernel
theorem dX16_down_1 : decode cX16_down 1 = .ok (.lconst 0, 1) := by decide +kernel
theorem dX16_down_2 : decode cX16_down 2 = .ok (.lcmp, 1) := by decide +kernel
theorem dX16_down_3 : decode cX16_down 3 = .ok (.ifCond .lt 9, 3) := by decide +kernel
theorem dX16_down_6 : decode cX16_down 6 = .ok (.lload_n 0, 1) := by decide +kernel
theorem dX16_down_7 : decode cX16_down 7 = .ok (.lload_n 2, 1) := by decide +kernel
theorem dX16_down_8 : decode cX16_down 8 = .ok (.ldiv, 1) := by decide +kernel
theorem dX16_down_9 : decode cX16_down 9 = .ok (.goto 12, 3) := by decide +kernel
theorem dX16_down_12 : decode cX16_down 12 = .ok (.lload_n 0, 1) := by decide +kernel
theorem dX16_down_13 : decode cX16_down 13 = .ok (.lneg, 1) := by decide +kernel
theorem dX16_down_14 : decode cX16_down 14 = .ok (.lload_n 2, 1) := by decide +kernel
theorem dX16_down_15 : decode cX16_down 15 = .ok (.ladd, 1) := by decide +kernel
theorem dX16_down_16 : decode cX16_down 16 = .ok (.lconst 1, 1) := by decide +kernel
theorem dX16_down_17 : decode cX16_down 17 = .ok (.lsub, 1) := by decide +kernel
theorem dX16_down_18 : decode cX16_down 18 = .ok (.lload_n 2, 1) := by decide +kernel
theorem dX16_down_19 : decode cX16_down 19 = .ok (.ldiv, 1) := by decide +kernel
theorem dX16_down_20 : decode cX16_down 20 = .ok (.lneg, 1) := by decide +kernel
theorem dX16_down_21 : decode cX16_down 21 = .ok (.lreturn, 1) := by decide +kernel
set_option maxRecDepth 20000 in
theorem a_X16_down_21 {Q : Sg → Int64 → Prop} {X : Sg → String → Prop} (K : MC R p s m args c cX16_down 4 RX16 D cA tys A n0 s0 0 0 []) (hQ : HQJ p l e R s m args below meth c cX16_down D cA A n0 s0 QM dm ra jx rm Q) (hX : HX p l e R s m args below meth c 4 D cA A n0 s0 QM dm ra jx rm X) : ∀ (σ : Sg) (u0 : Int64), w_X16_down_21 ra jx rm Q X σ u0 → RG σ → Shp dm ra jx rm σ → JJ p l e R s m args below meth c 4 D cA A n0 s0 QM σ 21 [] [.long u0] := by
  intro σ u0 h hGσ hS H locs ls hH hl hc
  have B := K.1
  unfold w_X16_down_21 at h
  exact hQ _ _ _ _ _ _ dX16_down_21 hH hc h hGσ hS
set_option maxRecDepth 20000 in
theorem a_X16_down_12 {Q : Sg → Int64 → Prop} {X : Sg → String → Prop} (K : MC R p s m args c cX16_down 4 RX16 D cA tys A n0 s0 0 0 []) (hQ : HQJ p l e R s m args below meth c cX16_down D cA A n0 s0 QM dm ra jx rm Q) (hX : HX p l e R s m args below meth c 4 D cA A n0 s0 QM dm ra jx rm X) : ∀ (σ : Sg) (v0 : Int64) (v2 : Int64), w_X16_down_12 ra jx rm Q X σ v0 v2 → RG σ → Shp dm ra jx rm σ → JJ p l e R s m args below meth c 4 D cA A n0 s0 QM σ 12 [(0, .long v0), (2, .long v2)] [] := by
  intro σ v0 v2 h hGσ hS H locs ls hH hl hc
  have B := K.1
  unfold w_X16_down_12 at h
  refine lv_lload_n B.1 B.2.1 dX16_down_12 rfl (lv_at hl 0 rfl) ?_
  refine lv_lneg B.1 B.2.1 dX16_down_13 ?_
  refine lv_lload_n B.1 B.2.1 dX16_down_14 rfl (lv_at hl 1 rfl) ?_
  refine lv_ladd B.1 B.2.1 dX16_down_15 ?_
  refine lv_lconst (v := 1) B.1 B.2.1 dX16_down_16 (by decide) ?_
  refine lv_lsub B.1 B.2.1 dX16_down_17 ?_
  refine lv_lload_n B.1 B.2.1 dX16_down_18 rfl (lv_at hl 1 rfl) ?_
  obtain ⟨q1, h⟩ := h
  refine lv_ldiv B.1 B.2.1 dX16_down_19 q1 ?_
  refine lv_lneg B.1 B.2.1 dX16_down_20 ?_
  exact a_X16_down_21 K hQ hX _ _ h hGσ hS _ _ _ hH (lv_sub (l' := []) hl [] rfl) hc
set_option maxRecDepth 20000 in
theorem a_X16_down_6 {Q : Sg → Int64 → Prop} {X : Sg → String → Prop} (K : MC R p s m args c cX16_down 4 RX16 D cA tys A n0 s0 0 0 []) (hQ : HQJ p l e R s m args below meth c cX16_down D cA A n0 s0 QM dm ra jx rm Q) (hX : HX p l e R s m args below meth c 4 D cA A n0 s0 QM dm ra jx rm X) : ∀ (σ : Sg) (v0 : Int64) (v2 : Int64), w_X16_down_6 ra jx rm Q X σ v0 v2 → RG σ → Shp dm ra jx rm σ → JJ p l e R s m args below meth c 4 D cA A n0 s0 QM σ 6 [(0, .long v0), (2, .long v2)] [] := by
  intro σ v0 v2 h hGσ hS H locs ls hH hl hc
  have B := K.1
  unfold w_X16_down_6 at h
  refine lv_lload_n B.1 B.2.1 dX16_down_6 rfl (lv_at hl 0 rfl) ?_
  refine lv_lload_n B.1 B.2.1 dX16_down_7 rfl (lv_at hl 1 rfl) ?_
  obtain ⟨q1, h⟩ := h
  refine lv_ldiv B.1 B.2.1 dX16_down_8 q1 ?_
  refine lv_goto (tgt := 21) B.1 B.2.1 dX16_down_9 (by decide) ?_
  exact a_X16_down_21 K hQ hX _ _ h hGσ hS _ _ _ hH (lv_sub (l' := []) hl [] rfl) hc
set_option maxRecDepth 20000 in
theorem a_X16_down_0 {Q : Sg → Int64 → Prop} {X : Sg → String → Prop} (K : MC R p s m args c cX16_down 4 RX16 D cA tys A n0 s0 0 0 []) (hQ : HQJ p l e R s m args below meth c cX16_down D cA A n0 s0 QM dm ra jx rm Q) (hX : HX p l e R s m args below meth c 4 D cA A n0 s0 QM dm ra jx rm X) : ∀ (σ : Sg) (v0 : Int64) (v2 : Int64), w_X16_down_0 ra jx rm Q X σ v0 v2 → RG σ → Shp dm ra jx rm σ → JJ p l e R s m args below meth c 4 D cA A n0 s0 QM σ 0 [(0, .long v0), (2, .long v2)] [] := by
  intro σ v0 v2 h hGσ hS H locs ls hH hl hc
  have B := K.1
  unfold w_X16_down_0 at h
  refine lv_lload_n B.1 B.2.1 dX16_down_0 rfl (lv_at hl 0 rfl) ?_
  refine lv_lconst (v := 0) B.1 B.2.1 dX16_down_1 (by decide) ?_
  refine W.lcmp B.1 B.2.1 dX16_down_2 ?_
  refine lv_if_lt (tgt := 12) B.1 B.2.1 dX16_down_3 (by decide) (fun h9 => ?_) (fun h9 => ?_)
  · rw [if_pos ((lg_cmp_lt _ _).mp h9)] at h
    exact a_X16_down_12 K hQ hX _ _ _ h hGσ hS _ _ _ hH (lv_sub (l' := [(0, .long v0), (2, .long v2)]) hl [0, 1] rfl) hc
  · rw [if_neg (fun q => h9 ((lg_cmp_lt _ _).mpr q))] at h
    exact a_X16_down_6 K hQ hX _ _ _ h hGσ hS _ _ _ hH (lv_sub (l' := [(0, .long v0), (2, .long v2)]) hl [0, 1] rfl) hc
theorem ok_X16_down (hT : Tys cA tys) {Q : Sg → Int64 → Prop} {X : Sg → String → Prop} (σ : Sg) (v0 : Int64) (v2 : Int64) (hG : RG σ) (hS : Shp dm ra jx rm σ) (h : wp_X16_down ra jx rm v0 v2 σ Q X) : Ok l D cA tys A yX16_down (.code yX16_down cX16_down 4 (some .long)) 0 0 [.long v0, .long v2] σ (QnJ dm ra jx rm Q) (QxR dm ra jx rm X) := by
  unfold wp_X16_down at h
  exact ok_J (plainFor_of_name (by decide)) (by exact Nat.le_of_ble_eq_true rfl) hT (fun p e R s m args below meth c K hQ hX H locs ls hH hl hc => a_X16_down_0 K hQ hX σ v0 v2 h hG hS H locs ls hH (lv_sub (l' := [(0, .long v0), (2, .long v2)]) hl [0, 1] rfl) hc)
theorem dX16_drop_0 : decode cX16_drop 0 = .ok (.aload_n 0, 1) := by decide +kernel
theorem dX16_drop_1 : decode cX16_drop 1 = .ok (.getfield 516, 3) := by decide +kernel
theorem dX16_drop_4 : decode cX16_drop 4 = .ok (.iload_n 1, 1) := by decide +kernel
theorem dX16_drop_5 : decode cX16_drop 5 = .ok (.iaload, 1) := by decide +kernel
theorem dX16_drop_6 : decode cX16_drop 6 = .ok (.istore_n 2, 1) := by decide +kernel
theorem dX16_drop_7 : decode cX16_drop 7 = .ok (.iconst (-1), 1) := by decide +kernel
theorem dX16_drop_8 : decode cX16_drop 8 = .ok (.istore_n 3, 1) := by decide +kernel
theorem dX16_drop_9 : decode cX16_drop 9 = .ok (.aload_n 0, 1) := by decide +kernel
theorem dX16_drop_10 : decode cX16_drop 10 = .ok (.getfield 504, 3) := by decide +kernel
theorem dX16_drop_13 : decode cX16_drop 13 = .ok (.iload_n 2, 1) := by decide +kernel
theorem dX16_drop_14 : decode cX16_drop 14 = .ok (.iaload, 1) := by decide +kernel
theorem dX16_drop_15 : decode cX16_drop 15 = .ok (.istore 4, 2) := by decide +kernel
theorem dX16_drop_17 : decode cX16_drop 17 = .ok (.iload 4, 2) := by decide +kernel
theorem dX16_drop_19 : decode cX16_drop 19 = .ok (.iload_n 1, 1) := by decide +kernel
theorem dX16_drop_20 : decode cX16_drop 20 = .ok (.if_icmp .eq 18, 3) := by decide +kernel
theorem dX16_drop_23 : decode cX16_drop 23 = .ok (.iload 4, 2) := by decide +kernel
theorem dX16_drop_25 : decode cX16_drop 25 = .ok (.istore_n 3, 1) := by decide +kernel
theorem dX16_drop_26 : decode cX16_drop 26 = .ok (.aload_n 0, 1) := by decide +kernel
theorem dX16_drop_27 : decode cX16_drop 27 = .ok (.getfield 495, 3) := by decide +kernel
theorem dX16_drop_30 : decode cX16_drop 30 = .ok (.iload 4, 2) := by decide +kernel
theorem dX16_drop_32 : decode cX16_drop 32 = .ok (.iaload, 1) := by decide +kernel
theorem dX16_drop_33 : decode cX16_drop 33 = .ok (.istore 4, 2) := by decide +kernel
theorem dX16_drop_35 : decode cX16_drop 35 = .ok (.goto (-18), 3) := by decide +kernel
theorem dX16_drop_38 : decode cX16_drop 38 = .ok (.iload_n 3, 1) := by decide +kernel
theorem dX16_drop_39 : decode cX16_drop 39 = .ok (.iconst (-1), 1) := by decide +kernel
theorem dX16_drop_40 : decode cX16_drop 40 = .ok (.if_icmp .ne 18, 3) := by decide +kernel
theorem dX16_drop_43 : decode cX16_drop 43 = .ok (.aload_n 0, 1) := by decide +kernel
theorem dX16_drop_44 : decode cX16_drop 44 = .ok (.getfield 504, 3) := by decide +kernel
theorem dX16_drop_47 : decode cX16_drop 47 = .ok (.iload_n 2, 1) := by decide +kernel
theorem dX16_drop_48 : decode cX16_drop 48 = .ok (.aload_n 0, 1) := by decide +kernel
theorem dX16_drop_49 : decode cX16_drop 49 = .ok (.getfield 495, 3) := by decide +kernel
theorem dX16_drop_52 : decode cX16_drop 52 = .ok (.iload_n 1, 1) := by decide +kernel
theorem dX16_drop_53 : decode cX16_drop 53 = .ok (.iaload, 1) := by decide +kernel
theorem dX16_drop_54 : decode cX16_drop 54 = .ok (.iastore, 1) := by decide +kernel
theorem dX16_drop_55 : decode cX16_drop 55 = .ok (.goto 15, 3) := by decide +kernel
theorem dX16_drop_58 : decode cX16_drop 58 = .ok (.aload_n 0, 1) := by decide +kernel
theorem dX16_drop_59 : decode cX16_drop 59 = .ok (.getfield 495, 3) := by decide +kernel
theorem dX16_drop_62 : decode cX16_drop 62 = .ok (.iload_n 3, 1) := by decide +kernel
theorem dX16_drop_63 : decode cX16_drop 63 = .ok (.aload_n 0, 1) := by decide +kernel
theorem dX16_drop_64 : decode cX16_drop 64 = .ok (.getfield 495, 3) := by decide +kernel
theorem dX16_drop_67 : decode cX16_drop 67 = .ok (.iload_n 1, 1) := by decide +kernel
theorem dX16_drop_68 : decode cX16_drop 68 = .ok (.iaload, 1) := by decide +kernel
theorem dX16_drop_69 : decode cX16_drop 69 = .ok (.iastore, 1) := by decide +kernel
theorem dX16_drop_70 : decode cX16_drop 70 = .ok (.aload_n 0, 1) := by decide +kernel
theorem dX16_drop_71 : decode cX16_drop 71 = .ok (.getfield 507, 3) := by decide +kernel
theorem dX16_drop_74 : decode cX16_drop 74 = .ok (.iload_n 2, 1) := by decide +kernel
theorem dX16_drop_75 : decode cX16_drop 75 = .ok (.aload_n 0, 1) := by decide +kernel
theorem dX16_drop_76 : decode cX16_drop 76 = .ok (.getfield 507, 3) := by decide +kernel
theorem dX16_drop_79 : decode cX16_drop 79 = .ok (.iload_n 2, 1) := by decide +kernel
theorem dX16_drop_80 : decode cX16_drop 80 = .ok (.iaload, 1) := by decide +kernel
theorem dX16_drop_81 : decode cX16_drop 81 = .ok (.iload_n 1, 1) := by decide +kernel
theorem dX16_drop_82 : decode cX16_drop 82 = .ok (.if_icmp .ne 7, 3) := by decide +kernel
theorem dX16_drop_85 : decode cX16_drop 85 = .ok (.iload_n 3, 1) := by decide +kernel
theorem dX16_drop_86 : decode cX16_drop 86 = .ok (.goto 9, 3) := by decide +kernel
theorem dX16_drop_89 : decode cX16_drop 89 = .ok (.aload_n 0, 1) := by decide +kernel
theorem dX16_drop_90 : decode cX16_drop 90 = .ok (.getfield 507, 3) := by decide +kernel
theorem dX16_drop_93 : decode cX16_drop 93 = .ok (.iload_n 2, 1) := by decide +kernel
theorem dX16_drop_94 : decode cX16_drop 94 = .ok (.iaload, 1) := by decide +kernel
theorem dX16_drop_95 : decode cX16_drop 95 = .ok (.iastore, 1) := by decide +kernel
theorem dX16_drop_96 : decode cX16_drop 96 = .ok (.aload_n 0, 1) := by decide +kernel
theorem dX16_drop_97 : decode cX16_drop 97 = .ok (.getfield 495, 3) := by decide +kernel
theorem dX16_drop_100 : decode cX16_drop 100 = .ok (.iload_n 1, 1) := by decide +kernel
theorem dX16_drop_101 : decode cX16_drop 101 = .ok (.aload_n 0, 1) := by decide +kernel
theorem dX16_drop_102 : decode cX16_drop 102 = .ok (.getfield 498, 3) := by decide +kernel
theorem dX16_drop_105 : decode cX16_drop 105 = .ok (.iastore, 1) := by decide +kernel
theorem dX16_drop_106 : decode cX16_drop 106 = .ok (.aload_n 0, 1) := by decide +kernel
theorem dX16_drop_107 : decode cX16_drop 107 = .ok (.iload_n 1, 1) := by decide +kernel
theorem dX16_drop_108 : decode cX16_drop 108 = .ok (.putfield 498, 3) := by decide +kernel
theorem dX16_drop_111 : decode cX16_drop 111 = .ok (.aload_n 0, 1) := by decide +kernel
theorem dX16_drop_112 : decode cX16_drop 112 = .ok (.getfield 510, 3) := by decide +kernel
theorem dX16_drop_115 : decode cX16_drop 115 = .ok (.iload_n 2, 1) := by decide +kernel
theorem dX16_drop_116 : decode cX16_drop 116 = .ok (.dup2, 1) := by decide +kernel
theorem dX16_drop_117 : decode cX16_drop 117 = .ok (.iaload, 1) := by decide +kernel
theorem dX16_drop_118 : decode cX16_drop 118 = .ok (.iconst 1, 1) := by decide +kernel
theorem dX16_drop_119 : decode cX16_drop 119 = .ok (.isub, 1) := by decide +kernel
theorem dX16_drop_120 : decode cX16_drop 120 = .ok (.iastore, 1) := by decide +kernel
theorem dX16_drop_121 : decode cX16_drop 121 = .ok (.aload_n 0, 1) := by decide +kernel
theorem dX16_drop_122 : decode cX16_drop 122 = .ok (.dup, 1) := by decide +kernel
theorem dX16_drop_123 : decode cX16_drop 123 = .ok (.getfield 501, 3) := by decide +kernel
theorem dX16_drop_126 : decode cX16_drop 126 = .ok (.iconst 1, 1) := by decide +kernel
theorem dX16_drop_127 : decode cX16_drop 127 = .ok (.isub, 1) := by decide +kernel
theorem dX16_drop_128 : decode cX16_drop 128 = .ok (.putfield 501, 3) := by decide +kernel
theorem dX16_drop_131 : decode cX16_drop 131 = .ok (.return_, 1) := by decide +kernel
set_option maxRecDepth 20000 in
theorem a_X16_drop_95 {Q : Sg → Unit → Prop} {X : Sg → String → Prop} (K : MC R p s m args c cX16_drop 5 RX16 D cA tys A n0 s0 0 0 []) (hQ : HQV p l e R s m args below meth c cX16_drop D cA A n0 s0 QM dm ra jx rm Q) (hX : HX p l e R s m args below meth c 5 D cA A n0 s0 QM dm ra jx rm X) : ∀ (σ : Sg) (v1 : Int) (v2 : Int) (u0 : Int) (u1 : Int) (g1 : rng v1) (g2 : rng v2) (gu0 : rng u0) (gu1 : rng u1), w_X16_drop_95 ra jx rm Q X σ v1 v2 u0 u1 → RG σ → Shp dm ra jx rm σ → JJ p l e R s m args below meth c 5 D cA A n0 s0 QM σ 95 [(0, .ref rm), (1, .int (i32 v1)), (2, .int (i32 v2))] [.int (i32 u0), .int (i32 u1), .ref (ra 77)] := by
  intro σ v1 v2 u0 u1 g1 g2 gu0 gu1 h hGσ hS H locs ls hH hl hc
  have B := K.1
  unfold w_X16_drop_95 at h
  obtain ⟨q1, h⟩ := h
  obtain ⟨σ15, eσ15⟩ : ∃ z, z = pI σ (ra 77) u1.toNat u0 := ⟨_, rfl⟩
  have h := h σ15 eσ15
  refine x_iast B K.2.1 hH (hS.ar (k := 77) (kd := 100) (n := 64) (by decide)) (by decide) q1 dX16_drop_95 (fun H locs hH => ?_)
  have hH : Hd D cA A s (pI σ (ra 77) u1.toNat u0) H locs := hH
  rw [← eσ15] at hH
  have hGσ15 : RG σ15 := by rw [eσ15]; exact hGσ.pI gu0
  have hS : Shp dm ra jx rm σ15 := by rw [eσ15]; exact hS
  have hc : CB n0 s0 σ15 := by rw [eσ15]; exact hc
  rw [show gc σ = gc σ15 by rw [eσ15], show gs σ = gs σ15 by rw [eσ15]]
  refine lv_aload_n B.1 B.2.1 dX16_drop_96 rfl (lv_at hl 0 rfl) ?_
  refine r_arr B hH hS 75 (kd := 100) (n := 4000) (by decide) (by decide) wf_X16_495 rfl rfl dX16_drop_97 ?_
  refine lv_iload_n B.1 B.2.1 dX16_drop_100 rfl (lv_at hl 1 rfl) ?_
  refine lv_aload_n B.1 B.2.1 dX16_drop_101 rfl (lv_at hl 0 rfl) ?_
  refine r_geti B hH hS 79 (by decide) wf_X16_498 rfl rfl dX16_drop_102 ?_
  obtain ⟨q3, h⟩ := h
  obtain ⟨σ16, eσ16⟩ : ∃ z, z = pI σ15 (ra 75) v1.toNat (gI σ15 rm 79) := ⟨_, rfl⟩
  have h := h σ16 eσ16
  refine x_iast B K.2.1 hH (hS.ar (k := 75) (kd := 100) (n := 4000) (by decide)) (by decide) q3 dX16_drop_105 (fun H locs hH => ?_)
  have hH : Hd D cA A s (pI σ15 (ra 75) v1.toNat (gI σ15 rm 79)) H locs := hH
  rw [← eσ16] at hH
  have hGσ16 : RG σ16 := by rw [eσ16]; exact hGσ15.pI (hGσ15 _ _)
  have hS : Shp dm ra jx rm σ16 := by rw [eσ16]; exact hS
  have hc : CB n0 s0 σ16 := by rw [eσ16]; exact hc
  rw [show gc σ15 = gc σ16 by rw [eσ16], show gs σ15 = gs σ16 by rw [eσ16]]
  refine lv_aload_n B.1 B.2.1 dX16_drop_106 rfl (lv_at hl 0 rfl) ?_
  refine lv_iload_n B.1 B.2.1 dX16_drop_107 rfl (lv_at hl 1 rfl) ?_
  obtain ⟨σ17, eσ17⟩ : ∃ z, z = pI σ16 rm 79 v1 := ⟨_, rfl⟩
  have h := h σ17 eσ17
  refine r_puti B hH hS 79 (ty := .int) (by decide) wf_X16_498 rfl rfl rfl rfl rfl rfl dX16_drop_108 (fun H locs hH => ?_)
  have hH : Hd D cA A s (pI σ16 rm 79 v1) H locs := hH
  rw [← eσ17] at hH
  have hGσ17 : RG σ17 := by rw [eσ17]; exact hGσ16.pI g1
  have hS : Shp dm ra jx rm σ17 := by rw [eσ17]; exact hS
  have hc : CB n0 s0 σ17 := by rw [eσ17]; exact hc
  rw [show gc σ16 = gc σ17 by rw [eσ17], show gs σ16 = gs σ17 by rw [eσ17]]
  refine lv_aload_n B.1 B.2.1 dX16_drop_111 rfl (lv_at hl 0 rfl) ?_
  refine r_arr B hH hS 78 (kd := 100) (n := 64) (by decide) (by decide) wf_X16_510 rfl rfl dX16_drop_112 ?_
  refine lv_iload_n B.1 B.2.1 dX16_drop_115 rfl (lv_at hl 2 rfl) ?_
  refine lv_dup2_11 B.1 B.2.1 dX16_drop_116 rfl rfl ?_
  obtain ⟨q6, h⟩ := h
  refine x_iald B K.2.1 hH (hS.ar (k := 78) (kd := 100) (n := 64) (by decide)) (by decide) q6 dX16_drop_117 ?_
  refine lv_iconst (v := i32 1) B.1 B.2.1 dX16_drop_118 (by decide) ?_
  obtain ⟨q7, h⟩ := h
  refine lv_isub B.1 B.2.1 dX16_drop_119 ?_
  rw [i32_sub]
  obtain ⟨q8, h⟩ := h
  obtain ⟨σ18, eσ18⟩ : ∃ z, z = pI σ17 (ra 78) v2.toNat ((gI σ17 (ra 78) v2.toNat) - 1) := ⟨_, rfl⟩
  have h := h σ18 eσ18
  refine x_iast B K.2.1 hH (hS.ar (k := 78) (kd := 100) (n := 64) (by decide)) (by decide) q8 dX16_drop_120 (fun H locs hH => ?_)
  have hH : Hd D cA A s (pI σ17 (ra 78) v2.toNat ((gI σ17 (ra 78) v2.toNat) - 1)) H locs := hH
  rw [← eσ18] at hH
  have hGσ18 : RG σ18 := by rw [eσ18]; exact hGσ17.pI q7
  have hS : Shp dm ra jx rm σ18 := by rw [eσ18]; exact hS
  have hc : CB n0 s0 σ18 := by rw [eσ18]; exact hc
  rw [show gc σ17 = gc σ18 by rw [eσ18], show gs σ17 = gs σ18 by rw [eσ18]]
  refine lv_aload_n B.1 B.2.1 dX16_drop_121 rfl (lv_at hl 0 rfl) ?_
  refine lv_dup B.1 B.2.1 dX16_drop_122 rfl ?_
  refine r_geti B hH hS 80 (by decide) wf_X16_501 rfl rfl dX16_drop_123 ?_
  refine lv_iconst (v := i32 1) B.1 B.2.1 dX16_drop_126 (by decide) ?_
  obtain ⟨q10, h⟩ := h
  refine lv_isub B.1 B.2.1 dX16_drop_127 ?_
  rw [i32_sub]
  obtain ⟨σ19, eσ19⟩ : ∃ z, z = pI σ18 rm 80 (gI σ18 rm 80 - 1) := ⟨_, rfl⟩
  have h := h σ19 eσ19
  refine r_puti B hH hS 80 (ty := .int) (by decide) wf_X16_501 rfl rfl rfl rfl rfl rfl dX16_drop_128 (fun H locs hH => ?_)
  have hH : Hd D cA A s (pI σ18 rm 80 (gI σ18 rm 80 - 1)) H locs := hH
  rw [← eσ19] at hH
  have hGσ19 : RG σ19 := by rw [eσ19]; exact hGσ18.pI q10
  have hS : Shp dm ra jx rm σ19 := by rw [eσ19]; exact hS
  have hc : CB n0 s0 σ19 := by rw [eσ19]; exact hc
  rw [show gc σ18 = gc σ19 by rw [eσ19], show gs σ18 = gs σ19 by rw [eσ19]]
  exact hQ _ _ _ _ _ dX16_drop_131 hH hc h hGσ19 hS
set_option maxRecDepth 20000 in
theorem a_X16_drop_89 {Q : Sg → Unit → Prop} {X : Sg → String → Prop} (K : MC R p s m args c cX16_drop 5 RX16 D cA tys A n0 s0 0 0 []) (hQ : HQV p l e R s m args below meth c cX16_drop D cA A n0 s0 QM dm ra jx rm Q) (hX : HX p l e R s m args below meth c 5 D cA A n0 s0 QM dm ra jx rm X) : ∀ (σ : Sg) (v1 : Int) (v2 : Int) (u0 : Int) (g1 : rng v1) (g2 : rng v2) (gu0 : rng u0), w_X16_drop_89 ra jx rm Q X σ v1 v2 u0 → RG σ → Shp dm ra jx rm σ → JJ p l e R s m args below meth c 5 D cA A n0 s0 QM σ 89 [(0, .ref rm), (1, .int (i32 v1)), (2, .int (i32 v2))] [.int (i32 u0), .ref (ra 77)] := by
  intro σ v1 v2 u0 g1 g2 gu0 h hGσ hS H locs ls hH hl hc
  have B := K.1
  unfold w_X16_drop_89 at h
  refine lv_aload_n B.1 B.2.1 dX16_drop_89 rfl (lv_at hl 0 rfl) ?_
  refine r_arr B hH hS 77 (kd := 100) (n := 64) (by decide) (by decide) wf_X16_507 rfl rfl dX16_drop_90 ?_
  refine lv_iload_n B.1 B.2.1 dX16_drop_93 rfl (lv_at hl 2 rfl) ?_
  obtain ⟨q1, h⟩ := h
  refine x_iald B K.2.1 hH (hS.ar (k := 77) (kd := 100) (n := 64) (by decide)) (by decide) q1 dX16_drop_94 ?_
  exact a_X16_drop_95 K hQ hX _ _ _ _ _ g1 g2 (hGσ _ _) gu0 h hGσ hS _ _ _ hH (lv_sub (l' := [(0, .ref rm), (1, .int (i32 v1)), (2, .int (i32 v2))]) hl [0, 1, 2] rfl) hc
set_option maxRecDepth 20000 in
theorem a_X16_drop_85 {Q : Sg → Unit → Prop} {X : Sg → String → Prop} (K : MC R p s m args c cX16_drop 5 RX16 D cA tys A n0 s0 0 0 []) (hQ : HQV p l e R s m args below meth c cX16_drop D cA A n0 s0 QM dm ra jx rm Q) (hX : HX p l e R s m args below meth c 5 D cA A n0 s0 QM dm ra jx rm X) : ∀ (σ : Sg) (v1 : Int) (v2 : Int) (v3 : Int) (u0 : Int) (g1 : rng v1) (g2 : rng v2) (g3 : rng v3) (gu0 : rng u0), w_X16_drop_85 ra jx rm Q X σ v1 v2 v3 u0 → RG σ → Shp dm ra jx rm σ → JJ p l e R s m args below meth c 5 D cA A n0 s0 QM σ 85 [(0, .ref rm), (1, .int (i32 v1)), (2, .int (i32 v2)), (3, .int (i32 v3))] [.int (i32 u0), .ref (ra 77)] := by
  intro σ v1 v2 v3 u0 g1 g2 g3 gu0 h hGσ hS H locs ls hH hl hc
  have B := K.1
  unfold w_X16_drop_85 at h
  refine lv_iload_n B.1 B.2.1 dX16_drop_85 rfl (lv_at hl 3 rfl) ?_
  refine lv_goto (tgt := 95) B.1 B.2.1 dX16_drop_86 (by decide) ?_
  exact a_X16_drop_95 K hQ hX _ _ _ _ _ g1 g2 g3 gu0 h hGσ hS _ _ _ hH (lv_sub (l' := [(0, .ref rm), (1, .int (i32 v1)), (2, .int (i32 v2))]) hl [0, 1, 2] rfl) hc
set_option maxRecDepth 20000 in
theorem a_X16_drop_70 {Q : Sg → Unit → Prop} {X : Sg → String → Prop} (K : MC R p s m args c cX16_drop 5 RX16 D cA tys A n0 s0 0 0 []) (hQ : HQV p l e R s m args below meth c cX16_drop D cA A n0 s0 QM dm ra jx rm Q) (hX : HX p l e R s m args below meth c 5 D cA A n0 s0 QM dm ra jx rm X) : ∀ (σ : Sg) (v1 : Int) (v2 : Int) (v3 : Int) (g1 : rng v1) (g2 : rng v2) (g3 : rng v3), w_X16_drop_70 ra jx rm Q X σ v1 v2 v3 → RG σ → Shp dm ra jx rm σ → JJ p l e R s m args below meth c 5 D cA A n0 s0 QM σ 70 [(0, .ref rm), (1, .int (i32 v1)), (2, .int (i32 v2)), (3, .int (i32 v3))] [] := by
  intro σ v1 v2 v3 g1 g2 g3 h hGσ hS H locs ls hH hl hc
  have B := K.1
  unfold w_X16_drop_70 at h
  refine lv_aload_n B.1 B.2.1 dX16_drop_70 rfl (lv_at hl 0 rfl) ?_
  refine r_arr B hH hS 77 (kd := 100) (n := 64) (by decide) (by decide) wf_X16_507 rfl rfl dX16_drop_71 ?_
  refine lv_iload_n B.1 B.2.1 dX16_drop_74 rfl (lv_at hl 2 rfl) ?_
  refine lv_aload_n B.1 B.2.1 dX16_drop_75 rfl (lv_at hl 0 rfl) ?_
  refine r_arr B hH hS 77 (kd := 100) (n := 64) (by decide) (by decide) wf_X16_507 rfl rfl dX16_drop_76 ?_
  refine lv_iload_n B.1 B.2.1 dX16_drop_79 rfl (lv_at hl 2 rfl) ?_
  obtain ⟨q1, h⟩ := h
  refine x_iald B K.2.1 hH (hS.ar (k := 77) (kd := 100) (n := 64) (by decide)) (by decide) q1 dX16_drop_80 ?_
  refine lv_iload_n B.1 B.2.1 dX16_drop_81 rfl (lv_at hl 1 rfl) ?_
  refine lv_icmp_ne (tgt := 89) B.1 B.2.1 dX16_drop_82 (by decide) (fun h9 => ?_) (fun h9 => ?_)
  · rw [if_pos (fun q => h9 ((i32_eq (hGσ _ _) g1).mpr q))] at h
    exact a_X16_drop_89 K hQ hX _ _ _ _ g1 g2 g2 h hGσ hS _ _ _ hH (lv_sub (l' := [(0, .ref rm), (1, .int (i32 v1)), (2, .int (i32 v2))]) hl [0, 1, 2] rfl) hc
  · rw [if_neg (fun q => q ((i32_eq (hGσ _ _) g1).mp h9))] at h
    exact a_X16_drop_85 K hQ hX _ _ _ _ _ g1 g2 g3 g2 h hGσ hS _ _ _ hH (lv_sub (l' := [(0, .ref rm), (1, .int (i32 v1)), (2, .int (i32 v2)), (3, .int (i32 v3))]) hl [0, 1, 2, 3] rfl) hc
set_option maxRecDepth 20000 in
theorem a_X16_drop_58 {Q : Sg → Unit → Prop} {X : Sg → String → Prop} (K : MC R p s m args c cX16_drop 5 RX16 D cA tys A n0 s0 0 0 []) (hQ : HQV p l e R s m args below meth c cX16_drop D cA A n0 s0 QM dm ra jx rm Q) (hX : HX p l e R s m args below meth c 5 D cA A n0 s0 QM dm ra jx rm X) : ∀ (σ : Sg) (v1 : Int) (v2 : Int) (v3 : Int) (g1 : rng v1) (g2 : rng v2) (g3 : rng v3), w_X16_drop_58 ra jx rm Q X σ v1 v2 v3 → RG σ → Shp dm ra jx rm σ → JJ p l e R s m args below meth c 5 D cA A n0 s0 QM σ 58 [(0, .ref rm), (1, .int (i32 v1)), (2, .int (i32 v2)), (3, .int (i32 v3))] [] := by
  intro σ v1 v2 v3 g1 g2 g3 h hGσ hS H locs ls hH hl hc
  have B := K.1
  unfold w_X16_drop_58 at h
  refine lv_aload_n B.1 B.2.1 dX16_drop_58 rfl (lv_at hl 0 rfl) ?_
  refine r_arr B hH hS 75 (kd := 100) (n := 4000) (by decide) (by decide) wf_X16_495 rfl rfl dX16_drop_59 ?_
  refine lv_iload_n B.1 B.2.1 dX16_drop_62 rfl (lv_at hl 3 rfl) ?_
  refine lv_aload_n B.1 B.2.1 dX16_drop_63 rfl (lv_at hl 0 rfl) ?_
  refine r_arr B hH hS 75 (kd := 100) (n := 4000) (by decide) (by decide) wf_X16_495 rfl rfl dX16_drop_64 ?_
  refine lv_iload_n B.1 B.2.1 dX16_drop_67 rfl (lv_at hl 1 rfl) ?_
  obtain ⟨q1, h⟩ := h
  refine x_iald B K.2.1 hH (hS.ar (k := 75) (kd := 100) (n := 4000) (by decide)) (by decide) q1 dX16_drop_68 ?_
  obtain ⟨q2, h⟩ := h
  obtain ⟨σ20, eσ20⟩ : ∃ z, z = pI σ (ra 75) v3.toNat (gI σ (ra 75) v1.toNat) := ⟨_, rfl⟩
  have h := h σ20 eσ20
  refine x_iast B K.2.1 hH (hS.ar (k := 75) (kd := 100) (n := 4000) (by decide)) (by decide) q2 dX16_drop_69 (fun H locs hH => ?_)
  have hH : Hd D cA A s (pI σ (ra 75) v3.toNat (gI σ (ra 75) v1.toNat)) H locs := hH
  rw [← eσ20] at hH
  have hGσ20 : RG σ20 := by rw [eσ20]; exact hGσ.pI (hGσ _ _)
  have hS : Shp dm ra jx rm σ20 := by rw [eσ20]; exact hS
  have hc : CB n0 s0 σ20 := by rw [eσ20]; exact hc
  rw [show gc σ = gc σ20 by rw [eσ20], show gs σ = gs σ20 by rw [eσ20]]
  exact a_X16_drop_70 K hQ hX _ _ _ _ g1 g2 g3 h hGσ20 hS _ _ _ hH (lv_sub (l' := [(0, .ref rm), (1, .int (i32 v1)), (2, .int (i32 v2)), (3, .int (i32 v3))]) hl [0, 1, 2, 3] rfl) hc
set_option maxRecDepth 20000 in
theorem a_X16_drop_43 {Q : Sg → Unit → Prop} {X : Sg → String → Prop} (K : MC R p s m args c cX16_drop 5 RX16 D cA tys A n0 s0 0 0 []) (hQ : HQV p l e R s m args below meth c cX16_drop D cA A n0 s0 QM dm ra jx rm Q) (hX : HX p l e R s m args below meth c 5 D cA A n0 s0 QM dm ra jx rm X) : ∀ (σ : Sg) (v1 : Int) (v2 : Int) (v3 : Int) (g1 : rng v1) (g2 : rng v2) (g3 : rng v3), w_X16_drop_43 ra jx rm Q X σ v1 v2 v3 → RG σ → Shp dm ra jx rm σ → JJ p l e R s m args below meth c 5 D cA A n0 s0 QM σ 43 [(0, .ref rm), (1, .int (i32 v1)), (2, .int (i32 v2)), (3, .int (i32 v3))] [] := by
  intro σ v1 v2 v3 g1 g2 g3 h hGσ hS H locs ls hH hl hc
  have B := K.1
  unfold w_X16_drop_43 at h
  refine lv_aload_n B.1 B.2.1 dX16_drop_43 rfl (lv_at hl 0 rfl) ?_
  refine r_arr B hH hS 76 (kd := 100) (n := 64) (by decide) (by decide) wf_X16_504 rfl rfl dX16_drop_44 ?_
  refine lv_iload_n B.1 B.2.1 dX16_drop_47 rfl (lv_at hl 2 rfl) ?_
  refine lv_aload_n B.1 B.2.1 dX16_drop_48 rfl (lv_at hl 0 rfl) ?_
  refine r_arr B hH hS 75 (kd := 100) (n := 4000) (by decide) (by decide) wf_X16_495 rfl rfl dX16_drop_49 ?_
  refine lv_iload_n B.1 B.2.1 dX16_drop_52 rfl (lv_at hl 1 rfl) ?_
  obtain ⟨q1, h⟩ := h
  refine x_iald B K.2.1 hH (hS.ar (k := 75) (kd := 100) (n := 4000) (by decide)) (by decide) q1 dX16_drop_53 ?_
  obtain ⟨q2, h⟩ := h
  obtain ⟨σ21, eσ21⟩ : ∃ z, z = pI σ (ra 76) v2.toNat (gI σ (ra 75) v1.toNat) := ⟨_, rfl⟩
  have h := h σ21 eσ21
  refine x_iast B K.2.1 hH (hS.ar (k := 76) (kd := 100) (n := 64) (by decide)) (by decide) q2 dX16_drop_54 (fun H locs hH => ?_)
  have hH : Hd D cA A s (pI σ (ra 76) v2.toNat (gI σ (ra 75) v1.toNat)) H locs := hH
  rw [← eσ21] at hH
  have hGσ21 : RG σ21 := by rw [eσ21]; exact hGσ.pI (hGσ _ _)
  have hS : Shp dm ra jx rm σ21 := by rw [eσ21]; exact hS
  have hc : CB n0 s0 σ21 := by rw [eσ21]; exact hc
  rw [show gc σ = gc σ21 by rw [eσ21], show gs σ = gs σ21 by rw [eσ21]]
  refine lv_goto (tgt := 70) B.1 B.2.1 dX16_drop_55 (by decide) ?_
  exact a_X16_drop_70 K hQ hX _ _ _ _ g1 g2 g3 h hGσ21 hS _ _ _ hH (lv_sub (l' := [(0, .ref rm), (1, .int (i32 v1)), (2, .int (i32 v2)), (3, .int (i32 v3))]) hl [0, 1, 2, 3] rfl) hc
set_option maxRecDepth 20000 in
theorem a_X16_drop_38 {Q : Sg → Unit → Prop} {X : Sg → String → Prop} (K : MC R p s m args c cX16_drop 5 RX16 D cA tys A n0 s0 0 0 []) (hQ : HQV p l e R s m args below meth c cX16_drop D cA A n0 s0 QM dm ra jx rm Q) (hX : HX p l e R s m args below meth c 5 D cA A n0 s0 QM dm ra jx rm X) : ∀ (σ : Sg) (v1 : Int) (v2 : Int) (v3 : Int) (g1 : rng v1) (g2 : rng v2) (g3 : rng v3), w_X16_drop_38 ra jx rm Q X σ v1 v2 v3 → RG σ → Shp dm ra jx rm σ → JJ p l e R s m args below meth c 5 D cA A n0 s0 QM σ 38 [(0, .ref rm), (1, .int (i32 v1)), (2, .int (i32 v2)), (3, .int (i32 v3))] [] := by
  intro σ v1 v2 v3 g1 g2 g3 h hGσ hS H locs ls hH hl hc
  have B := K.1
  unfold w_X16_drop_38 at h
  refine lv_iload_n B.1 B.2.1 dX16_drop_38 rfl (lv_at hl 3 rfl) ?_
  refine lv_iconst (v := i32 (-1)) B.1 B.2.1 dX16_drop_39 (by decide) ?_
  refine lv_icmp_ne (tgt := 58) B.1 B.2.1 dX16_drop_40 (by decide) (fun h9 => ?_) (fun h9 => ?_)
  · rw [if_pos (fun q => h9 ((i32_eq g3 (by unfold rng; omega)).mpr q))] at h
    exact a_X16_drop_58 K hQ hX _ _ _ _ g1 g2 g3 h hGσ hS _ _ _ hH (lv_sub (l' := [(0, .ref rm), (1, .int (i32 v1)), (2, .int (i32 v2)), (3, .int (i32 v3))]) hl [0, 1, 2, 3] rfl) hc
  · rw [if_neg (fun q => q ((i32_eq g3 (by unfold rng; omega)).mp h9))] at h
    exact a_X16_drop_43 K hQ hX _ _ _ _ g1 g2 g3 h hGσ hS _ _ _ hH (lv_sub (l' := [(0, .ref rm), (1, .int (i32 v1)), (2, .int (i32 v2)), (3, .int (i32 v3))]) hl [0, 1, 2, 3] rfl) hc
set_option maxRecDepth 20000 in
theorem a_X16_drop_23 {Q : Sg → Unit → Prop} {X : Sg → String → Prop} (K : MC R p s m args c cX16_drop 5 RX16 D cA tys A n0 s0 0 0 []) (hQ : HQV p l e R s m args below meth c cX16_drop D cA A n0 s0 QM dm ra jx rm Q) (hX : HX p l e R s m args below meth c 5 D cA A n0 s0 QM dm ra jx rm X) {K17 : Sg → Int → Int → Int → Int → Prop} (hK17 : ∀ (σ : Sg) (v1 : Int) (v2 : Int) (v3 : Int) (v4 : Int) (g1 : rng v1) (g2 : rng v2) (g3 : rng v3) (g4 : rng v4), K17 σ v1 v2 v3 v4 → RG σ → Shp dm ra jx rm σ → JJ p l e R s m args below meth c 5 D cA A n0 s0 QM σ 17 [(0, .ref rm), (1, .int (i32 v1)), (2, .int (i32 v2)), (3, .int (i32 v3)), (4, .int (i32 v4))] []) : ∀ (σ : Sg) (v1 : Int) (v2 : Int) (v4 : Int) (g1 : rng v1) (g2 : rng v2) (g4 : rng v4), w_X16_drop_23 ra jx rm K17 Q X σ v1 v2 v4 → RG σ → Shp dm ra jx rm σ → JJ p l e R s m args below meth c 5 D cA A n0 s0 QM σ 23 [(0, .ref rm), (1, .int (i32 v1)), (2, .int (i32 v2)), (4, .int (i32 v4))] [] := by
  intro σ v1 v2 v4 g1 g2 g4 h hGσ hS H locs ls hH hl hc
  have B := K.1
  unfold w_X16_drop_23 at h
  refine lv_iload B.1 B.2.1 dX16_drop_23 (lv_at hl 3 rfl) ?_
  refine lv_istore_n (lv' := [(3, .int (i32 v4)), (0, .ref rm), (1, .int (i32 v1)), (2, .int (i32 v2)), (4, .int (i32 v4))]) B.1 B.2.1 dX16_drop_25 rfl hl (by decide) rfl (fun ls hl => ?_)
  refine lv_aload_n B.1 B.2.1 dX16_drop_26 rfl (lv_at hl 1 rfl) ?_
  refine r_arr B hH hS 75 (kd := 100) (n := 4000) (by decide) (by decide) wf_X16_495 rfl rfl dX16_drop_27 ?_
  refine lv_iload B.1 B.2.1 dX16_drop_30 (lv_at hl 4 rfl) ?_
  obtain ⟨q1, h⟩ := h
  refine x_iald B K.2.1 hH (hS.ar (k := 75) (kd := 100) (n := 4000) (by decide)) (by decide) q1 dX16_drop_32 ?_
  refine lv_istore (lv' := [(4, .int (i32 (gI σ (ra 75) v4.toNat))), (3, .int (i32 v4)), (0, .ref rm), (1, .int (i32 v1)), (2, .int (i32 v2))]) B.1 B.2.1 dX16_drop_33 hl (by decide) rfl (fun ls hl => ?_)
  refine lv_goto (tgt := 17) B.1 B.2.1 dX16_drop_35 (by decide) ?_
  exact hK17 _ _ _ _ _ g1 g2 g4 (hGσ _ _) h hGσ hS _ _ _ hH (lv_sub (l' := [(0, .ref rm), (1, .int (i32 v1)), (2, .int (i32 v2)), (3, .int (i32 v4)), (4, .int (i32 (gI σ (ra 75) v4.toNat)))]) hl [2, 3, 4, 1, 0] rfl) hc
set_option maxRecDepth 20000 in
theorem a_X16_drop_17 {Q : Sg → Unit → Prop} {X : Sg → String → Prop} (K : MC R p s m args c cX16_drop 5 RX16 D cA tys A n0 s0 0 0 []) (hQ : HQV p l e R s m args below meth c cX16_drop D cA A n0 s0 QM dm ra jx rm Q) (hX : HX p l e R s m args below meth c 5 D cA A n0 s0 QM dm ra jx rm X) {K17 : Sg → Int → Int → Int → Int → Prop} (hK17 : ∀ (σ : Sg) (v1 : Int) (v2 : Int) (v3 : Int) (v4 : Int) (g1 : rng v1) (g2 : rng v2) (g3 : rng v3) (g4 : rng v4), K17 σ v1 v2 v3 v4 → RG σ → Shp dm ra jx rm σ → JJ p l e R s m args below meth c 5 D cA A n0 s0 QM σ 17 [(0, .ref rm), (1, .int (i32 v1)), (2, .int (i32 v2)), (3, .int (i32 v3)), (4, .int (i32 v4))] []) : ∀ (σ : Sg) (v1 : Int) (v2 : Int) (v3 : Int) (v4 : Int) (g1 : rng v1) (g2 : rng v2) (g3 : rng v3) (g4 : rng v4), w_X16_drop_17 ra jx rm K17 Q X σ v1 v2 v3 v4 → RG σ → Shp dm ra jx rm σ → JJ p l e R s m args below meth c 5 D cA A n0 s0 QM σ 17 [(0, .ref rm), (1, .int (i32 v1)), (2, .int (i32 v2)), (3, .int (i32 v3)), (4, .int (i32 v4))] [] := by
  intro σ v1 v2 v3 v4 g1 g2 g3 g4 h hGσ hS H locs ls hH hl hc
  have B := K.1
  unfold w_X16_drop_17 at h
  refine lv_iload B.1 B.2.1 dX16_drop_17 (lv_at hl 4 rfl) ?_
  refine lv_iload_n B.1 B.2.1 dX16_drop_19 rfl (lv_at hl 1 rfl) ?_
  refine lv_icmp_eq (tgt := 38) B.1 B.2.1 dX16_drop_20 (by decide) (fun h9 => ?_) (fun h9 => ?_)
  · rw [if_pos ((i32_eq g4 g1).mp h9)] at h
    exact a_X16_drop_38 K hQ hX _ _ _ _ g1 g2 g3 h hGσ hS _ _ _ hH (lv_sub (l' := [(0, .ref rm), (1, .int (i32 v1)), (2, .int (i32 v2)), (3, .int (i32 v3))]) hl [0, 1, 2, 3] rfl) hc
  · rw [if_neg (fun q => h9 ((i32_eq g4 g1).mpr q))] at h
    exact a_X16_drop_23 K hQ hX hK17 _ _ _ _ g1 g2 g4 h hGσ hS _ _ _ hH (lv_sub (l' := [(0, .ref rm), (1, .int (i32 v1)), (2, .int (i32 v2)), (4, .int (i32 v4))]) hl [0, 1, 2, 4] rfl) hc
theorem al_X16_drop_17 {Q : Sg → Unit → Prop} {X : Sg → String → Prop} (K : MC R p s m args c cX16_drop 5 RX16 D cA tys A n0 s0 0 0 []) (hQ : HQV p l e R s m args below meth c cX16_drop D cA A n0 s0 QM dm ra jx rm Q) (hX : HX p l e R s m args below meth c 5 D cA A n0 s0 QM dm ra jx rm X) : ∀ (n : Nat), ∀ (σ : Sg) (v1 : Int) (v2 : Int) (v3 : Int) (v4 : Int) (g1 : rng v1) (g2 : rng v2) (g3 : rng v3) (g4 : rng v4), wl_X16_drop_17 ra jx rm Q X n σ v1 v2 v3 v4 → RG σ → Shp dm ra jx rm σ → JJ p l e R s m args below meth c 5 D cA A n0 s0 QM σ 17 [(0, .ref rm), (1, .int (i32 v1)), (2, .int (i32 v2)), (3, .int (i32 v3)), (4, .int (i32 v4))] [] := by
  intro n
  induction n with
  | zero => intro σ v1 v2 v3 v4 g1 g2 g3 g4 h; exact h.elim
  | succ n ih => exact fun σ v1 v2 v3 v4 g1 g2 g3 g4 h => a_X16_drop_17 K hQ hX ih σ v1 v2 v3 v4 g1 g2 g3 g4 h
set_option maxRecDepth 20000 in
theorem a_X16_drop_0 {Q : Sg → Unit → Prop} {X : Sg → String → Prop} (K : MC R p s m args c cX16_drop 5 RX16 D cA tys A n0 s0 0 0 []) (hQ : HQV p l e R s m args below meth c cX16_drop D cA A n0 s0 QM dm ra jx rm Q) (hX : HX p l e R s m args below meth c 5 D cA A n0 s0 QM dm ra jx rm X) : ∀ (σ : Sg) (v1 : Int) (g1 : rng v1), w_X16_drop_0 ra jx rm Q X σ v1 → RG σ → Shp dm ra jx rm σ → JJ p l e R s m args below meth c 5 D cA A n0 s0 QM σ 0 [(0, .ref rm), (1, .int (i32 v1))] [] := by
  intro σ v1 g1 h hGσ hS H locs ls hH hl hc
  have B := K.1
  unfold w_X16_drop_0 at h
  refine lv_aload_n B.1 B.2.1 dX16_drop_0 rfl (lv_at hl 0 rfl) ?_
  refine r_arr B hH hS 69 (kd := 100) (n := 4000) (by decide) (by decide) wf_X16_516 rfl rfl dX16_drop_1 ?_
  refine lv_iload_n B.1 B.2.1 dX16_drop_4 rfl (lv_at hl 1 rfl) ?_
  obtain ⟨q1, h⟩ := h
  refine x_iald B K.2.1 hH (hS.ar (k := 69) (kd := 100) (n := 4000) (by decide)) (by decide) q1 dX16_drop_5 ?_
  refine lv_istore_n (lv' := [(2, .int (i32 (gI σ (ra 69) v1.toNat))), (0, .ref rm), (1, .int (i32 v1))]) B.1 B.2.1 dX16_drop_6 rfl hl (by decide) rfl (fun ls hl => ?_)
  refine lv_iconst (v := i32 (-1)) B.1 B.2.1 dX16_drop_7 (by decide) ?_
  refine lv_istore_n (lv' := [(3, .int (i32 (-1))), (2, .int (i32 (gI σ (ra 69) v1.toNat))), (0, .ref rm), (1, .int (i32 v1))]) B.1 B.2.1 dX16_drop_8 rfl hl (by decide) rfl (fun ls hl => ?_)
  refine lv_aload_n B.1 B.2.1 dX16_drop_9 rfl (lv_at hl 2 rfl) ?_
  refine r_arr B hH hS 76 (kd := 100) (n := 64) (by decide) (by decide) wf_X16_504 rfl rfl dX16_drop_10 ?_
  refine lv_iload_n B.1 B.2.1 dX16_drop_13 rfl (lv_at hl 1 rfl) ?_
  obtain ⟨q2, h⟩ := h
  refine x_iald B K.2.1 hH (hS.ar (k := 76) (kd := 100) (n := 64) (by decide)) (by decide) q2 dX16_drop_14 ?_
  refine lv_istore (lv' := [(4, .int (i32 (gI σ (ra 76) (gI σ (ra 69) v1.toNat).toNat))), (3, .int (i32 (-1))), (2, .int (i32 (gI σ (ra 69) v1.toNat))), (0, .ref rm), (1, .int (i32 v1))]) B.1 B.2.1 dX16_drop_15 hl (by decide) rfl (fun ls hl => ?_)
  obtain ⟨n9, h⟩ := h
  exact al_X16_drop_17 K hQ hX n9 _ _ _ _ _ g1 (hGσ _ _) (by unfold rng; omega) (hGσ _ _) h hGσ hS _ _ _ hH (lv_sub (l' := [(0, .ref rm), (1, .int (i32 v1)), (2, .int (i32 (gI σ (ra 69) v1.toNat))), (3, .int (i32 (-1))), (4, .int (i32 (gI σ (ra 76) (gI σ (ra 69) v1.toNat).toNat)))]) hl [3, 4, 2, 1, 0] rfl) hc
theorem ok_X16_drop (hT : Tys cA tys) {Q : Sg → Unit → Prop} {X : Sg → String → Prop} (σ : Sg) (v1 : Int) (g1 : rng v1) (hG : RG σ) (hS : Shp dm ra jx rm σ) (h : wp_X16_drop ra jx rm v1 σ Q X) : Ok l D cA tys A yX16_drop (.code yX16_drop cX16_drop 5 none) 0 0 [.ref rm, .int (i32 v1)] σ (QnV dm ra jx rm Q) (QxR dm ra jx rm X) := by
  unfold wp_X16_drop at h
  exact ok_V (plainFor_of_name (by decide)) (by exact Nat.le_of_ble_eq_true rfl) hT (fun p e R s m args below meth c K hQ hX H locs ls hH hl hc => a_X16_drop_0 K hQ hX σ v1 g1 h hG hS H locs ls hH (lv_sub (l' := [(0, .ref rm), (1, .int (i32 v1))]) hl [0, 1] rfl) hc)
theorem dX16_emit_0 : decode cX16_emit 0 = .ok (.ldc2_w 417, 3) := by decide +kernel
theorem dX16_emit_3 : decode cX16_emit 3 = .ok (.lstore 7, 2) := by decide +kernel
theorem dX16_emit_5 : decode cX16_emit 5 = .ok (.iconst (-1), 1) := by decide +kernel
theorem dX16_emit_6 : decode cX16_emit 6 = .ok (.istore 9, 2) := by decide +kernel
theorem dX16_emit_8 : decode cX16_emit 8 = .ok (.iconst 0, 1) := by decide +kernel
theorem dX16_emit_9 : decode cX16_emit 9 = .ok (.istore 10, 2) := by decide +kernel
theorem dX16_emit_11 : decode cX16_emit 11 = .ok (.iload 10, 2) := by decide +kernel
theorem dX16_emit_13 : decode cX16_emit 13 = .ok (.aload_n 0, 1) := by decide +kernel
theorem dX16_emit_14 : decode cX16_emit 14 = .ok (.getfield 371, 3) := by decide +kernel
theorem dX16_emit_17 : decode cX16_emit 17 = .ok (.if_icmp .ge 200, 3) := by decide +kernel
theorem dX16_emit_20 : decode cX16_emit 20 = .ok (.aload_n 0, 1) := by decide +kernel
theorem dX16_emit_21 : decode cX16_emit 21 = .ok (.getfield 368, 3) := by decide +kernel
theorem dX16_emit_24 : decode cX16_emit 24 = .ok (.iload 10, 2) := by decide +kernel
theorem dX16_emit_26 : decode cX16_emit 26 = .ok (.iaload, 1) := by decide +kernel
theorem dX16_emit_27 : decode cX16_emit 27 = .ok (.iload_n 1, 1) := by decide +kernel
theorem dX16_emit_28 : decode cX16_emit 28 = .ok (.if_icmp .eq 6, 3) := by decide +kernel
theorem dX16_emit_31 : decode cX16_emit 31 = .ok (.goto 180, 3) := by decide +kernel
theorem dX16_emit_34 : decode cX16_emit 34 = .ok (.aload_n 0, 1) := by decide +kernel
theorem dX16_emit_35 : decode cX16_emit 35 = .ok (.getfield 380, 3) := by decide +kernel
theorem dX16_emit_38 : decode cX16_emit 38 = .ok (.aload_n 0, 1) := by decide +kernel
theorem dX16_emit_39 : decode cX16_emit 39 = .ok (.getfield 374, 3) := by decide +kernel
theorem dX16_emit_42 : decode cX16_emit 42 = .ok (.iload 10, 2) := by decide +kernel
theorem dX16_emit_44 : decode cX16_emit 44 = .ok (.iaload, 1) := by decide +kernel
theorem dX16_emit_45 : decode cX16_emit 45 = .ok (.iaload, 1) := by decide +kernel
theorem dX16_emit_46 : decode cX16_emit 46 = .ok (.istore 11, 2) := by decide +kernel
theorem dX16_emit_48 : decode cX16_emit 48 = .ok (.aload_n 0, 1) := by decide +kernel
theorem dX16_emit_49 : decode cX16_emit 49 = .ok (.getfield 396, 3) := by decide +kernel
theorem dX16_emit_52 : decode cX16_emit 52 = .ok (.aload_n 0, 1) := by decide +kernel
theorem dX16_emit_53 : decode cX16_emit 53 = .ok (.getfield 374, 3) := by decide +kernel
theorem dX16_emit_56 : decode cX16_emit 56 = .ok (.iload 10, 2) := by decide +kernel
theorem dX16_emit_58 : decode cX16_emit 58 = .ok (.iaload, 1) := by decide +kernel
theorem dX16_emit_59 : decode cX16_emit 59 = .ok (.iaload, 1) := by decide +kernel
theorem dX16_emit_60 : decode cX16_emit 60 = .ok (.istore 12, 2) := by decide +kernel
theorem dX16_emit_62 : decode cX16_emit 62 = .ok (.iconst 1, 1) := by decide +kernel
theorem dX16_emit_63 : decode cX16_emit 63 = .ok (.istore 13, 2) := by decide +kernel
theorem dX16_emit_65 : decode cX16_emit 65 = .ok (.aload_n 0, 1) := by decide +kernel
theorem dX16_emit_66 : decode cX16_emit 66 = .ok (.iload 11, 2) := by decide +kernel
theorem dX16_emit_68 : decode cX16_emit 68 = .ok (.invokevirtual 383, 3) := by decide +kernel
theorem dX16_emit_71 : decode cX16_emit 71 = .ok (.ifCond .eq 61, 3) := by decide +kernel
theorem dX16_emit_74 : decode cX16_emit 74 = .ok (.aload_n 0, 1) := by decide +kernel
theorem dX16_emit_75 : decode cX16_emit 75 = .ok (.aload 4, 2) := by decide +kernel
theorem dX16_emit_77 : decode cX16_emit 77 = .ok (.iload 5, 2) := by decide +kernel
theorem dX16_emit_79 : decode cX16_emit 79 = .ok (.aload_n 0, 1) := by decide +kernel
theorem dX16_emit_80 : decode cX16_emit 80 = .ok (.getfield 377, 3) := by decide +kernel
theorem dX16_emit_83 : decode cX16_emit 83 = .ok (.iload 10, 2) := by decide +kernel
theorem dX16_emit_85 : decode cX16_emit 85 = .ok (.iaload, 1) := by decide +kernel
theorem dX16_emit_86 : decode cX16_emit 86 = .ok (.ifCond .ne 16, 3) := by decide +kernel
theorem dX16_emit_89 : decode cX16_emit 89 = .ok (.aload_n 0, 1) := by decide +kernel
theorem dX16_emit_90 : decode cX16_emit 90 = .ok (.getfield 356, 3) := by decide +kernel
theorem dX16_emit_93 : decode cX16_emit 93 = .ok (.getfield 239, 3) := by decide +kernel
theorem dX16_emit_96 : decode cX16_emit 96 = .ok (.iload 11, 2) := by decide +kernel
theorem dX16_emit_98 : decode cX16_emit 98 = .ok (.iaload, 1) := by decide +kernel
theorem dX16_emit_99 : decode cX16_emit 99 = .ok (.goto 13, 3) := by decide +kernel
theorem dX16_emit_102 : decode cX16_emit 102 = .ok (.aload_n 0, 1) := by decide +kernel
theorem dX16_emit_103 : decode cX16_emit 103 = .ok (.getfield 356, 3) := by decide +kernel
theorem dX16_emit_106 : decode cX16_emit 106 = .ok (.getfield 264, 3) := by decide +kernel
theorem dX16_emit_109 : decode cX16_emit 109 = .ok (.iload 11, 2) := by decide +kernel
theorem dX16_emit_111 : decode cX16_emit 111 = .ok (.iaload, 1) := by decide +kernel
theorem dX16_emit_112 : decode cX16_emit 112 = .ok (.iadd, 1) := by decide +kernel
theorem dX16_emit_113 : decode cX16_emit 113 = .ok (.laload, 1) := by decide +kernel
theorem dX16_emit_114 : decode cX16_emit 114 = .ok (.invokevirtual 486, 3) := by decide +kernel
theorem dX16_emit_117 : decode cX16_emit 117 = .ok (.iload 12, 2) := by decide +kernel
theorem dX16_emit_119 : decode cX16_emit 119 = .ok (.if_icmp .ne 7, 3) := by decide +kernel
theorem dX16_emit_122 : decode cX16_emit 122 = .ok (.iconst 1, 1) := by decide +kernel
theorem dX16_emit_123 : decode cX16_emit 123 = .ok (.goto 4, 3) := by decide +kernel
theorem dX16_emit_126 : decode cX16_emit 126 = .ok (.iconst 0, 1) := by decide +kernel
theorem dX16_emit_127 : decode cX16_emit 127 = .ok (.istore 13, 2) := by decide +kernel
theorem dX16_emit_129 : decode cX16_emit 129 = .ok (.goto 62, 3) := by decide +kernel
theorem dX16_emit_132 : decode cX16_emit 132 = .ok (.aload_n 0, 1) := by decide +kernel
theorem dX16_emit_133 : decode cX16_emit 133 = .ok (.iload 11, 2) := by decide +kernel
theorem dX16_emit_135 : decode cX16_emit 135 = .ok (.invokevirtual 361, 3) := by decide +kernel
theorem dX16_emit_138 : decode cX16_emit 138 = .ok (.ifCond .ne 53, 3) := by decide +kernel
theorem dX16_emit_141 : decode cX16_emit 141 = .ok (.aload_n 0, 1) := by decide +kernel
theorem dX16_emit_142 : decode cX16_emit 142 = .ok (.aload_n 0, 1) := by decide +kernel
theorem dX16_emit_143 : decode cX16_emit 143 = .ok (.getfield 380, 3) := by decide +kernel
theorem dX16_emit_146 : decode cX16_emit 146 = .ok (.iload_n 1, 1) := by decide +kernel
theorem dX16_emit_147 : decode cX16_emit 147 = .ok (.iaload, 1) := by decide +kernel
theorem dX16_emit_148 : decode cX16_emit 148 = .ok (.invokevirtual 361, 3) := by decide +kernel
theorem dX16_emit_151 : decode cX16_emit 151 = .ok (.ifCond .eq 40, 3) := by decide +kernel
theorem dX16_emit_154 : decode cX16_emit 154 = .ok (.aload_n 0, 1) := by decide +kernel
theorem dX16_emit_155 : decode cX16_emit 155 = .ok (.getfield 444, 3) := by decide +kernel
theorem dX16_emit_158 : decode cX16_emit 158 = .ok (.iconst 2, 1) := by decide +kernel
theorem dX16_emit_159 : decode cX16_emit 159 = .ok (.iload 11, 2) := by decide +kernel
theorem dX16_emit_161 : decode cX16_emit 161 = .ok (.imul, 1) := by decide +kernel
theorem dX16_emit_162 : decode cX16_emit 162 = .ok (.aload_n 0, 1) := by decide +kernel
theorem dX16_emit_163 : decode cX16_emit 163 = .ok (.getfield 377, 3) := by decide +kernel
theorem dX16_emit_166 : decode cX16_emit 166 = .ok (.iload 10, 2) := by decide +kernel
theorem dX16_emit_168 : decode cX16_emit 168 = .ok (.iaload, 1) := by decide +kernel
theorem dX16_emit_169 : decode cX16_emit 169 = .ok (.iadd, 1) := by decide +kernel
theorem dX16_emit_170 : decode cX16_emit 170 = .ok (.laload, 1) := by decide +kernel
theorem dX16_emit_171 : decode cX16_emit 171 = .ok (.aload_n 0, 1) := by decide +kernel
theorem dX16_emit_172 : decode cX16_emit 172 = .ok (.getfield 365, 3) := by decide +kernel
theorem dX16_emit_175 : decode cX16_emit 175 = .ok (.i2l, 1) := by decide +kernel
theorem dX16_emit_176 : decode cX16_emit 176 = .ok (.lrem, 1) := by decide +kernel
theorem dX16_emit_177 : decode cX16_emit 177 = .ok (.iload 12, 2) := by decide +kernel
theorem dX16_emit_179 : decode cX16_emit 179 = .ok (.i2l, 1) := by decide +kernel
theorem dX16_emit_180 : decode cX16_emit 180 = .ok (.lcmp, 1) := by decide +kernel
theorem dX16_emit_181 : decode cX16_emit 181 = .ok (.ifCond .ne 7, 3) := by decide +kernel
theorem dX16_emit_184 : decode cX16_emit 184 = .ok (.iconst 1, 1) := by decide +kernel
theorem dX16_emit_185 : decode cX16_emit 185 = .ok (.goto 4, 3) := by decide +kernel
theorem dX16_emit_188 : decode cX16_emit 188 = .ok (.iconst 0, 1) := by decide +kernel
theorem dX16_emit_189 : decode cX16_emit 189 = .ok (.istore 13, 2) := by decide +kernel
theorem dX16_emit_191 : decode cX16_emit 191 = .ok (.iload 13, 2) := by decide +kernel
theorem dX16_emit_193 : decode cX16_emit 193 = .ok (.ifCond .eq 18, 3) := by decide +kernel
theorem dX16_emit_196 : decode cX16_emit 196 = .ok (.aload_n 0, 1) := by decide +kernel
theorem dX16_emit_197 : decode cX16_emit 197 = .ok (.iload_n 1, 1) := by decide +kernel
theorem dX16_emit_198 : decode cX16_emit 198 = .ok (.iload 10, 2) := by decide +kernel
theorem dX16_emit_200 : decode cX16_emit 200 = .ok (.iconst 0, 1) := by decide +kernel
theorem dX16_emit_201 : decode cX16_emit 201 = .ok (.lload_n 2, 1) := by decide +kernel
theorem dX16_emit_202 : decode cX16_emit 202 = .ok (.aload 4, 2) := by decide +kernel
theorem dX16_emit_204 : decode cX16_emit 204 = .ok (.iload 5, 2) := by decide +kernel
theorem dX16_emit_206 : decode cX16_emit 206 = .ok (.iload 6, 2) := by decide +kernel
theorem dX16_emit_208 : decode cX16_emit 208 = .ok (.invokevirtual 482, 3) := by decide +kernel
theorem dX16_emit_211 : decode cX16_emit 211 = .ok (.iinc 10 1, 3) := by decide +kernel
theorem dX16_emit_214 : decode cX16_emit 214 = .ok (.goto (-203), 3) := by decide +kernel
theorem dX16_emit_217 : decode cX16_emit 217 = .ok (.iconst 0, 1) := by decide +kernel
theorem dX16_emit_218 : decode cX16_emit 218 = .ok (.istore 10, 2) := by decide +kernel
theorem dX16_emit_220 : decode cX16_emit 220 = .ok (.iload 10, 2) := by decide +kernel
theorem dX16_emit_222 : decode cX16_emit 222 = .ok (.bipush 32, 2) := by decide +kernel
theorem dX16_emit_224 : decode cX16_emit 224 = .ok (.if_icmp .ge 106, 3) := by decide +kernel
theorem dX16_emit_227 : decode cX16_emit 227 = .ok (.iload 10, 2) := by decide +kernel
theorem dX16_emit_229 : decode cX16_emit 229 = .ok (.iconst 2, 1) := by decide +kernel
theorem dX16_emit_230 : decode cX16_emit 230 = .ok (.idiv, 1) := by decide +kernel
theorem dX16_emit_231 : decode cX16_emit 231 = .ok (.istore 11, 2) := by decide +kernel
theorem dX16_emit_233 : decode cX16_emit 233 = .ok (.iload 11, 2) := by decide +kernel
theorem dX16_emit_235 : decode cX16_emit 235 = .ok (.aload_n 0, 1) := by decide +kernel
theorem dX16_emit_236 : decode cX16_emit 236 = .ok (.getfield 356, 3) := by decide +kernel
theorem dX16_emit_239 : decode cX16_emit 239 = .ok (.getfield 316, 3) := by decide +kernel
theorem dX16_emit_242 : decode cX16_emit 242 = .ok (.if_icmp .ge 46, 3) := by decide +kernel
theorem dX16_emit_245 : decode cX16_emit 245 = .ok (.iload 10, 2) := by decide +kernel
theorem dX16_emit_247 : decode cX16_emit 247 = .ok (.iconst 2, 1) := by decide +kernel
theorem dX16_emit_248 : decode cX16_emit 248 = .ok (.irem, 1) := by decide +kernel
theorem dX16_emit_249 : decode cX16_emit 249 = .ok (.ifCond .ne 16, 3) := by decide +kernel
theorem dX16_emit_252 : decode cX16_emit 252 = .ok (.aload_n 0, 1) := by decide +kernel
theorem dX16_emit_253 : decode cX16_emit 253 = .ok (.getfield 356, 3) := by decide +kernel
theorem dX16_emit_256 : decode cX16_emit 256 = .ok (.getfield 216, 3) := by decide +kernel
theorem dX16_emit_259 : decode cX16_emit 259 = .ok (.iload 11, 2) := by decide +kernel
theorem dX16_emit_261 : decode cX16_emit 261 = .ok (.iaload, 1) := by decide +kernel
theorem dX16_emit_262 : decode cX16_emit 262 = .ok (.goto 13, 3) := by decide +kernel
theorem dX16_emit_265 : decode cX16_emit 265 = .ok (.aload_n 0, 1) := by decide +kernel
theorem dX16_emit_266 : decode cX16_emit 266 = .ok (.getfield 356, 3) := by decide +kernel
theorem dX16_emit_269 : decode cX16_emit 269 = .ok (.getfield 231, 3) := by decide +kernel
theorem dX16_emit_272 : decode cX16_emit 272 = .ok (.iload 11, 2) := by decide +kernel
theorem dX16_emit_274 : decode cX16_emit 274 = .ok (.iaload, 1) := by decide +kernel
theorem dX16_emit_275 : decode cX16_emit 275 = .ok (.aload_n 0, 1) := by decide +kernel
theorem dX16_emit_276 : decode cX16_emit 276 = .ok (.getfield 380, 3) := by decide +kernel
theorem dX16_emit_279 : decode cX16_emit 279 = .ok (.iload_n 1, 1) := by decide +kernel
theorem dX16_emit_280 : decode cX16_emit 280 = .ok (.iaload, 1) := by decide +kernel
theorem dX16_emit_281 : decode cX16_emit 281 = .ok (.if_icmp .ne 7, 3) := by decide +kernel
theorem dX16_emit_284 : decode cX16_emit 284 = .ok (.iconst 1, 1) := by decide +kernel
theorem dX16_emit_285 : decode cX16_emit 285 = .ok (.goto 4, 3) := by decide +kernel
theorem dX16_emit_288 : decode cX16_emit 288 = .ok (.iconst 0, 1) := by decide +kernel
theorem dX16_emit_289 : decode cX16_emit 289 = .ok (.istore 12, 2) := by decide +kernel
theorem dX16_emit_291 : decode cX16_emit 291 = .ok (.aload_n 0, 1) := by decide +kernel
theorem dX16_emit_292 : decode cX16_emit 292 = .ok (.getfield 444, 3) := by decide +kernel
theorem dX16_emit_295 : decode cX16_emit 295 = .ok (.iload 10, 2) := by decide +kernel
theorem dX16_emit_297 : decode cX16_emit 297 = .ok (.dup2, 1) := by decide +kernel
theorem dX16_emit_298 : decode cX16_emit 298 = .ok (.laload, 1) := by decide +kernel
theorem dX16_emit_299 : decode cX16_emit 299 = .ok (.iload 12, 2) := by decide +kernel
theorem dX16_emit_301 : decode cX16_emit 301 = .ok (.ifCond .eq 20, 3) := by decide +kernel
theorem dX16_emit_304 : decode cX16_emit 304 = .ok (.aload_n 0, 1) := by decide +kernel
theorem dX16_emit_305 : decode cX16_emit 305 = .ok (.aload_n 0, 1) := by decide +kernel
theorem dX16_emit_306 : decode cX16_emit 306 = .ok (.getfield 380, 3) := by decide +kernel
theorem dX16_emit_309 : decode cX16_emit 309 = .ok (.iload_n 1, 1) := by decide +kernel
theorem dX16_emit_310 : decode cX16_emit 310 = .ok (.iaload, 1) := by decide +kernel
theorem dX16_emit_311 : decode cX16_emit 311 = .ok (.invokevirtual 361, 3) := by decide +kernel
theorem dX16_emit_314 : decode cX16_emit 314 = .ok (.ifCond .eq 7, 3) := by decide +kernel
theorem dX16_emit_317 : decode cX16_emit 317 = .ok (.lconst 1, 1) := by decide +kernel
theorem dX16_emit_318 : decode cX16_emit 318 = .ok (.goto 4, 3) := by decide +kernel
theorem dX16_emit_321 : decode cX16_emit 321 = .ok (.lconst 0, 1) := by decide +kernel
theorem dX16_emit_322 : decode cX16_emit 322 = .ok (.ladd, 1) := by decide +kernel
theorem dX16_emit_323 : decode cX16_emit 323 = .ok (.lastore, 1) := by decide +kernel
theorem dX16_emit_324 : decode cX16_emit 324 = .ok (.iinc 10 1, 3) := by decide +kernel
theorem dX16_emit_327 : decode cX16_emit 327 = .ok (.goto (-107), 3) := by decide +kernel
theorem dX16_emit_330 : decode cX16_emit 330 = .ok (.return_, 1) := by decide +kernel
set_option maxRecDepth 20000 in
theorem a_X16_emit_330 {Q : Sg → Unit → Prop} {X : Sg → String → Prop} (K : MC R p s m args c cX16_emit 14 RX16 D cA tys A n0 s0 2 46 []) (hQ : HQV p l e R s m args below meth c cX16_emit D cA A n0 s0 QM dm ra jx rm Q) (hX : HX p l e R s m args below meth c 14 D cA A n0 s0 QM dm ra jx rm X) : ∀ (σ : Sg), w_X16_emit_330 ra jx rm Q X σ → RG σ → Shp dm ra jx rm σ → JJ p l e R s m args below meth c 14 D cA A n0 s0 QM σ 330 [(0, .ref rm)] [] := by
  intro σ h hGσ hS H locs ls hH hl hc
  have B := K.1
  unfold w_X16_emit_330 at h
  exact hQ _ _ _ _ _ dX16_emit_330 hH hc h hGσ hS
set_option maxRecDepth 20000 in
theorem a_X16_emit_322 {Q : Sg → Unit → Prop} {X : Sg → String → Prop} (K : MC R p s m args c cX16_emit 14 RX16 D cA tys A n0 s0 2 46 []) (hQ : HQV p l e R s m args below meth c cX16_emit D cA A n0 s0 QM dm ra jx rm Q) (hX : HX p l e R s m args below meth c 14 D cA A n0 s0 QM dm ra jx rm X) {K220 : Sg → Int → Int → Prop} (hK220 : ∀ (σ : Sg) (v1 : Int) (v10 : Int) (g1 : rng v1) (g10 : rng v10), K220 σ v1 v10 → RG σ → Shp dm ra jx rm σ → JJ p l e R s m args below meth c 14 D cA A n0 s0 QM σ 220 [(0, .ref rm), (1, .int (i32 v1)), (10, .int (i32 v10))] []) : ∀ (σ : Sg) (v1 : Int) (v10 : Int) (u0 : Int64) (u1 : Int64) (u2 : Int) (g1 : rng v1) (g10 : rng v10) (gu2 : rng u2), w_X16_emit_322 ra jx rm K220 Q X σ v1 v10 u0 u1 u2 → RG σ → Shp dm ra jx rm σ → JJ p l e R s m args below meth c 14 D cA A n0 s0 QM σ 322 [(0, .ref rm), (1, .int (i32 v1)), (10, .int (i32 v10))] [.long u0, .long u1, .int (i32 u2), .ref (ra 49)] := by
  intro σ v1 v10 u0 u1 u2 g1 g10 gu2 h hGσ hS H locs ls hH hl hc
  have B := K.1
  unfold w_X16_emit_322 at h
  refine lv_ladd B.1 B.2.1 dX16_emit_322 ?_
  obtain ⟨q1, h⟩ := h
  obtain ⟨σ39, eσ39⟩ : ∃ z, z = pJ σ (ra 49) u2.toNat (u1 + u0) := ⟨_, rfl⟩
  have h := h σ39 eσ39
  refine x_last B K.2.1 hH (hS.ar (k := 49) (kd := 101) (n := 32) (by decide)) (by decide) q1 dX16_emit_323 (fun H locs hH => ?_)
  have hH : Hd D cA A s (pJ σ (ra 49) u2.toNat (u1 + u0)) H locs := hH
  rw [← eσ39] at hH
  have hGσ39 : RG σ39 := by rw [eσ39]; exact hGσ.pJ
  have hS : Shp dm ra jx rm σ39 := by rw [eσ39]; exact hS
  have hc : CB n0 s0 σ39 := by rw [eσ39]; exact hc
  rw [show gc σ = gc σ39 by rw [eσ39], show gs σ = gs σ39 by rw [eσ39]]
  obtain ⟨q3, h⟩ := h
  refine lv_iinc (k := 2) (v := i32 (v10 + 1)) (lv' := [(10, .int (i32 (v10 + 1))), (0, .ref rm), (1, .int (i32 v1))]) B.1 B.2.1 dX16_emit_324 hl rfl (i32_add _ _) (by decide) rfl (fun ls hl => ?_)
  refine lv_goto (tgt := 220) B.1 B.2.1 dX16_emit_327 (by decide) ?_
  exact hK220 _ _ _ g1 q3 h hGσ39 hS _ _ _ hH (lv_sub (l' := [(0, .ref rm), (1, .int (i32 v1)), (10, .int (i32 (v10 + 1)))]) hl [1, 2, 0] rfl) hc
set_option maxRecDepth 20000 in
theorem a_X16_emit_321 {Q : Sg → Unit → Prop} {X : Sg → String → Prop} (K : MC R p s m args c cX16_emit 14 RX16 D cA tys A n0 s0 2 46 []) (hQ : HQV p l e R s m args below meth c cX16_emit D cA A n0 s0 QM dm ra jx rm Q) (hX : HX p l e R s m args below meth c 14 D cA A n0 s0 QM dm ra jx rm X) {K220 : Sg → Int → Int → Prop} (hK220 : ∀ (σ : Sg) (v1 : Int) (v10 : Int) (g1 : rng v1) (g10 : rng v10), K220 σ v1 v10 → RG σ → Shp dm ra jx rm σ → JJ p l e R s m args below meth c 14 D cA A n0 s0 QM σ 220 [(0, .ref rm), (1, .int (i32 v1)), (10, .int (i32 v10))] []) : ∀ (σ : Sg) (v1 : Int) (v10 : Int) (u0 : Int64) (u1 : Int) (g1 : rng v1) (g10 : rng v10) (gu1 : rng u1), w_X16_emit_321 ra jx rm K220 Q X σ v1 v10 u0 u1 → RG σ → Shp dm ra jx rm σ → JJ p l e R s m args below meth c 14 D cA A n0 s0 QM σ 321 [(0, .ref rm), (1, .int (i32 v1)), (10, .int (i32 v10))] [.long u0, .int (i32 u1), .ref (ra 49)] := by
  intro σ v1 v10 u0 u1 g1 g10 gu1 h hGσ hS H locs ls hH hl hc
  have B := K.1
  unfold w_X16_emit_321 at h
  refine lv_lconst (v := 0) B.1 B.2.1 dX16_emit_321 (by decide) ?_
  exact a_X16_emit_322 K hQ hX hK220 _ _ _ _ _ _ g1 g10 gu1 h hGσ hS _ _ _ hH (lv_sub (l' := [(0, .ref rm), (1, .int (i32 v1)), (10, .int (i32 v10))]) hl [0, 1, 2] rfl) hc
set_option maxRecDepth 20000 in
theorem a_X16_emit_317 {Q : Sg → Unit → Prop} {X : Sg → String → Prop} (K : MC R p s m args c cX16_emit 14 RX16 D cA tys A n0 s0 2 46 []) (hQ : HQV p l e R s m args below meth c cX16_emit D cA A n0 s0 QM dm ra jx rm Q) (hX : HX p l e R s m args below meth c 14 D cA A n0 s0 QM dm ra jx rm X) {K220 : Sg → Int → Int → Prop} (hK220 : ∀ (σ : Sg) (v1 : Int) (v10 : Int) (g1 : rng v1) (g10 : rng v10), K220 σ v1 v10 → RG σ → Shp dm ra jx rm σ → JJ p l e R s m args below meth c 14 D cA A n0 s0 QM σ 220 [(0, .ref rm), (1, .int (i32 v1)), (10, .int (i32 v10))] []) : ∀ (σ : Sg) (v1 : Int) (v10 : Int) (u0 : Int64) (u1 : Int) (g1 : rng v1) (g10 : rng v10) (gu1 : rng u1), w_X16_emit_317 ra jx rm K220 Q X σ v1 v10 u0 u1 → RG σ → Shp dm ra jx rm σ → JJ p l e R s m args below meth c 14 D cA A n0 s0 QM σ 317 [(0, .ref rm), (1, .int (i32 v1)), (10, .int (i32 v10))] [.long u0, .int (i32 u1), .ref (ra 49)] := by
  intro σ v1 v10 u0 u1 g1 g10 gu1 h hGσ hS H locs ls hH hl hc
  have B := K.1
  unfold w_X16_emit_317 at h
  refine lv_lconst (v := 1) B.1 B.2.1 dX16_emit_317 (by decide) ?_
  refine lv_goto (tgt := 322) B.1 B.2.1 dX16_emit_318 (by decide) ?_
  exact a_X16_emit_322 K hQ hX hK220 _ _ _ _ _ _ g1 g10 gu1 h hGσ hS _ _ _ hH (lv_sub (l' := [(0, .ref rm), (1, .int (i32 v1)), (10, .int (i32 v10))]) hl [0, 1, 2] rfl) hc
set_option maxRecDepth 20000 in
theorem a_X16_emit_304 {Q : Sg → Unit → Prop} {X : Sg → String → Prop} (K : MC R p s m args c cX16_emit 14 RX16 D cA tys A n0 s0 2 46 []) (hQ : HQV p l e R s m args below meth c cX16_emit D cA A n0 s0 QM dm ra jx rm Q) (hX : HX p l e R s m args below meth c 14 D cA A n0 s0 QM dm ra jx rm X) {K220 : Sg → Int → Int → Prop} (hK220 : ∀ (σ : Sg) (v1 : Int) (v10 : Int) (g1 : rng v1) (g10 : rng v10), K220 σ v1 v10 → RG σ → Shp dm ra jx rm σ → JJ p l e R s m args below meth c 14 D cA A n0 s0 QM σ 220 [(0, .ref rm), (1, .int (i32 v1)), (10, .int (i32 v10))] []) : ∀ (σ : Sg) (v1 : Int) (v10 : Int) (u0 : Int64) (u1 : Int) (g1 : rng v1) (g10 : rng v10) (gu1 : rng u1), w_X16_emit_304 ra jx rm K220 Q X σ v1 v10 u0 u1 → RG σ → Shp dm ra jx rm σ → JJ p l e R s m args below meth c 14 D cA A n0 s0 QM σ 304 [(0, .ref rm), (1, .int (i32 v1)), (10, .int (i32 v10))] [.long u0, .int (i32 u1), .ref (ra 49)] := by
  intro σ v1 v10 u0 u1 g1 g10 gu1 h hGσ hS H locs ls hH hl hc
  have B := K.1
  unfold w_X16_emit_304 at h
  refine lv_aload_n B.1 B.2.1 dX16_emit_304 rfl (lv_at hl 0 rfl) ?_
  refine lv_aload_n B.1 B.2.1 dX16_emit_305 rfl (lv_at hl 0 rfl) ?_
  refine r_arr B hH hS 38 (kd := 100) (n := 64) (by decide) (by decide) wf_X16_380 rfl rfl dX16_emit_306 ?_
  refine lv_iload_n B.1 B.2.1 dX16_emit_309 rfl (lv_at hl 1 rfl) ?_
  obtain ⟨q1, h⟩ := h
  refine x_iald B K.2.1 hH (hS.ar (k := 38) (kd := 100) (n := 64) (by decide)) (by decide) q1 dX16_emit_310 ?_
  refine c_V B hH hl hc K.2.2.1 (C := RX16) (T := TX16) (N := 123) (ci := 16) (As := [.int (i32 (gI σ (ra 38) v1.toNat))]) (ok_X16_isSingle K.2.1 σ (gI σ (ra 38) v1.toNat) (hGσ _ _) hGσ hS h) wc_X16_361 1 hd_X16_isSingle ⟨Nat.le_trans (Nat.le_of_ble_eq_true rfl) K.2.2.2.1, Nat.le_trans (Nat.le_of_ble_eq_true rfl) K.2.2.2.2.1⟩ hS.1.1 hS.1.2 (by decide) rfl rfl (rest := [.long u0, .int (i32 u1), .ref (ra 49)]) rfl (Nat.le_of_ble_eq_true rfl) dX16_emit_311 (fun σ40 w hq => ?_) (fun σ9 E9 hx9 => hX σ9 E9 _ _ _ (tb_out K.2.2.2.2.2 rfl) hx9.1 hx9.2.1 hx9.2.2)
  obtain ⟨r41, rfl, ⟨gr41, gzr41⟩, h, hGσ40, hS⟩ := hq
  intro H locs ls hH hl hc
  refine W.eq (g2 := F0 m 314 ls [.int (i32 r41), .long u0, .int (i32 u1), .ref (ra 49)]) (rfl) ?_
  try dsimp only at h
  refine lv_if_eq (tgt := 321) B.1 B.2.1 dX16_emit_314 (by decide) (fun h9 => ?_) (fun h9 => ?_)
  · rw [if_pos ((z_eq gr41).mp h9)] at h
    exact a_X16_emit_321 K hQ hX hK220 _ _ _ _ _ g1 g10 gu1 h hGσ40 hS _ _ _ hH (lv_sub (l' := [(0, .ref rm), (1, .int (i32 v1)), (10, .int (i32 v10))]) hl [0, 1, 2] rfl) hc
  · rw [if_neg (fun q => h9 ((z_eq gr41).mpr q))] at h
    exact a_X16_emit_317 K hQ hX hK220 _ _ _ _ _ g1 g10 gu1 h hGσ40 hS _ _ _ hH (lv_sub (l' := [(0, .ref rm), (1, .int (i32 v1)), (10, .int (i32 v10))]) hl [0, 1, 2] rfl) hc
set_option maxRecDepth 20000 in
theorem a_X16_emit_289 {Q : Sg → Unit → Prop} {X : Sg → String → Prop} (K : MC R p s m args c cX16_emit 14 RX16 D cA tys A n0 s0 2 46 []) (hQ : HQV p l e R s m args below meth c cX16_emit D cA A n0 s0 QM dm ra jx rm Q) (hX : HX p l e R s m args below meth c 14 D cA A n0 s0 QM dm ra jx rm X) {K220 : Sg → Int → Int → Prop} (hK220 : ∀ (σ : Sg) (v1 : Int) (v10 : Int) (g1 : rng v1) (g10 : rng v10), K220 σ v1 v10 → RG σ → Shp dm ra jx rm σ → JJ p l e R s m args below meth c 14 D cA A n0 s0 QM σ 220 [(0, .ref rm), (1, .int (i32 v1)), (10, .int (i32 v10))] []) : ∀ (σ : Sg) (v1 : Int) (v10 : Int) (u0 : Int) (g1 : rng v1) (g10 : rng v10) (gu0 : rng u0), w_X16_emit_289 ra jx rm K220 Q X σ v1 v10 u0 → RG σ → Shp dm ra jx rm σ → JJ p l e R s m args below meth c 14 D cA A n0 s0 QM σ 289 [(0, .ref rm), (1, .int (i32 v1)), (10, .int (i32 v10))] [.int (i32 u0)] := by
  intro σ v1 v10 u0 g1 g10 gu0 h hGσ hS H locs ls hH hl hc
  have B := K.1
  unfold w_X16_emit_289 at h
  refine lv_istore (lv' := [(12, .int (i32 u0)), (0, .ref rm), (1, .int (i32 v1)), (10, .int (i32 v10))]) B.1 B.2.1 dX16_emit_289 hl (by decide) rfl (fun ls hl => ?_)
  refine lv_aload_n B.1 B.2.1 dX16_emit_291 rfl (lv_at hl 1 rfl) ?_
  refine r_arr B hH hS 49 (kd := 101) (n := 32) (by decide) (by decide) wf_X16_444 rfl rfl dX16_emit_292 ?_
  refine lv_iload B.1 B.2.1 dX16_emit_295 (lv_at hl 3 rfl) ?_
  refine lv_dup2_11 B.1 B.2.1 dX16_emit_297 rfl rfl ?_
  obtain ⟨q1, h⟩ := h
  refine x_lald B K.2.1 hH (hS.ar (k := 49) (kd := 101) (n := 32) (by decide)) (by decide) q1 dX16_emit_298 ?_
  refine lv_iload B.1 B.2.1 dX16_emit_299 (lv_at hl 0 rfl) ?_
  refine lv_if_eq (tgt := 321) B.1 B.2.1 dX16_emit_301 (by decide) (fun h9 => ?_) (fun h9 => ?_)
  · rw [if_pos ((z_eq gu0).mp h9)] at h
    exact a_X16_emit_321 K hQ hX hK220 _ _ _ _ _ g1 g10 g10 h hGσ hS _ _ _ hH (lv_sub (l' := [(0, .ref rm), (1, .int (i32 v1)), (10, .int (i32 v10))]) hl [1, 2, 3] rfl) hc
  · rw [if_neg (fun q => h9 ((z_eq gu0).mpr q))] at h
    exact a_X16_emit_304 K hQ hX hK220 _ _ _ _ _ g1 g10 g10 h hGσ hS _ _ _ hH (lv_sub (l' := [(0, .ref rm), (1, .int (i32 v1)), (10, .int (i32 v10))]) hl [1, 2, 3] rfl) hc
set_option maxRecDepth 20000 in
theorem a_X16_emit_288 {Q : Sg → Unit → Prop} {X : Sg → String → Prop} (K : MC R p s m args c cX16_emit 14 RX16 D cA tys A n0 s0 2 46 []) (hQ : HQV p l e R s m args below meth c cX16_emit D cA A n0 s0 QM dm ra jx rm Q) (hX : HX p l e R s m args below meth c 14 D cA A n0 s0 QM dm ra jx rm X) {K220 : Sg → Int → Int → Prop} (hK220 : ∀ (σ : Sg) (v1 : Int) (v10 : Int) (g1 : rng v1) (g10 : rng v10), K220 σ v1 v10 → RG σ → Shp dm ra jx rm σ → JJ p l e R s m args below meth c 14 D cA A n0 s0 QM σ 220 [(0, .ref rm), (1, .int (i32 v1)), (10, .int (i32 v10))] []) : ∀ (σ : Sg) (v1 : Int) (v10 : Int) (g1 : rng v1) (g10 : rng v10), w_X16_emit_288 ra jx rm K220 Q X σ v1 v10 → RG σ → Shp dm ra jx rm σ → JJ p l e R s m args below meth c 14 D cA A n0 s0 QM σ 288 [(0, .ref rm), (1, .int (i32 v1)), (10, .int (i32 v10))] [] := by
  intro σ v1 v10 g1 g10 h hGσ hS H locs ls hH hl hc
  have B := K.1
  unfold w_X16_emit_288 at h
  refine lv_iconst (v := i32 0) B.1 B.2.1 dX16_emit_288 (by decide) ?_
  exact a_X16_emit_289 K hQ hX hK220 _ _ _ _ g1 g10 (by unfold rng; omega) h hGσ hS _ _ _ hH (lv_sub (l' := [(0, .ref rm), (1, .int (i32 v1)), (10, .int (i32 v10))]) hl [0, 1, 2] rfl) hc
set_option maxRecDepth 20000 in
theorem a_X16_emit_284 {Q : Sg → Unit → Prop} {X : Sg → String → Prop} (K : MC R p s m args c cX16_emit 14 RX16 D cA tys A n0 s0 2 46 []) (hQ : HQV p l e R s m args below meth c cX16_emit D cA A n0 s0 QM dm ra jx rm Q) (hX : HX p l e R s m args below meth c 14 D cA A n0 s0 QM dm ra jx rm X) {K220 : Sg → Int → Int → Prop} (hK220 : ∀ (σ : Sg) (v1 : Int) (v10 : Int) (g1 : rng v1) (g10 : rng v10), K220 σ v1 v10 → RG σ → Shp dm ra jx rm σ → JJ p l e R s m args below meth c 14 D cA A n0 s0 QM σ 220 [(0, .ref rm), (1, .int (i32 v1)), (10, .int (i32 v10))] []) : ∀ (σ : Sg) (v1 : Int) (v10 : Int) (g1 : rng v1) (g10 : rng v10), w_X16_emit_284 ra jx rm K220 Q X σ v1 v10 → RG σ → Shp dm ra jx rm σ → JJ p l e R s m args below meth c 14 D cA A n0 s0 QM σ 284 [(0, .ref rm), (1, .int (i32 v1)), (10, .int (i32 v10))] [] := by
  intro σ v1 v10 g1 g10 h hGσ hS H locs ls hH hl hc
  have B := K.1
  unfold w_X16_emit_284 at h
  refine lv_iconst (v := i32 1) B.1 B.2.1 dX16_emit_284 (by decide) ?_
  refine lv_goto (tgt := 289) B.1 B.2.1 dX16_emit_285 (by decide) ?_
  exact a_X16_emit_289 K hQ hX hK220 _ _ _ _ g1 g10 (by unfold rng; omega) h hGσ hS _ _ _ hH (lv_sub (l' := [(0, .ref rm), (1, .int (i32 v1)), (10, .int (i32 v10))]) hl [0, 1, 2] rfl) hc
set_option maxRecDepth 20000 in
theorem a_X16_emit_275 {Q : Sg → Unit → Prop} {X : Sg → String → Prop} (K : MC R p s m args c cX16_emit 14 RX16 D cA tys A n0 s0 2 46 []) (hQ : HQV p l e R s m args below meth c cX16_emit D cA A n0 s0 QM dm ra jx rm Q) (hX : HX p l e R s m args below meth c 14 D cA A n0 s0 QM dm ra jx rm X) {K220 : Sg → Int → Int → Prop} (hK220 : ∀ (σ : Sg) (v1 : Int) (v10 : Int) (g1 : rng v1) (g10 : rng v10), K220 σ v1 v10 → RG σ → Shp dm ra jx rm σ → JJ p l e R s m args below meth c 14 D cA A n0 s0 QM σ 220 [(0, .ref rm), (1, .int (i32 v1)), (10, .int (i32 v10))] []) : ∀ (σ : Sg) (v1 : Int) (v10 : Int) (u0 : Int) (g1 : rng v1) (g10 : rng v10) (gu0 : rng u0), w_X16_emit_275 ra jx rm K220 Q X σ v1 v10 u0 → RG σ → Shp dm ra jx rm σ → JJ p l e R s m args below meth c 14 D cA A n0 s0 QM σ 275 [(0, .ref rm), (1, .int (i32 v1)), (10, .int (i32 v10))] [.int (i32 u0)] := by
  intro σ v1 v10 u0 g1 g10 gu0 h hGσ hS H locs ls hH hl hc
  have B := K.1
  unfold w_X16_emit_275 at h
  refine lv_aload_n B.1 B.2.1 dX16_emit_275 rfl (lv_at hl 0 rfl) ?_
  refine r_arr B hH hS 38 (kd := 100) (n := 64) (by decide) (by decide) wf_X16_380 rfl rfl dX16_emit_276 ?_
  refine lv_iload_n B.1 B.2.1 dX16_emit_279 rfl (lv_at hl 1 rfl) ?_
  obtain ⟨q1, h⟩ := h
  refine x_iald B K.2.1 hH (hS.ar (k := 38) (kd := 100) (n := 64) (by decide)) (by decide) q1 dX16_emit_280 ?_
  refine lv_icmp_ne (tgt := 288) B.1 B.2.1 dX16_emit_281 (by decide) (fun h9 => ?_) (fun h9 => ?_)
  · rw [if_pos (fun q => h9 ((i32_eq gu0 (hGσ _ _)).mpr q))] at h
    exact a_X16_emit_288 K hQ hX hK220 _ _ _ g1 g10 h hGσ hS _ _ _ hH (lv_sub (l' := [(0, .ref rm), (1, .int (i32 v1)), (10, .int (i32 v10))]) hl [0, 1, 2] rfl) hc
  · rw [if_neg (fun q => q ((i32_eq gu0 (hGσ _ _)).mp h9))] at h
    exact a_X16_emit_284 K hQ hX hK220 _ _ _ g1 g10 h hGσ hS _ _ _ hH (lv_sub (l' := [(0, .ref rm), (1, .int (i32 v1)), (10, .int (i32 v10))]) hl [0, 1, 2] rfl) hc
set_option maxRecDepth 20000 in
theorem a_X16_emit_265 {Q : Sg → Unit → Prop} {X : Sg → String → Prop} (K : MC R p s m args c cX16_emit 14 RX16 D cA tys A n0 s0 2 46 []) (hQ : HQV p l e R s m args below meth c cX16_emit D cA A n0 s0 QM dm ra jx rm Q) (hX : HX p l e R s m args below meth c 14 D cA A n0 s0 QM dm ra jx rm X) {K220 : Sg → Int → Int → Prop} (hK220 : ∀ (σ : Sg) (v1 : Int) (v10 : Int) (g1 : rng v1) (g10 : rng v10), K220 σ v1 v10 → RG σ → Shp dm ra jx rm σ → JJ p l e R s m args below meth c 14 D cA A n0 s0 QM σ 220 [(0, .ref rm), (1, .int (i32 v1)), (10, .int (i32 v10))] []) : ∀ (σ : Sg) (v1 : Int) (v10 : Int) (v11 : Int) (g1 : rng v1) (g10 : rng v10) (g11 : rng v11), w_X16_emit_265 ra jx rm K220 Q X σ v1 v10 v11 → RG σ → Shp dm ra jx rm σ → JJ p l e R s m args below meth c 14 D cA A n0 s0 QM σ 265 [(0, .ref rm), (1, .int (i32 v1)), (10, .int (i32 v10)), (11, .int (i32 v11))] [] := by
  intro σ v1 v10 v11 g1 g10 g11 h hGσ hS H locs ls hH hl hc
  have B := K.1
  unfold w_X16_emit_265 at h
  refine lv_aload_n B.1 B.2.1 dX16_emit_265 rfl (lv_at hl 0 rfl) ?_
  refine r_getp B hH hS 17 (by decide) wf_X16_356 rfl rfl dX16_emit_266 ?_
  obtain ⟨a42, ea42, ja42, h⟩ := h
  refine W.eq (g2 := F0 m 269 ls [.ref a42]) (by rw [ea42]; rfl) ?_
  refine n_arr B hH hS ja42 5 (kd := 100) (n := 16) (by decide) (by decide) (List.mem_of_getElem? (i := 5) rfl) rfl dX16_emit_269 ?_
  refine lv_iload B.1 B.2.1 dX16_emit_272 (lv_at hl 3 rfl) ?_
  obtain ⟨q2, h⟩ := h
  refine x_iald B K.2.1 hH (hS.ja ja42 (k := 5) (kd := 100) (n := 16) (by decide)) (by decide) q2 dX16_emit_274 ?_
  exact a_X16_emit_275 K hQ hX hK220 _ _ _ _ g1 g10 (hGσ _ _) h hGσ hS _ _ _ hH (lv_sub (l' := [(0, .ref rm), (1, .int (i32 v1)), (10, .int (i32 v10))]) hl [0, 1, 2] rfl) hc
set_option maxRecDepth 20000 in
theorem a_X16_emit_252 {Q : Sg → Unit → Prop} {X : Sg → String → Prop} (K : MC R p s m args c cX16_emit 14 RX16 D cA tys A n0 s0 2 46 []) (hQ : HQV p l e R s m args below meth c cX16_emit D cA A n0 s0 QM dm ra jx rm Q) (hX : HX p l e R s m args below meth c 14 D cA A n0 s0 QM dm ra jx rm X) {K220 : Sg → Int → Int → Prop} (hK220 : ∀ (σ : Sg) (v1 : Int) (v10 : Int) (g1 : rng v1) (g10 : rng v10), K220 σ v1 v10 → RG σ → Shp dm ra jx rm σ → JJ p l e R s m args below meth c 14 D cA A n0 s0 QM σ 220 [(0, .ref rm), (1, .int (i32 v1)), (10, .int (i32 v10))] []) : ∀ (σ : Sg) (v1 : Int) (v10 : Int) (v11 : Int) (g1 : rng v1) (g10 : rng v10) (g11 : rng v11), w_X16_emit_252 ra jx rm K220 Q X σ v1 v10 v11 → RG σ → Shp dm ra jx rm σ → JJ p l e R s m args below meth c 14 D cA A n0 s0 QM σ 252 [(0, .ref rm), (1, .int (i32 v1)), (10, .int (i32 v10)), (11, .int (i32 v11))] [] := by
  intro σ v1 v10 v11 g1 g10 g11 h hGσ hS H locs ls hH hl hc
  have B := K.1
  unfold w_X16_emit_252 at h
  refine lv_aload_n B.1 B.2.1 dX16_emit_252 rfl (lv_at hl 0 rfl) ?_
  refine r_getp B hH hS 17 (by decide) wf_X16_356 rfl rfl dX16_emit_253 ?_
  obtain ⟨a43, ea43, ja43, h⟩ := h
  refine W.eq (g2 := F0 m 256 ls [.ref a43]) (by rw [ea43]; rfl) ?_
  refine n_arr B hH hS ja43 4 (kd := 100) (n := 16) (by decide) (by decide) (List.mem_of_getElem? (i := 4) rfl) rfl dX16_emit_256 ?_
  refine lv_iload B.1 B.2.1 dX16_emit_259 (lv_at hl 3 rfl) ?_
  obtain ⟨q2, h⟩ := h
  refine x_iald B K.2.1 hH (hS.ja ja43 (k := 4) (kd := 100) (n := 16) (by decide)) (by decide) q2 dX16_emit_261 ?_
  refine lv_goto (tgt := 275) B.1 B.2.1 dX16_emit_262 (by decide) ?_
  exact a_X16_emit_275 K hQ hX hK220 _ _ _ _ g1 g10 (hGσ _ _) h hGσ hS _ _ _ hH (lv_sub (l' := [(0, .ref rm), (1, .int (i32 v1)), (10, .int (i32 v10))]) hl [0, 1, 2] rfl) hc
set_option maxRecDepth 20000 in
theorem a_X16_emit_245 {Q : Sg → Unit → Prop} {X : Sg → String → Prop} (K : MC R p s m args c cX16_emit 14 RX16 D cA tys A n0 s0 2 46 []) (hQ : HQV p l e R s m args below meth c cX16_emit D cA A n0 s0 QM dm ra jx rm Q) (hX : HX p l e R s m args below meth c 14 D cA A n0 s0 QM dm ra jx rm X) {K220 : Sg → Int → Int → Prop} (hK220 : ∀ (σ : Sg) (v1 : Int) (v10 : Int) (g1 : rng v1) (g10 : rng v10), K220 σ v1 v10 → RG σ → Shp dm ra jx rm σ → JJ p l e R s m args below meth c 14 D cA A n0 s0 QM σ 220 [(0, .ref rm), (1, .int (i32 v1)), (10, .int (i32 v10))] []) : ∀ (σ : Sg) (v1 : Int) (v10 : Int) (v11 : Int) (g1 : rng v1) (g10 : rng v10) (g11 : rng v11), w_X16_emit_245 ra jx rm K220 Q X σ v1 v10 v11 → RG σ → Shp dm ra jx rm σ → JJ p l e R s m args below meth c 14 D cA A n0 s0 QM σ 245 [(0, .ref rm), (1, .int (i32 v1)), (10, .int (i32 v10)), (11, .int (i32 v11))] [] := by
  intro σ v1 v10 v11 g1 g10 g11 h hGσ hS H locs ls hH hl hc
  have B := K.1
  unfold w_X16_emit_245 at h
  refine lv_iload B.1 B.2.1 dX16_emit_245 (lv_at hl 2 rfl) ?_
  refine lv_iconst (v := i32 2) B.1 B.2.1 dX16_emit_247 (by decide) ?_
  refine lv_irem B.1 B.2.1 dX16_emit_248 (i32_ne0 (by unfold rng; omega) (by decide)) ?_
  refine W.eq (g2 := F0 m 249 ls [.int (i32 (remI v10 2))]) (by unfold remI; rw [i32_self]) ?_
  refine lv_if_ne (tgt := 265) B.1 B.2.1 dX16_emit_249 (by decide) (fun h9 => ?_) (fun h9 => ?_)
  · rw [if_pos (fun q => h9 ((z_eq (rng_remI _ _)).mpr q))] at h
    exact a_X16_emit_265 K hQ hX hK220 _ _ _ _ g1 g10 g11 h hGσ hS _ _ _ hH (lv_sub (l' := [(0, .ref rm), (1, .int (i32 v1)), (10, .int (i32 v10)), (11, .int (i32 v11))]) hl [0, 1, 2, 3] rfl) hc
  · rw [if_neg (fun q => q ((z_eq (rng_remI _ _)).mp h9))] at h
    exact a_X16_emit_252 K hQ hX hK220 _ _ _ _ g1 g10 g11 h hGσ hS _ _ _ hH (lv_sub (l' := [(0, .ref rm), (1, .int (i32 v1)), (10, .int (i32 v10)), (11, .int (i32 v11))]) hl [0, 1, 2, 3] rfl) hc
set_option maxRecDepth 20000 in
theorem a_X16_emit_227 {Q : Sg → Unit → Prop} {X : Sg → String → Prop} (K : MC R p s m args c cX16_emit 14 RX16 D cA tys A n0 s0 2 46 []) (hQ : HQV p l e R s m args below meth c cX16_emit D cA A n0 s0 QM dm ra jx rm Q) (hX : HX p l e R s m args below meth c 14 D cA A n0 s0 QM dm ra jx rm X) {K220 : Sg → Int → Int → Prop} (hK220 : ∀ (σ : Sg) (v1 : Int) (v10 : Int) (g1 : rng v1) (g10 : rng v10), K220 σ v1 v10 → RG σ → Shp dm ra jx rm σ → JJ p l e R s m args below meth c 14 D cA A n0 s0 QM σ 220 [(0, .ref rm), (1, .int (i32 v1)), (10, .int (i32 v10))] []) : ∀ (σ : Sg) (v1 : Int) (v10 : Int) (g1 : rng v1) (g10 : rng v10), w_X16_emit_227 ra jx rm K220 Q X σ v1 v10 → RG σ → Shp dm ra jx rm σ → JJ p l e R s m args below meth c 14 D cA A n0 s0 QM σ 227 [(0, .ref rm), (1, .int (i32 v1)), (10, .int (i32 v10))] [] := by
  intro σ v1 v10 g1 g10 h hGσ hS H locs ls hH hl hc
  have B := K.1
  unfold w_X16_emit_227 at h
  refine lv_iload B.1 B.2.1 dX16_emit_227 (lv_at hl 2 rfl) ?_
  refine lv_iconst (v := i32 2) B.1 B.2.1 dX16_emit_229 (by decide) ?_
  refine lv_idiv B.1 B.2.1 dX16_emit_230 (i32_ne0 (by unfold rng; omega) (by decide)) ?_
  refine W.eq (g2 := F0 m 231 ls [.int (i32 (divI v10 2))]) (by unfold divI; rw [i32_self]) ?_
  refine lv_istore (lv' := [(11, .int (i32 (divI v10 2))), (0, .ref rm), (1, .int (i32 v1)), (10, .int (i32 v10))]) B.1 B.2.1 dX16_emit_231 hl (by decide) rfl (fun ls hl => ?_)
  refine lv_iload B.1 B.2.1 dX16_emit_233 (lv_at hl 0 rfl) ?_
  refine lv_aload_n B.1 B.2.1 dX16_emit_235 rfl (lv_at hl 1 rfl) ?_
  refine r_getp B hH hS 17 (by decide) wf_X16_356 rfl rfl dX16_emit_236 ?_
  obtain ⟨a44, ea44, ja44, h⟩ := h
  refine W.eq (g2 := F0 m 239 ls [.ref a44, .int (i32 (divI v10 2))]) (by rw [ea44]; rfl) ?_
  refine n_geti B hH hS ja44 0 (by decide) (List.mem_of_getElem? (i := 0) rfl) rfl dX16_emit_239 ?_
  refine lv_icmp_ge (tgt := 288) B.1 B.2.1 dX16_emit_242 (by decide) (fun h9 => ?_) (fun h9 => ?_)
  · rw [if_pos ((i32_le (hGσ _ _) (rng_divI _ _)).mp h9)] at h
    exact a_X16_emit_288 K hQ hX hK220 _ _ _ g1 g10 h hGσ hS _ _ _ hH (lv_sub (l' := [(0, .ref rm), (1, .int (i32 v1)), (10, .int (i32 v10))]) hl [1, 2, 3] rfl) hc
  · rw [if_neg (fun q => h9 ((i32_le (hGσ _ _) (rng_divI _ _)).mpr q))] at h
    exact a_X16_emit_245 K hQ hX hK220 _ _ _ _ g1 g10 (rng_divI _ _) h hGσ hS _ _ _ hH (lv_sub (l' := [(0, .ref rm), (1, .int (i32 v1)), (10, .int (i32 v10)), (11, .int (i32 (divI v10 2)))]) hl [1, 2, 3, 0] rfl) hc
set_option maxRecDepth 20000 in
theorem a_X16_emit_220 {Q : Sg → Unit → Prop} {X : Sg → String → Prop} (K : MC R p s m args c cX16_emit 14 RX16 D cA tys A n0 s0 2 46 []) (hQ : HQV p l e R s m args below meth c cX16_emit D cA A n0 s0 QM dm ra jx rm Q) (hX : HX p l e R s m args below meth c 14 D cA A n0 s0 QM dm ra jx rm X) {K220 : Sg → Int → Int → Prop} (hK220 : ∀ (σ : Sg) (v1 : Int) (v10 : Int) (g1 : rng v1) (g10 : rng v10), K220 σ v1 v10 → RG σ → Shp dm ra jx rm σ → JJ p l e R s m args below meth c 14 D cA A n0 s0 QM σ 220 [(0, .ref rm), (1, .int (i32 v1)), (10, .int (i32 v10))] []) : ∀ (σ : Sg) (v1 : Int) (v10 : Int) (g1 : rng v1) (g10 : rng v10), w_X16_emit_220 ra jx rm K220 Q X σ v1 v10 → RG σ → Shp dm ra jx rm σ → JJ p l e R s m args below meth c 14 D cA A n0 s0 QM σ 220 [(0, .ref rm), (1, .int (i32 v1)), (10, .int (i32 v10))] [] := by
  intro σ v1 v10 g1 g10 h hGσ hS H locs ls hH hl hc
  have B := K.1
  unfold w_X16_emit_220 at h
  refine lv_iload B.1 B.2.1 dX16_emit_220 (lv_at hl 2 rfl) ?_
  refine lv_bipush (v := i32 32) B.1 B.2.1 dX16_emit_222 (by decide) ?_
  refine lv_icmp_ge (tgt := 330) B.1 B.2.1 dX16_emit_224 (by decide) (fun h9 => ?_) (fun h9 => ?_)
  · rw [if_pos ((i32_le (by unfold rng; omega) g10).mp h9)] at h
    exact a_X16_emit_330 K hQ hX _ h hGσ hS _ _ _ hH (lv_sub (l' := [(0, .ref rm)]) hl [0] rfl) hc
  · rw [if_neg (fun q => h9 ((i32_le (by unfold rng; omega) g10).mpr q))] at h
    exact a_X16_emit_227 K hQ hX hK220 _ _ _ g1 g10 h hGσ hS _ _ _ hH (lv_sub (l' := [(0, .ref rm), (1, .int (i32 v1)), (10, .int (i32 v10))]) hl [0, 1, 2] rfl) hc
theorem al_X16_emit_220 {Q : Sg → Unit → Prop} {X : Sg → String → Prop} (K : MC R p s m args c cX16_emit 14 RX16 D cA tys A n0 s0 2 46 []) (hQ : HQV p l e R s m args below meth c cX16_emit D cA A n0 s0 QM dm ra jx rm Q) (hX : HX p l e R s m args below meth c 14 D cA A n0 s0 QM dm ra jx rm X) : ∀ (n : Nat), ∀ (σ : Sg) (v1 : Int) (v10 : Int) (g1 : rng v1) (g10 : rng v10), wl_X16_emit_220 ra jx rm Q X n σ v1 v10 → RG σ → Shp dm ra jx rm σ → JJ p l e R s m args below meth c 14 D cA A n0 s0 QM σ 220 [(0, .ref rm), (1, .int (i32 v1)), (10, .int (i32 v10))] [] := by
  intro n
  induction n with
  | zero => intro σ v1 v10 g1 g10 h; exact h.elim
  | succ n ih => exact fun σ v1 v10 g1 g10 h => a_X16_emit_220 K hQ hX ih σ v1 v10 g1 g10 h
set_option maxRecDepth 20000 in
theorem a_X16_emit_217 {Q : Sg → Unit → Prop} {X : Sg → String → Prop} (K : MC R p s m args c cX16_emit 14 RX16 D cA tys A n0 s0 2 46 []) (hQ : HQV p l e R s m args below meth c cX16_emit D cA A n0 s0 QM dm ra jx rm Q) (hX : HX p l e R s m args below meth c 14 D cA A n0 s0 QM dm ra jx rm X) : ∀ (σ : Sg) (v1 : Int) (g1 : rng v1), w_X16_emit_217 ra jx rm Q X σ v1 → RG σ → Shp dm ra jx rm σ → JJ p l e R s m args below meth c 14 D cA A n0 s0 QM σ 217 [(0, .ref rm), (1, .int (i32 v1))] [] := by
  intro σ v1 g1 h hGσ hS H locs ls hH hl hc
  have B := K.1
  unfold w_X16_emit_217 at h
  refine lv_iconst (v := i32 0) B.1 B.2.1 dX16_emit_217 (by decide) ?_
  refine lv_istore (lv' := [(10, .int (i32 0)), (0, .ref rm), (1, .int (i32 v1))]) B.1 B.2.1 dX16_emit_218 hl (by decide) rfl (fun ls hl => ?_)
  obtain ⟨n9, h⟩ := h
  exact al_X16_emit_220 K hQ hX n9 _ _ _ g1 (by unfold rng; omega) h hGσ hS _ _ _ hH (lv_sub (l' := [(0, .ref rm), (1, .int (i32 v1)), (10, .int (i32 0))]) hl [1, 2, 0] rfl) hc
set_option maxRecDepth 20000 in
theorem a_X16_emit_211 {Q : Sg → Unit → Prop} {X : Sg → String → Prop} (K : MC R p s m args c cX16_emit 14 RX16 D cA tys A n0 s0 2 46 []) (hQ : HQV p l e R s m args below meth c cX16_emit D cA A n0 s0 QM dm ra jx rm Q) (hX : HX p l e R s m args below meth c 14 D cA A n0 s0 QM dm ra jx rm X) {K11 : Sg → Int → Int64 → Option Nat → Int → Int → Int → Prop} (hK11 : ∀ (σ : Sg) (v1 : Int) (v2 : Int64) (v4 : Option Nat) (v5 : Int) (v6 : Int) (v10 : Int) (g1 : rng v1) (g5 : rng v5) (g6 : rng v6) (g10 : rng v10), K11 σ v1 v2 v4 v5 v6 v10 → RG σ → Shp dm ra jx rm σ → JJ p l e R s m args below meth c 14 D cA A n0 s0 QM σ 11 [(0, .ref rm), (1, .int (i32 v1)), (2, .long v2), (4, va_rf v4), (5, .int (i32 v5)), (6, .int (i32 v6)), (10, .int (i32 v10))] []) : ∀ (σ : Sg) (v1 : Int) (v2 : Int64) (v4 : Option Nat) (v5 : Int) (v6 : Int) (v10 : Int) (g1 : rng v1) (g5 : rng v5) (g6 : rng v6) (g10 : rng v10), w_X16_emit_211 ra jx rm K11 Q X σ v1 v2 v4 v5 v6 v10 → RG σ → Shp dm ra jx rm σ → JJ p l e R s m args below meth c 14 D cA A n0 s0 QM σ 211 [(0, .ref rm), (1, .int (i32 v1)), (2, .long v2), (4, va_rf v4), (5, .int (i32 v5)), (6, .int (i32 v6)), (10, .int (i32 v10))] [] := by
  intro σ v1 v2 v4 v5 v6 v10 g1 g5 g6 g10 h hGσ hS H locs ls hH hl hc
  have B := K.1
  unfold w_X16_emit_211 at h
  obtain ⟨q1, h⟩ := h
  refine lv_iinc (k := 6) (v := i32 (v10 + 1)) (lv' := [(10, .int (i32 (v10 + 1))), (0, .ref rm), (1, .int (i32 v1)), (2, .long v2), (4, va_rf v4), (5, .int (i32 v5)), (6, .int (i32 v6))]) B.1 B.2.1 dX16_emit_211 hl rfl (i32_add _ _) (by decide) rfl (fun ls hl => ?_)
  refine lv_goto (tgt := 11) B.1 B.2.1 dX16_emit_214 (by decide) ?_
  exact hK11 _ _ _ _ _ _ _ g1 g5 g6 q1 h hGσ hS _ _ _ hH (lv_sub (l' := [(0, .ref rm), (1, .int (i32 v1)), (2, .long v2), (4, va_rf v4), (5, .int (i32 v5)), (6, .int (i32 v6)), (10, .int (i32 (v10 + 1)))]) hl [1, 2, 3, 4, 5, 6, 0] rfl) hc
set_option maxRecDepth 20000 in
theorem a_X16_emit_196 {Q : Sg → Unit → Prop} {X : Sg → String → Prop} (K : MC R p s m args c cX16_emit 14 RX16 D cA tys A n0 s0 2 46 []) (hQ : HQV p l e R s m args below meth c cX16_emit D cA A n0 s0 QM dm ra jx rm Q) (hX : HX p l e R s m args below meth c 14 D cA A n0 s0 QM dm ra jx rm X) {K11 : Sg → Int → Int64 → Option Nat → Int → Int → Int → Prop} (hK11 : ∀ (σ : Sg) (v1 : Int) (v2 : Int64) (v4 : Option Nat) (v5 : Int) (v6 : Int) (v10 : Int) (g1 : rng v1) (g5 : rng v5) (g6 : rng v6) (g10 : rng v10), K11 σ v1 v2 v4 v5 v6 v10 → RG σ → Shp dm ra jx rm σ → JJ p l e R s m args below meth c 14 D cA A n0 s0 QM σ 11 [(0, .ref rm), (1, .int (i32 v1)), (2, .long v2), (4, va_rf v4), (5, .int (i32 v5)), (6, .int (i32 v6)), (10, .int (i32 v10))] []) : ∀ (σ : Sg) (v1 : Int) (v2 : Int64) (v4 : Option Nat) (v5 : Int) (v6 : Int) (v10 : Int) (g1 : rng v1) (g5 : rng v5) (g6 : rng v6) (g10 : rng v10), w_X16_emit_196 ra jx rm K11 Q X σ v1 v2 v4 v5 v6 v10 → RG σ → Shp dm ra jx rm σ → JJ p l e R s m args below meth c 14 D cA A n0 s0 QM σ 196 [(0, .ref rm), (1, .int (i32 v1)), (2, .long v2), (4, va_rf v4), (5, .int (i32 v5)), (6, .int (i32 v6)), (10, .int (i32 v10))] [] := by
  intro σ v1 v2 v4 v5 v6 v10 g1 g5 g6 g10 h hGσ hS H locs ls hH hl hc
  have B := K.1
  unfold w_X16_emit_196 at h
  refine lv_aload_n B.1 B.2.1 dX16_emit_196 rfl (lv_at hl 0 rfl) ?_
  refine lv_iload_n B.1 B.2.1 dX16_emit_197 rfl (lv_at hl 1 rfl) ?_
  refine lv_iload B.1 B.2.1 dX16_emit_198 (lv_at hl 6 rfl) ?_
  refine lv_iconst (v := i32 0) B.1 B.2.1 dX16_emit_200 (by decide) ?_
  refine lv_lload_n B.1 B.2.1 dX16_emit_201 rfl (lv_at hl 2 rfl) ?_
  refine lv_aloadQ B.1 B.2.1 dX16_emit_202 (lv_at hl 3 rfl) ?_
  refine lv_iload B.1 B.2.1 dX16_emit_204 (lv_at hl 4 rfl) ?_
  refine lv_iload B.1 B.2.1 dX16_emit_206 (lv_at hl 5 rfl) ?_
  refine c_V B hH hl hc K.2.2.1 (C := RX16) (T := TX16) (N := 123) (ci := 16) (As := [.int (i32 v1), .int (i32 v10), .int (i32 0), .long v2, va_rf v4, .int (i32 v5), .int (i32 v6)]) (ok_X16_box K.2.1 σ v1 v10 0 v2 v4 v5 v6 g1 g10 (by unfold rng; omega) g5 g6 hGσ hS h) wc_X16_482 7 hd_X16_box ⟨Nat.le_trans (Nat.le_of_ble_eq_true rfl) K.2.2.2.1, Nat.le_trans (Nat.le_of_ble_eq_true rfl) K.2.2.2.2.1⟩ hS.1.1 hS.1.2 (by decide) rfl rfl (rest := []) rfl (Nat.le_of_ble_eq_true rfl) dX16_emit_208 (fun σ45 w hq => ?_) (fun σ9 E9 hx9 => hX σ9 E9 _ _ _ (tb_out K.2.2.2.2.2 rfl) hx9.1 hx9.2.1 hx9.2.2)
  obtain ⟨rfl, h, hGσ45, hS⟩ := hq
  intro H locs ls hH hl hc
  refine W.eq (g2 := F0 m 211 ls []) (rfl) ?_
  try dsimp only at h
  exact a_X16_emit_211 K hQ hX hK11 _ _ _ _ _ _ _ g1 g5 g6 g10 h hGσ45 hS _ _ _ hH (lv_sub (l' := [(0, .ref rm), (1, .int (i32 v1)), (2, .long v2), (4, va_rf v4), (5, .int (i32 v5)), (6, .int (i32 v6)), (10, .int (i32 v10))]) hl [0, 1, 2, 3, 4, 5, 6] rfl) hc
set_option maxRecDepth 20000 in
theorem a_X16_emit_191 {Q : Sg → Unit → Prop} {X : Sg → String → Prop} (K : MC R p s m args c cX16_emit 14 RX16 D cA tys A n0 s0 2 46 []) (hQ : HQV p l e R s m args below meth c cX16_emit D cA A n0 s0 QM dm ra jx rm Q) (hX : HX p l e R s m args below meth c 14 D cA A n0 s0 QM dm ra jx rm X) {K11 : Sg → Int → Int64 → Option Nat → Int → Int → Int → Prop} (hK11 : ∀ (σ : Sg) (v1 : Int) (v2 : Int64) (v4 : Option Nat) (v5 : Int) (v6 : Int) (v10 : Int) (g1 : rng v1) (g5 : rng v5) (g6 : rng v6) (g10 : rng v10), K11 σ v1 v2 v4 v5 v6 v10 → RG σ → Shp dm ra jx rm σ → JJ p l e R s m args below meth c 14 D cA A n0 s0 QM σ 11 [(0, .ref rm), (1, .int (i32 v1)), (2, .long v2), (4, va_rf v4), (5, .int (i32 v5)), (6, .int (i32 v6)), (10, .int (i32 v10))] []) : ∀ (σ : Sg) (v1 : Int) (v2 : Int64) (v4 : Option Nat) (v5 : Int) (v6 : Int) (v10 : Int) (v13 : Int) (g1 : rng v1) (g5 : rng v5) (g6 : rng v6) (g10 : rng v10) (g13 : rng v13), w_X16_emit_191 ra jx rm K11 Q X σ v1 v2 v4 v5 v6 v10 v13 → RG σ → Shp dm ra jx rm σ → JJ p l e R s m args below meth c 14 D cA A n0 s0 QM σ 191 [(0, .ref rm), (1, .int (i32 v1)), (2, .long v2), (4, va_rf v4), (5, .int (i32 v5)), (6, .int (i32 v6)), (10, .int (i32 v10)), (13, .int (i32 v13))] [] := by
  intro σ v1 v2 v4 v5 v6 v10 v13 g1 g5 g6 g10 g13 h hGσ hS H locs ls hH hl hc
  have B := K.1
  unfold w_X16_emit_191 at h
  refine lv_iload B.1 B.2.1 dX16_emit_191 (lv_at hl 7 rfl) ?_
  refine lv_if_eq (tgt := 211) B.1 B.2.1 dX16_emit_193 (by decide) (fun h9 => ?_) (fun h9 => ?_)
  · rw [if_pos ((z_eq g13).mp h9)] at h
    exact a_X16_emit_211 K hQ hX hK11 _ _ _ _ _ _ _ g1 g5 g6 g10 h hGσ hS _ _ _ hH (lv_sub (l' := [(0, .ref rm), (1, .int (i32 v1)), (2, .long v2), (4, va_rf v4), (5, .int (i32 v5)), (6, .int (i32 v6)), (10, .int (i32 v10))]) hl [0, 1, 2, 3, 4, 5, 6] rfl) hc
  · rw [if_neg (fun q => h9 ((z_eq g13).mpr q))] at h
    exact a_X16_emit_196 K hQ hX hK11 _ _ _ _ _ _ _ g1 g5 g6 g10 h hGσ hS _ _ _ hH (lv_sub (l' := [(0, .ref rm), (1, .int (i32 v1)), (2, .long v2), (4, va_rf v4), (5, .int (i32 v5)), (6, .int (i32 v6)), (10, .int (i32 v10))]) hl [0, 1, 2, 3, 4, 5, 6] rfl) hc
set_option maxRecDepth 20000 in
theorem a_X16_emit_189 {Q : Sg → Unit → Prop} {X : Sg → String → Prop} (K : MC R p s m args c cX16_emit 14 RX16 D cA tys A n0 s0 2 46 []) (hQ : HQV p l e R s m args below meth c cX16_emit D cA A n0 s0 QM dm ra jx rm Q) (hX : HX p l e R s m args below meth c 14 D cA A n0 s0 QM dm ra jx rm X) {K11 : Sg → Int → Int64 → Option Nat → Int → Int → Int → Prop} (hK11 : ∀ (σ : Sg) (v1 : Int) (v2 : Int64) (v4 : Option Nat) (v5 : Int) (v6 : Int) (v10 : Int) (g1 : rng v1) (g5 : rng v5) (g6 : rng v6) (g10 : rng v10), K11 σ v1 v2 v4 v5 v6 v10 → RG σ → Shp dm ra jx rm σ → JJ p l e R s m args below meth c 14 D cA A n0 s0 QM σ 11 [(0, .ref rm), (1, .int (i32 v1)), (2, .long v2), (4, va_rf v4), (5, .int (i32 v5)), (6, .int (i32 v6)), (10, .int (i32 v10))] []) : ∀ (σ : Sg) (v1 : Int) (v2 : Int64) (v4 : Option Nat) (v5 : Int) (v6 : Int) (v10 : Int) (u0 : Int) (g1 : rng v1) (g5 : rng v5) (g6 : rng v6) (g10 : rng v10) (gu0 : rng u0), w_X16_emit_189 ra jx rm K11 Q X σ v1 v2 v4 v5 v6 v10 u0 → RG σ → Shp dm ra jx rm σ → JJ p l e R s m args below meth c 14 D cA A n0 s0 QM σ 189 [(0, .ref rm), (1, .int (i32 v1)), (2, .long v2), (4, va_rf v4), (5, .int (i32 v5)), (6, .int (i32 v6)), (10, .int (i32 v10))] [.int (i32 u0)] := by
  intro σ v1 v2 v4 v5 v6 v10 u0 g1 g5 g6 g10 gu0 h hGσ hS H locs ls hH hl hc
  have B := K.1
  unfold w_X16_emit_189 at h
  refine lv_istore (lv' := [(13, .int (i32 u0)), (0, .ref rm), (1, .int (i32 v1)), (2, .long v2), (4, va_rf v4), (5, .int (i32 v5)), (6, .int (i32 v6)), (10, .int (i32 v10))]) B.1 B.2.1 dX16_emit_189 hl (by decide) rfl (fun ls hl => ?_)
  exact a_X16_emit_191 K hQ hX hK11 _ _ _ _ _ _ _ _ g1 g5 g6 g10 gu0 h hGσ hS _ _ _ hH (lv_sub (l' := [(0, .ref rm), (1, .int (i32 v1)), (2, .long v2), (4, va_rf v4), (5, .int (i32 v5)), (6, .int (i32 v6)), (10, .int (i32 v10)), (13, .int (i32 u0))]) hl [1, 2, 3, 4, 5, 6, 7, 0] rfl) hc
set_option maxRecDepth 20000 in
theorem a_X16_emit_188 {Q : Sg → Unit → Prop} {X : Sg → String → Prop} (K : MC R p s m args c cX16_emit 14 RX16 D cA tys A n0 s0 2 46 []) (hQ : HQV p l e R s m args below meth c cX16_emit D cA A n0 s0 QM dm ra jx rm Q) (hX : HX p l e R s m args below meth c 14 D cA A n0 s0 QM dm ra jx rm X) {K11 : Sg → Int → Int64 → Option Nat → Int → Int → Int → Prop} (hK11 : ∀ (σ : Sg) (v1 : Int) (v2 : Int64) (v4 : Option Nat) (v5 : Int) (v6 : Int) (v10 : Int) (g1 : rng v1) (g5 : rng v5) (g6 : rng v6) (g10 : rng v10), K11 σ v1 v2 v4 v5 v6 v10 → RG σ → Shp dm ra jx rm σ → JJ p l e R s m args below meth c 14 D cA A n0 s0 QM σ 11 [(0, .ref rm), (1, .int (i32 v1)), (2, .long v2), (4, va_rf v4), (5, .int (i32 v5)), (6, .int (i32 v6)), (10, .int (i32 v10))] []) : ∀ (σ : Sg) (v1 : Int) (v2 : Int64) (v4 : Option Nat) (v5 : Int) (v6 : Int) (v10 : Int) (g1 : rng v1) (g5 : rng v5) (g6 : rng v6) (g10 : rng v10), w_X16_emit_188 ra jx rm K11 Q X σ v1 v2 v4 v5 v6 v10 → RG σ → Shp dm ra jx rm σ → JJ p l e R s m args below meth c 14 D cA A n0 s0 QM σ 188 [(0, .ref rm), (1, .int (i32 v1)), (2, .long v2), (4, va_rf v4), (5, .int (i32 v5)), (6, .int (i32 v6)), (10, .int (i32 v10))] [] := by
  intro σ v1 v2 v4 v5 v6 v10 g1 g5 g6 g10 h hGσ hS H locs ls hH hl hc
  have B := K.1
  unfold w_X16_emit_188 at h
  refine lv_iconst (v := i32 0) B.1 B.2.1 dX16_emit_188 (by decide) ?_
  exact a_X16_emit_189 K hQ hX hK11 _ _ _ _ _ _ _ _ g1 g5 g6 g10 (by unfold rng; omega) h hGσ hS _ _ _ hH (lv_sub (l' := [(0, .ref rm), (1, .int (i32 v1)), (2, .long v2), (4, va_rf v4), (5, .int (i32 v5)), (6, .int (i32 v6)), (10, .int (i32 v10))]) hl [0, 1, 2, 3, 4, 5, 6] rfl) hc
set_option maxRecDepth 20000 in
theorem a_X16_emit_184 {Q : Sg → Unit → Prop} {X : Sg → String → Prop} (K : MC R p s m args c cX16_emit 14 RX16 D cA tys A n0 s0 2 46 []) (hQ : HQV p l e R s m args below meth c cX16_emit D cA A n0 s0 QM dm ra jx rm Q) (hX : HX p l e R s m args below meth c 14 D cA A n0 s0 QM dm ra jx rm X) {K11 : Sg → Int → Int64 → Option Nat → Int → Int → Int → Prop} (hK11 : ∀ (σ : Sg) (v1 : Int) (v2 : Int64) (v4 : Option Nat) (v5 : Int) (v6 : Int) (v10 : Int) (g1 : rng v1) (g5 : rng v5) (g6 : rng v6) (g10 : rng v10), K11 σ v1 v2 v4 v5 v6 v10 → RG σ → Shp dm ra jx rm σ → JJ p l e R s m args below meth c 14 D cA A n0 s0 QM σ 11 [(0, .ref rm), (1, .int (i32 v1)), (2, .long v2), (4, va_rf v4), (5, .int (i32 v5)), (6, .int (i32 v6)), (10, .int (i32 v10))] []) : ∀ (σ : Sg) (v1 : Int) (v2 : Int64) (v4 : Option Nat) (v5 : Int) (v6 : Int) (v10 : Int) (g1 : rng v1) (g5 : rng v5) (g6 : rng v6) (g10 : rng v10), w_X16_emit_184 ra jx rm K11 Q X σ v1 v2 v4 v5 v6 v10 → RG σ → Shp dm ra jx rm σ → JJ p l e R s m args below meth c 14 D cA A n0 s0 QM σ 184 [(0, .ref rm), (1, .int (i32 v1)), (2, .long v2), (4, va_rf v4), (5, .int (i32 v5)), (6, .int (i32 v6)), (10, .int (i32 v10))] [] := by
  intro σ v1 v2 v4 v5 v6 v10 g1 g5 g6 g10 h hGσ hS H locs ls hH hl hc
  have B := K.1
  unfold w_X16_emit_184 at h
  refine lv_iconst (v := i32 1) B.1 B.2.1 dX16_emit_184 (by decide) ?_
  refine lv_goto (tgt := 189) B.1 B.2.1 dX16_emit_185 (by decide) ?_
  exact a_X16_emit_189 K hQ hX hK11 _ _ _ _ _ _ _ _ g1 g5 g6 g10 (by unfold rng; omega) h hGσ hS _ _ _ hH (lv_sub (l' := [(0, .ref rm), (1, .int (i32 v1)), (2, .long v2), (4, va_rf v4), (5, .int (i32 v5)), (6, .int (i32 v6)), (10, .int (i32 v10))]) hl [0, 1, 2, 3, 4, 5, 6] rfl) hc
set_option maxRecDepth 20000 in
theorem a_X16_emit_154 {Q : Sg → Unit → Prop} {X : Sg → String → Prop} (K : MC R p s m args c cX16_emit 14 RX16 D cA tys A n0 s0 2 46 []) (hQ : HQV p l e R s m args below meth c cX16_emit D cA A n0 s0 QM dm ra jx rm Q) (hX : HX p l e R s m args below meth c 14 D cA A n0 s0 QM dm ra jx rm X) {K11 : Sg → Int → Int64 → Option Nat → Int → Int → Int → Prop} (hK11 : ∀ (σ : Sg) (v1 : Int) (v2 : Int64) (v4 : Option Nat) (v5 : Int) (v6 : Int) (v10 : Int) (g1 : rng v1) (g5 : rng v5) (g6 : rng v6) (g10 : rng v10), K11 σ v1 v2 v4 v5 v6 v10 → RG σ → Shp dm ra jx rm σ → JJ p l e R s m args below meth c 14 D cA A n0 s0 QM σ 11 [(0, .ref rm), (1, .int (i32 v1)), (2, .long v2), (4, va_rf v4), (5, .int (i32 v5)), (6, .int (i32 v6)), (10, .int (i32 v10))] []) : ∀ (σ : Sg) (v1 : Int) (v2 : Int64) (v4 : Option Nat) (v5 : Int) (v6 : Int) (v10 : Int) (v11 : Int) (v12 : Int) (g1 : rng v1) (g5 : rng v5) (g6 : rng v6) (g10 : rng v10) (g11 : rng v11) (g12 : rng v12), w_X16_emit_154 ra jx rm K11 Q X σ v1 v2 v4 v5 v6 v10 v11 v12 → RG σ → Shp dm ra jx rm σ → JJ p l e R s m args below meth c 14 D cA A n0 s0 QM σ 154 [(0, .ref rm), (1, .int (i32 v1)), (2, .long v2), (4, va_rf v4), (5, .int (i32 v5)), (6, .int (i32 v6)), (10, .int (i32 v10)), (11, .int (i32 v11)), (12, .int (i32 v12))] [] := by
  intro σ v1 v2 v4 v5 v6 v10 v11 v12 g1 g5 g6 g10 g11 g12 h hGσ hS H locs ls hH hl hc
  have B := K.1
  unfold w_X16_emit_154 at h
  refine lv_aload_n B.1 B.2.1 dX16_emit_154 rfl (lv_at hl 0 rfl) ?_
  refine r_arr B hH hS 49 (kd := 101) (n := 32) (by decide) (by decide) wf_X16_444 rfl rfl dX16_emit_155 ?_
  refine lv_iconst (v := i32 2) B.1 B.2.1 dX16_emit_158 (by decide) ?_
  refine lv_iload B.1 B.2.1 dX16_emit_159 (lv_at hl 7 rfl) ?_
  obtain ⟨q1, h⟩ := h
  refine lv_imul B.1 B.2.1 dX16_emit_161 ?_
  rw [i32_mul]
  refine lv_aload_n B.1 B.2.1 dX16_emit_162 rfl (lv_at hl 0 rfl) ?_
  refine r_arr B hH hS 53 (kd := 100) (n := 1100) (by decide) (by decide) wf_X16_377 rfl rfl dX16_emit_163 ?_
  refine lv_iload B.1 B.2.1 dX16_emit_166 (lv_at hl 6 rfl) ?_
  obtain ⟨q2, h⟩ := h
  refine x_iald B K.2.1 hH (hS.ar (k := 53) (kd := 100) (n := 1100) (by decide)) (by decide) q2 dX16_emit_168 ?_
  obtain ⟨q3, h⟩ := h
  refine lv_iadd B.1 B.2.1 dX16_emit_169 ?_
  rw [i32_add]
  obtain ⟨q4, h⟩ := h
  refine x_lald B K.2.1 hH (hS.ar (k := 49) (kd := 101) (n := 32) (by decide)) (by decide) q4 dX16_emit_170 ?_
  refine lv_aload_n B.1 B.2.1 dX16_emit_171 rfl (lv_at hl 0 rfl) ?_
  refine r_geti B hH hS 33 (by decide) wf_X16_365 rfl rfl dX16_emit_172 ?_
  refine lv_i2l B.1 B.2.1 dX16_emit_175 (i32_i64 (hGσ _ _)) ?_
  obtain ⟨q5, h⟩ := h
  refine lv_lrem B.1 B.2.1 dX16_emit_176 q5 ?_
  refine lv_iload B.1 B.2.1 dX16_emit_177 (lv_at hl 8 rfl) ?_
  refine lv_i2l B.1 B.2.1 dX16_emit_179 (i32_i64 g12) ?_
  refine W.lcmp B.1 B.2.1 dX16_emit_180 ?_
  refine lv_if_ne (tgt := 188) B.1 B.2.1 dX16_emit_181 (by decide) (fun h9 => ?_) (fun h9 => ?_)
  · rw [if_pos (fun q => h9 ((lg_cmp_eq _ _).mpr q))] at h
    exact a_X16_emit_188 K hQ hX hK11 _ _ _ _ _ _ _ g1 g5 g6 g10 h hGσ hS _ _ _ hH (lv_sub (l' := [(0, .ref rm), (1, .int (i32 v1)), (2, .long v2), (4, va_rf v4), (5, .int (i32 v5)), (6, .int (i32 v6)), (10, .int (i32 v10))]) hl [0, 1, 2, 3, 4, 5, 6] rfl) hc
  · rw [if_neg (fun q => q ((lg_cmp_eq _ _).mp h9))] at h
    exact a_X16_emit_184 K hQ hX hK11 _ _ _ _ _ _ _ g1 g5 g6 g10 h hGσ hS _ _ _ hH (lv_sub (l' := [(0, .ref rm), (1, .int (i32 v1)), (2, .long v2), (4, va_rf v4), (5, .int (i32 v5)), (6, .int (i32 v6)), (10, .int (i32 v10))]) hl [0, 1, 2, 3, 4, 5, 6] rfl) hc
set_option maxRecDepth 20000 in
theorem a_X16_emit_141 {Q : Sg → Unit → Prop} {X : Sg → String → Prop} (K : MC R p s m args c cX16_emit 14 RX16 D cA tys A n0 s0 2 46 []) (hQ : HQV p l e R s m args below meth c cX16_emit D cA A n0 s0 QM dm ra jx rm Q) (hX : HX p l e R s m args below meth c 14 D cA A n0 s0 QM dm ra jx rm X) {K11 : Sg → Int → Int64 → Option Nat → Int → Int → Int → Prop} (hK11 : ∀ (σ : Sg) (v1 : Int) (v2 : Int64) (v4 : Option Nat) (v5 : Int) (v6 : Int) (v10 : Int) (g1 : rng v1) (g5 : rng v5) (g6 : rng v6) (g10 : rng v10), K11 σ v1 v2 v4 v5 v6 v10 → RG σ → Shp dm ra jx rm σ → JJ p l e R s m args below meth c 14 D cA A n0 s0 QM σ 11 [(0, .ref rm), (1, .int (i32 v1)), (2, .long v2), (4, va_rf v4), (5, .int (i32 v5)), (6, .int (i32 v6)), (10, .int (i32 v10))] []) : ∀ (σ : Sg) (v1 : Int) (v2 : Int64) (v4 : Option Nat) (v5 : Int) (v6 : Int) (v10 : Int) (v11 : Int) (v12 : Int) (v13 : Int) (g1 : rng v1) (g5 : rng v5) (g6 : rng v6) (g10 : rng v10) (g11 : rng v11) (g12 : rng v12) (g13 : rng v13), w_X16_emit_141 ra jx rm K11 Q X σ v1 v2 v4 v5 v6 v10 v11 v12 v13 → RG σ → Shp dm ra jx rm σ → JJ p l e R s m args below meth c 14 D cA A n0 s0 QM σ 141 [(0, .ref rm), (1, .int (i32 v1)), (2, .long v2), (4, va_rf v4), (5, .int (i32 v5)), (6, .int (i32 v6)), (10, .int (i32 v10)), (11, .int (i32 v11)), (12, .int (i32 v12)), (13, .int (i32 v13))] [] := by
  intro σ v1 v2 v4 v5 v6 v10 v11 v12 v13 g1 g5 g6 g10 g11 g12 g13 h hGσ hS H locs ls hH hl hc
  have B := K.1
  unfold w_X16_emit_141 at h
  refine lv_aload_n B.1 B.2.1 dX16_emit_141 rfl (lv_at hl 0 rfl) ?_
  refine lv_aload_n B.1 B.2.1 dX16_emit_142 rfl (lv_at hl 0 rfl) ?_
  refine r_arr B hH hS 38 (kd := 100) (n := 64) (by decide) (by decide) wf_X16_380 rfl rfl dX16_emit_143 ?_
  refine lv_iload_n B.1 B.2.1 dX16_emit_146 rfl (lv_at hl 1 rfl) ?_
  obtain ⟨q1, h⟩ := h
  refine x_iald B K.2.1 hH (hS.ar (k := 38) (kd := 100) (n := 64) (by decide)) (by decide) q1 dX16_emit_147 ?_
  refine c_V B hH hl hc K.2.2.1 (C := RX16) (T := TX16) (N := 123) (ci := 16) (As := [.int (i32 (gI σ (ra 38) v1.toNat))]) (ok_X16_isSingle K.2.1 σ (gI σ (ra 38) v1.toNat) (hGσ _ _) hGσ hS h) wc_X16_361 1 hd_X16_isSingle ⟨Nat.le_trans (Nat.le_of_ble_eq_true rfl) K.2.2.2.1, Nat.le_trans (Nat.le_of_ble_eq_true rfl) K.2.2.2.2.1⟩ hS.1.1 hS.1.2 (by decide) rfl rfl (rest := []) rfl (Nat.le_of_ble_eq_true rfl) dX16_emit_148 (fun σ46 w hq => ?_) (fun σ9 E9 hx9 => hX σ9 E9 _ _ _ (tb_out K.2.2.2.2.2 rfl) hx9.1 hx9.2.1 hx9.2.2)
  obtain ⟨r47, rfl, ⟨gr47, gzr47⟩, h, hGσ46, hS⟩ := hq
  intro H locs ls hH hl hc
  refine W.eq (g2 := F0 m 151 ls [.int (i32 r47)]) (rfl) ?_
  try dsimp only at h
  refine lv_if_eq (tgt := 191) B.1 B.2.1 dX16_emit_151 (by decide) (fun h9 => ?_) (fun h9 => ?_)
  · rw [if_pos ((z_eq gr47).mp h9)] at h
    exact a_X16_emit_191 K hQ hX hK11 _ _ _ _ _ _ _ _ g1 g5 g6 g10 g13 h hGσ46 hS _ _ _ hH (lv_sub (l' := [(0, .ref rm), (1, .int (i32 v1)), (2, .long v2), (4, va_rf v4), (5, .int (i32 v5)), (6, .int (i32 v6)), (10, .int (i32 v10)), (13, .int (i32 v13))]) hl [0, 1, 2, 3, 4, 5, 6, 9] rfl) hc
  · rw [if_neg (fun q => h9 ((z_eq gr47).mpr q))] at h
    exact a_X16_emit_154 K hQ hX hK11 _ _ _ _ _ _ _ _ _ g1 g5 g6 g10 g11 g12 h hGσ46 hS _ _ _ hH (lv_sub (l' := [(0, .ref rm), (1, .int (i32 v1)), (2, .long v2), (4, va_rf v4), (5, .int (i32 v5)), (6, .int (i32 v6)), (10, .int (i32 v10)), (11, .int (i32 v11)), (12, .int (i32 v12))]) hl [0, 1, 2, 3, 4, 5, 6, 7, 8] rfl) hc
set_option maxRecDepth 20000 in
theorem a_X16_emit_132 {Q : Sg → Unit → Prop} {X : Sg → String → Prop} (K : MC R p s m args c cX16_emit 14 RX16 D cA tys A n0 s0 2 46 []) (hQ : HQV p l e R s m args below meth c cX16_emit D cA A n0 s0 QM dm ra jx rm Q) (hX : HX p l e R s m args below meth c 14 D cA A n0 s0 QM dm ra jx rm X) {K11 : Sg → Int → Int64 → Option Nat → Int → Int → Int → Prop} (hK11 : ∀ (σ : Sg) (v1 : Int) (v2 : Int64) (v4 : Option Nat) (v5 : Int) (v6 : Int) (v10 : Int) (g1 : rng v1) (g5 : rng v5) (g6 : rng v6) (g10 : rng v10), K11 σ v1 v2 v4 v5 v6 v10 → RG σ → Shp dm ra jx rm σ → JJ p l e R s m args below meth c 14 D cA A n0 s0 QM σ 11 [(0, .ref rm), (1, .int (i32 v1)), (2, .long v2), (4, va_rf v4), (5, .int (i32 v5)), (6, .int (i32 v6)), (10, .int (i32 v10))] []) : ∀ (σ : Sg) (v1 : Int) (v2 : Int64) (v4 : Option Nat) (v5 : Int) (v6 : Int) (v10 : Int) (v11 : Int) (v12 : Int) (v13 : Int) (g1 : rng v1) (g5 : rng v5) (g6 : rng v6) (g10 : rng v10) (g11 : rng v11) (g12 : rng v12) (g13 : rng v13), w_X16_emit_132 ra jx rm K11 Q X σ v1 v2 v4 v5 v6 v10 v11 v12 v13 → RG σ → Shp dm ra jx rm σ → JJ p l e R s m args below meth c 14 D cA A n0 s0 QM σ 132 [(0, .ref rm), (1, .int (i32 v1)), (2, .long v2), (4, va_rf v4), (5, .int (i32 v5)), (6, .int (i32 v6)), (10, .int (i32 v10)), (11, .int (i32 v11)), (12, .int (i32 v12)), (13, .int (i32 v13))] [] := by
  intro σ v1 v2 v4 v5 v6 v10 v11 v12 v13 g1 g5 g6 g10 g11 g12 g13 h hGσ hS H locs ls hH hl hc
  have B := K.1
  unfold w_X16_emit_132 at h
  refine lv_aload_n B.1 B.2.1 dX16_emit_132 rfl (lv_at hl 0 rfl) ?_
  refine lv_iload B.1 B.2.1 dX16_emit_133 (lv_at hl 7 rfl) ?_
  refine c_V B hH hl hc K.2.2.1 (C := RX16) (T := TX16) (N := 123) (ci := 16) (As := [.int (i32 v11)]) (ok_X16_isSingle K.2.1 σ v11 g11 hGσ hS h) wc_X16_361 1 hd_X16_isSingle ⟨Nat.le_trans (Nat.le_of_ble_eq_true rfl) K.2.2.2.1, Nat.le_trans (Nat.le_of_ble_eq_true rfl) K.2.2.2.2.1⟩ hS.1.1 hS.1.2 (by decide) rfl rfl (rest := []) rfl (Nat.le_of_ble_eq_true rfl) dX16_emit_135 (fun σ48 w hq => ?_) (fun σ9 E9 hx9 => hX σ9 E9 _ _ _ (tb_out K.2.2.2.2.2 rfl) hx9.1 hx9.2.1 hx9.2.2)
  obtain ⟨r49, rfl, ⟨gr49, gzr49⟩, h, hGσ48, hS⟩ := hq
  intro H locs ls hH hl hc
  refine W.eq (g2 := F0 m 138 ls [.int (i32 r49)]) (rfl) ?_
  try dsimp only at h
  refine lv_if_ne (tgt := 191) B.1 B.2.1 dX16_emit_138 (by decide) (fun h9 => ?_) (fun h9 => ?_)
  · rw [if_pos (fun q => h9 ((z_eq gr49).mpr q))] at h
    exact a_X16_emit_191 K hQ hX hK11 _ _ _ _ _ _ _ _ g1 g5 g6 g10 g13 h hGσ48 hS _ _ _ hH (lv_sub (l' := [(0, .ref rm), (1, .int (i32 v1)), (2, .long v2), (4, va_rf v4), (5, .int (i32 v5)), (6, .int (i32 v6)), (10, .int (i32 v10)), (13, .int (i32 v13))]) hl [0, 1, 2, 3, 4, 5, 6, 9] rfl) hc
  · rw [if_neg (fun q => q ((z_eq gr49).mp h9))] at h
    exact a_X16_emit_141 K hQ hX hK11 _ _ _ _ _ _ _ _ _ _ g1 g5 g6 g10 g11 g12 g13 h hGσ48 hS _ _ _ hH (lv_sub (l' := [(0, .ref rm), (1, .int (i32 v1)), (2, .long v2), (4, va_rf v4), (5, .int (i32 v5)), (6, .int (i32 v6)), (10, .int (i32 v10)), (11, .int (i32 v11)), (12, .int (i32 v12)), (13, .int (i32 v13))]) hl [0, 1, 2, 3, 4, 5, 6, 7, 8, 9] rfl) hc
set_option maxRecDepth 20000 in
theorem a_X16_emit_127 {Q : Sg → Unit → Prop} {X : Sg → String → Prop} (K : MC R p s m args c cX16_emit 14 RX16 D cA tys A n0 s0 2 46 []) (hQ : HQV p l e R s m args below meth c cX16_emit D cA A n0 s0 QM dm ra jx rm Q) (hX : HX p l e R s m args below meth c 14 D cA A n0 s0 QM dm ra jx rm X) {K11 : Sg → Int → Int64 → Option Nat → Int → Int → Int → Prop} (hK11 : ∀ (σ : Sg) (v1 : Int) (v2 : Int64) (v4 : Option Nat) (v5 : Int) (v6 : Int) (v10 : Int) (g1 : rng v1) (g5 : rng v5) (g6 : rng v6) (g10 : rng v10), K11 σ v1 v2 v4 v5 v6 v10 → RG σ → Shp dm ra jx rm σ → JJ p l e R s m args below meth c 14 D cA A n0 s0 QM σ 11 [(0, .ref rm), (1, .int (i32 v1)), (2, .long v2), (4, va_rf v4), (5, .int (i32 v5)), (6, .int (i32 v6)), (10, .int (i32 v10))] []) : ∀ (σ : Sg) (v1 : Int) (v2 : Int64) (v4 : Option Nat) (v5 : Int) (v6 : Int) (v10 : Int) (u0 : Int) (g1 : rng v1) (g5 : rng v5) (g6 : rng v6) (g10 : rng v10) (gu0 : rng u0), w_X16_emit_127 ra jx rm K11 Q X σ v1 v2 v4 v5 v6 v10 u0 → RG σ → Shp dm ra jx rm σ → JJ p l e R s m args below meth c 14 D cA A n0 s0 QM σ 127 [(0, .ref rm), (1, .int (i32 v1)), (2, .long v2), (4, va_rf v4), (5, .int (i32 v5)), (6, .int (i32 v6)), (10, .int (i32 v10))] [.int (i32 u0)] := by
  intro σ v1 v2 v4 v5 v6 v10 u0 g1 g5 g6 g10 gu0 h hGσ hS H locs ls hH hl hc
  have B := K.1
  unfold w_X16_emit_127 at h
  refine lv_istore (lv' := [(13, .int (i32 u0)), (0, .ref rm), (1, .int (i32 v1)), (2, .long v2), (4, va_rf v4), (5, .int (i32 v5)), (6, .int (i32 v6)), (10, .int (i32 v10))]) B.1 B.2.1 dX16_emit_127 hl (by decide) rfl (fun ls hl => ?_)
  refine lv_goto (tgt := 191) B.1 B.2.1 dX16_emit_129 (by decide) ?_
  exact a_X16_emit_191 K hQ hX hK11 _ _ _ _ _ _ _ _ g1 g5 g6 g10 gu0 h hGσ hS _ _ _ hH (lv_sub (l' := [(0, .ref rm), (1, .int (i32 v1)), (2, .long v2), (4, va_rf v4), (5, .int (i32 v5)), (6, .int (i32 v6)), (10, .int (i32 v10)), (13, .int (i32 u0))]) hl [1, 2, 3, 4, 5, 6, 7, 0] rfl) hc
set_option maxRecDepth 20000 in
theorem a_X16_emit_126 {Q : Sg → Unit → Prop} {X : Sg → String → Prop} (K : MC R p s m args c cX16_emit 14 RX16 D cA tys A n0 s0 2 46 []) (hQ : HQV p l e R s m args below meth c cX16_emit D cA A n0 s0 QM dm ra jx rm Q) (hX : HX p l e R s m args below meth c 14 D cA A n0 s0 QM dm ra jx rm X) {K11 : Sg → Int → Int64 → Option Nat → Int → Int → Int → Prop} (hK11 : ∀ (σ : Sg) (v1 : Int) (v2 : Int64) (v4 : Option Nat) (v5 : Int) (v6 : Int) (v10 : Int) (g1 : rng v1) (g5 : rng v5) (g6 : rng v6) (g10 : rng v10), K11 σ v1 v2 v4 v5 v6 v10 → RG σ → Shp dm ra jx rm σ → JJ p l e R s m args below meth c 14 D cA A n0 s0 QM σ 11 [(0, .ref rm), (1, .int (i32 v1)), (2, .long v2), (4, va_rf v4), (5, .int (i32 v5)), (6, .int (i32 v6)), (10, .int (i32 v10))] []) : ∀ (σ : Sg) (v1 : Int) (v2 : Int64) (v4 : Option Nat) (v5 : Int) (v6 : Int) (v10 : Int) (g1 : rng v1) (g5 : rng v5) (g6 : rng v6) (g10 : rng v10), w_X16_emit_126 ra jx rm K11 Q X σ v1 v2 v4 v5 v6 v10 → RG σ → Shp dm ra jx rm σ → JJ p l e R s m args below meth c 14 D cA A n0 s0 QM σ 126 [(0, .ref rm), (1, .int (i32 v1)), (2, .long v2), (4, va_rf v4), (5, .int (i32 v5)), (6, .int (i32 v6)), (10, .int (i32 v10))] [] := by
  intro σ v1 v2 v4 v5 v6 v10 g1 g5 g6 g10 h hGσ hS H locs ls hH hl hc
  have B := K.1
  unfold w_X16_emit_126 at h
  refine lv_iconst (v := i32 0) B.1 B.2.1 dX16_emit_126 (by decide) ?_
  exact a_X16_emit_127 K hQ hX hK11 _ _ _ _ _ _ _ _ g1 g5 g6 g10 (by unfold rng; omega) h hGσ hS _ _ _ hH (lv_sub (l' := [(0, .ref rm), (1, .int (i32 v1)), (2, .long v2), (4, va_rf v4), (5, .int (i32 v5)), (6, .int (i32 v6)), (10, .int (i32 v10))]) hl [0, 1, 2, 3, 4, 5, 6] rfl) hc
set_option maxRecDepth 20000 in
theorem a_X16_emit_122 {Q : Sg → Unit → Prop} {X : Sg → String → Prop} (K : MC R p s m args c cX16_emit 14 RX16 D cA tys A n0 s0 2 46 []) (hQ : HQV p l e R s m args below meth c cX16_emit D cA A n0 s0 QM dm ra jx rm Q) (hX : HX p l e R s m args below meth c 14 D cA A n0 s0 QM dm ra jx rm X) {K11 : Sg → Int → Int64 → Option Nat → Int → Int → Int → Prop} (hK11 : ∀ (σ : Sg) (v1 : Int) (v2 : Int64) (v4 : Option Nat) (v5 : Int) (v6 : Int) (v10 : Int) (g1 : rng v1) (g5 : rng v5) (g6 : rng v6) (g10 : rng v10), K11 σ v1 v2 v4 v5 v6 v10 → RG σ → Shp dm ra jx rm σ → JJ p l e R s m args below meth c 14 D cA A n0 s0 QM σ 11 [(0, .ref rm), (1, .int (i32 v1)), (2, .long v2), (4, va_rf v4), (5, .int (i32 v5)), (6, .int (i32 v6)), (10, .int (i32 v10))] []) : ∀ (σ : Sg) (v1 : Int) (v2 : Int64) (v4 : Option Nat) (v5 : Int) (v6 : Int) (v10 : Int) (g1 : rng v1) (g5 : rng v5) (g6 : rng v6) (g10 : rng v10), w_X16_emit_122 ra jx rm K11 Q X σ v1 v2 v4 v5 v6 v10 → RG σ → Shp dm ra jx rm σ → JJ p l e R s m args below meth c 14 D cA A n0 s0 QM σ 122 [(0, .ref rm), (1, .int (i32 v1)), (2, .long v2), (4, va_rf v4), (5, .int (i32 v5)), (6, .int (i32 v6)), (10, .int (i32 v10))] [] := by
  intro σ v1 v2 v4 v5 v6 v10 g1 g5 g6 g10 h hGσ hS H locs ls hH hl hc
  have B := K.1
  unfold w_X16_emit_122 at h
  refine lv_iconst (v := i32 1) B.1 B.2.1 dX16_emit_122 (by decide) ?_
  refine lv_goto (tgt := 127) B.1 B.2.1 dX16_emit_123 (by decide) ?_
  exact a_X16_emit_127 K hQ hX hK11 _ _ _ _ _ _ _ _ g1 g5 g6 g10 (by unfold rng; omega) h hGσ hS _ _ _ hH (lv_sub (l' := [(0, .ref rm), (1, .int (i32 v1)), (2, .long v2), (4, va_rf v4), (5, .int (i32 v5)), (6, .int (i32 v6)), (10, .int (i32 v10))]) hl [0, 1, 2, 3, 4, 5, 6] rfl) hc
set_option maxRecDepth 20000 in
theorem a_X16_emit_112 {Q : Sg → Unit → Prop} {X : Sg → String → Prop} (K : MC R p s m args c cX16_emit 14 RX16 D cA tys A n0 s0 2 46 []) (hQ : HQV p l e R s m args below meth c cX16_emit D cA A n0 s0 QM dm ra jx rm Q) (hX : HX p l e R s m args below meth c 14 D cA A n0 s0 QM dm ra jx rm X) {K11 : Sg → Int → Int64 → Option Nat → Int → Int → Int → Prop} (hK11 : ∀ (σ : Sg) (v1 : Int) (v2 : Int64) (v4 : Option Nat) (v5 : Int) (v6 : Int) (v10 : Int) (g1 : rng v1) (g5 : rng v5) (g6 : rng v6) (g10 : rng v10), K11 σ v1 v2 v4 v5 v6 v10 → RG σ → Shp dm ra jx rm σ → JJ p l e R s m args below meth c 14 D cA A n0 s0 QM σ 11 [(0, .ref rm), (1, .int (i32 v1)), (2, .long v2), (4, va_rf v4), (5, .int (i32 v5)), (6, .int (i32 v6)), (10, .int (i32 v10))] []) : ∀ (σ : Sg) (v1 : Int) (v2 : Int64) (v4 : Option Nat) (v5 : Int) (v6 : Int) (v10 : Int) (v12 : Int) (u0 : Int) (u1 : Int) (u2 : Option Nat) (g1 : rng v1) (g5 : rng v5) (g6 : rng v6) (g10 : rng v10) (g12 : rng v12) (gu0 : rng u0) (gu1 : rng u1), w_X16_emit_112 ra jx rm K11 Q X σ v1 v2 v4 v5 v6 v10 v12 u0 u1 u2 → RG σ → Shp dm ra jx rm σ → JJ p l e R s m args below meth c 14 D cA A n0 s0 QM σ 112 [(0, .ref rm), (1, .int (i32 v1)), (2, .long v2), (4, va_rf v4), (5, .int (i32 v5)), (6, .int (i32 v6)), (10, .int (i32 v10)), (12, .int (i32 v12))] [.int (i32 u0), .int (i32 u1), va_rf u2, .ref rm] := by
  intro σ v1 v2 v4 v5 v6 v10 v12 u0 u1 u2 g1 g5 g6 g10 g12 gu0 gu1 h hGσ hS H locs ls hH hl hc
  have B := K.1
  unfold w_X16_emit_112 at h
  obtain ⟨q1, h⟩ := h
  refine lv_iadd B.1 B.2.1 dX16_emit_112 ?_
  rw [i32_add]
  obtain ⟨b50, n51, eb50, jb50, ib50, h⟩ := h
  refine W.eq (g2 := F0 m 113 ls [.int (i32 (u1 + u0)), .ref b50, .ref rm]) (by rw [eb50]; rfl) ?_
  refine x_lald B K.2.1 hH (hS.any jb50) (rAr_lt jb50) ib50 dX16_emit_113 ?_
  refine c_V B hH hl hc K.2.2.1 (C := RX16) (T := TX16) (N := 123) (ci := 16) (As := [.long (gJ σ b50 (u1 + u0).toNat)]) (ok_X16_partOf K.2.1 σ (gJ σ b50 (u1 + u0).toNat) hGσ hS h) wc_X16_486 1 hd_X16_partOf ⟨Nat.le_trans (Nat.le_of_ble_eq_true rfl) K.2.2.2.1, Nat.le_trans (Nat.le_of_ble_eq_true rfl) K.2.2.2.2.1⟩ hS.1.1 hS.1.2 (by decide) rfl rfl (rest := []) rfl (Nat.le_of_ble_eq_true rfl) dX16_emit_114 (fun σ52 w hq => ?_) (fun σ9 E9 hx9 => hX σ9 E9 _ _ _ (tb_out K.2.2.2.2.2 rfl) hx9.1 hx9.2.1 hx9.2.2)
  obtain ⟨r53, rfl, gr53, h, hGσ52, hS⟩ := hq
  intro H locs ls hH hl hc
  refine W.eq (g2 := F0 m 117 ls [.int (i32 r53)]) (rfl) ?_
  try dsimp only at h
  refine lv_iload B.1 B.2.1 dX16_emit_117 (lv_at hl 7 rfl) ?_
  refine lv_icmp_ne (tgt := 126) B.1 B.2.1 dX16_emit_119 (by decide) (fun h9 => ?_) (fun h9 => ?_)
  · rw [if_pos (fun q => h9 ((i32_eq gr53 g12).mpr q))] at h
    exact a_X16_emit_126 K hQ hX hK11 _ _ _ _ _ _ _ g1 g5 g6 g10 h hGσ52 hS _ _ _ hH (lv_sub (l' := [(0, .ref rm), (1, .int (i32 v1)), (2, .long v2), (4, va_rf v4), (5, .int (i32 v5)), (6, .int (i32 v6)), (10, .int (i32 v10))]) hl [0, 1, 2, 3, 4, 5, 6] rfl) hc
  · rw [if_neg (fun q => q ((i32_eq gr53 g12).mp h9))] at h
    exact a_X16_emit_122 K hQ hX hK11 _ _ _ _ _ _ _ g1 g5 g6 g10 h hGσ52 hS _ _ _ hH (lv_sub (l' := [(0, .ref rm), (1, .int (i32 v1)), (2, .long v2), (4, va_rf v4), (5, .int (i32 v5)), (6, .int (i32 v6)), (10, .int (i32 v10))]) hl [0, 1, 2, 3, 4, 5, 6] rfl) hc
set_option maxRecDepth 20000 in
theorem a_X16_emit_102 {Q : Sg → Unit → Prop} {X : Sg → String → Prop} (K : MC R p s m args c cX16_emit 14 RX16 D cA tys A n0 s0 2 46 []) (hQ : HQV p l e R s m args below meth c cX16_emit D cA A n0 s0 QM dm ra jx rm Q) (hX : HX p l e R s m args below meth c 14 D cA A n0 s0 QM dm ra jx rm X) {K11 : Sg → Int → Int64 → Option Nat → Int → Int → Int → Prop} (hK11 : ∀ (σ : Sg) (v1 : Int) (v2 : Int64) (v4 : Option Nat) (v5 : Int) (v6 : Int) (v10 : Int) (g1 : rng v1) (g5 : rng v5) (g6 : rng v6) (g10 : rng v10), K11 σ v1 v2 v4 v5 v6 v10 → RG σ → Shp dm ra jx rm σ → JJ p l e R s m args below meth c 14 D cA A n0 s0 QM σ 11 [(0, .ref rm), (1, .int (i32 v1)), (2, .long v2), (4, va_rf v4), (5, .int (i32 v5)), (6, .int (i32 v6)), (10, .int (i32 v10))] []) : ∀ (σ : Sg) (v1 : Int) (v2 : Int64) (v4 : Option Nat) (v5 : Int) (v6 : Int) (v10 : Int) (v11 : Int) (v12 : Int) (u0 : Int) (u1 : Option Nat) (g1 : rng v1) (g5 : rng v5) (g6 : rng v6) (g10 : rng v10) (g11 : rng v11) (g12 : rng v12) (gu0 : rng u0), w_X16_emit_102 ra jx rm K11 Q X σ v1 v2 v4 v5 v6 v10 v11 v12 u0 u1 → RG σ → Shp dm ra jx rm σ → JJ p l e R s m args below meth c 14 D cA A n0 s0 QM σ 102 [(0, .ref rm), (1, .int (i32 v1)), (2, .long v2), (4, va_rf v4), (5, .int (i32 v5)), (6, .int (i32 v6)), (10, .int (i32 v10)), (11, .int (i32 v11)), (12, .int (i32 v12))] [.int (i32 u0), va_rf u1, .ref rm] := by
  intro σ v1 v2 v4 v5 v6 v10 v11 v12 u0 u1 g1 g5 g6 g10 g11 g12 gu0 h hGσ hS H locs ls hH hl hc
  have B := K.1
  unfold w_X16_emit_102 at h
  refine lv_aload_n B.1 B.2.1 dX16_emit_102 rfl (lv_at hl 0 rfl) ?_
  refine r_getp B hH hS 17 (by decide) wf_X16_356 rfl rfl dX16_emit_103 ?_
  obtain ⟨a54, ea54, ja54, h⟩ := h
  refine W.eq (g2 := F0 m 106 ls [.ref a54, .int (i32 u0), va_rf u1, .ref rm]) (by rw [ea54]; rfl) ?_
  refine n_arr B hH hS ja54 11 (kd := 100) (n := 16) (by decide) (by decide) (List.mem_of_getElem? (i := 11) rfl) rfl dX16_emit_106 ?_
  refine lv_iload B.1 B.2.1 dX16_emit_109 (lv_at hl 7 rfl) ?_
  obtain ⟨q2, h⟩ := h
  refine x_iald B K.2.1 hH (hS.ja ja54 (k := 11) (kd := 100) (n := 16) (by decide)) (by decide) q2 dX16_emit_111 ?_
  exact a_X16_emit_112 K hQ hX hK11 _ _ _ _ _ _ _ _ _ _ _ g1 g5 g6 g10 g12 (hGσ _ _) gu0 h hGσ hS _ _ _ hH (lv_sub (l' := [(0, .ref rm), (1, .int (i32 v1)), (2, .long v2), (4, va_rf v4), (5, .int (i32 v5)), (6, .int (i32 v6)), (10, .int (i32 v10)), (12, .int (i32 v12))]) hl [0, 1, 2, 3, 4, 5, 6, 8] rfl) hc
set_option maxRecDepth 20000 in
theorem a_X16_emit_89 {Q : Sg → Unit → Prop} {X : Sg → String → Prop} (K : MC R p s m args c cX16_emit 14 RX16 D cA tys A n0 s0 2 46 []) (hQ : HQV p l e R s m args below meth c cX16_emit D cA A n0 s0 QM dm ra jx rm Q) (hX : HX p l e R s m args below meth c 14 D cA A n0 s0 QM dm ra jx rm X) {K11 : Sg → Int → Int64 → Option Nat → Int → Int → Int → Prop} (hK11 : ∀ (σ : Sg) (v1 : Int) (v2 : Int64) (v4 : Option Nat) (v5 : Int) (v6 : Int) (v10 : Int) (g1 : rng v1) (g5 : rng v5) (g6 : rng v6) (g10 : rng v10), K11 σ v1 v2 v4 v5 v6 v10 → RG σ → Shp dm ra jx rm σ → JJ p l e R s m args below meth c 14 D cA A n0 s0 QM σ 11 [(0, .ref rm), (1, .int (i32 v1)), (2, .long v2), (4, va_rf v4), (5, .int (i32 v5)), (6, .int (i32 v6)), (10, .int (i32 v10))] []) : ∀ (σ : Sg) (v1 : Int) (v2 : Int64) (v4 : Option Nat) (v5 : Int) (v6 : Int) (v10 : Int) (v11 : Int) (v12 : Int) (u0 : Int) (u1 : Option Nat) (g1 : rng v1) (g5 : rng v5) (g6 : rng v6) (g10 : rng v10) (g11 : rng v11) (g12 : rng v12) (gu0 : rng u0), w_X16_emit_89 ra jx rm K11 Q X σ v1 v2 v4 v5 v6 v10 v11 v12 u0 u1 → RG σ → Shp dm ra jx rm σ → JJ p l e R s m args below meth c 14 D cA A n0 s0 QM σ 89 [(0, .ref rm), (1, .int (i32 v1)), (2, .long v2), (4, va_rf v4), (5, .int (i32 v5)), (6, .int (i32 v6)), (10, .int (i32 v10)), (11, .int (i32 v11)), (12, .int (i32 v12))] [.int (i32 u0), va_rf u1, .ref rm] := by
  intro σ v1 v2 v4 v5 v6 v10 v11 v12 u0 u1 g1 g5 g6 g10 g11 g12 gu0 h hGσ hS H locs ls hH hl hc
  have B := K.1
  unfold w_X16_emit_89 at h
  refine lv_aload_n B.1 B.2.1 dX16_emit_89 rfl (lv_at hl 0 rfl) ?_
  refine r_getp B hH hS 17 (by decide) wf_X16_356 rfl rfl dX16_emit_90 ?_
  obtain ⟨a55, ea55, ja55, h⟩ := h
  refine W.eq (g2 := F0 m 93 ls [.ref a55, .int (i32 u0), va_rf u1, .ref rm]) (by rw [ea55]; rfl) ?_
  refine n_arr B hH hS ja55 10 (kd := 100) (n := 16) (by decide) (by decide) (List.mem_of_getElem? (i := 10) rfl) rfl dX16_emit_93 ?_
  refine lv_iload B.1 B.2.1 dX16_emit_96 (lv_at hl 7 rfl) ?_
  obtain ⟨q2, h⟩ := h
  refine x_iald B K.2.1 hH (hS.ja ja55 (k := 10) (kd := 100) (n := 16) (by decide)) (by decide) q2 dX16_emit_98 ?_
  refine lv_goto (tgt := 112) B.1 B.2.1 dX16_emit_99 (by decide) ?_
  exact a_X16_emit_112 K hQ hX hK11 _ _ _ _ _ _ _ _ _ _ _ g1 g5 g6 g10 g12 (hGσ _ _) gu0 h hGσ hS _ _ _ hH (lv_sub (l' := [(0, .ref rm), (1, .int (i32 v1)), (2, .long v2), (4, va_rf v4), (5, .int (i32 v5)), (6, .int (i32 v6)), (10, .int (i32 v10)), (12, .int (i32 v12))]) hl [0, 1, 2, 3, 4, 5, 6, 8] rfl) hc
set_option maxRecDepth 20000 in
theorem a_X16_emit_74 {Q : Sg → Unit → Prop} {X : Sg → String → Prop} (K : MC R p s m args c cX16_emit 14 RX16 D cA tys A n0 s0 2 46 []) (hQ : HQV p l e R s m args below meth c cX16_emit D cA A n0 s0 QM dm ra jx rm Q) (hX : HX p l e R s m args below meth c 14 D cA A n0 s0 QM dm ra jx rm X) {K11 : Sg → Int → Int64 → Option Nat → Int → Int → Int → Prop} (hK11 : ∀ (σ : Sg) (v1 : Int) (v2 : Int64) (v4 : Option Nat) (v5 : Int) (v6 : Int) (v10 : Int) (g1 : rng v1) (g5 : rng v5) (g6 : rng v6) (g10 : rng v10), K11 σ v1 v2 v4 v5 v6 v10 → RG σ → Shp dm ra jx rm σ → JJ p l e R s m args below meth c 14 D cA A n0 s0 QM σ 11 [(0, .ref rm), (1, .int (i32 v1)), (2, .long v2), (4, va_rf v4), (5, .int (i32 v5)), (6, .int (i32 v6)), (10, .int (i32 v10))] []) : ∀ (σ : Sg) (v1 : Int) (v2 : Int64) (v4 : Option Nat) (v5 : Int) (v6 : Int) (v10 : Int) (v11 : Int) (v12 : Int) (g1 : rng v1) (g5 : rng v5) (g6 : rng v6) (g10 : rng v10) (g11 : rng v11) (g12 : rng v12), w_X16_emit_74 ra jx rm K11 Q X σ v1 v2 v4 v5 v6 v10 v11 v12 → RG σ → Shp dm ra jx rm σ → JJ p l e R s m args below meth c 14 D cA A n0 s0 QM σ 74 [(0, .ref rm), (1, .int (i32 v1)), (2, .long v2), (4, va_rf v4), (5, .int (i32 v5)), (6, .int (i32 v6)), (10, .int (i32 v10)), (11, .int (i32 v11)), (12, .int (i32 v12))] [] := by
  intro σ v1 v2 v4 v5 v6 v10 v11 v12 g1 g5 g6 g10 g11 g12 h hGσ hS H locs ls hH hl hc
  have B := K.1
  unfold w_X16_emit_74 at h
  refine lv_aload_n B.1 B.2.1 dX16_emit_74 rfl (lv_at hl 0 rfl) ?_
  refine lv_aloadQ B.1 B.2.1 dX16_emit_75 (lv_at hl 3 rfl) ?_
  refine lv_iload B.1 B.2.1 dX16_emit_77 (lv_at hl 4 rfl) ?_
  refine lv_aload_n B.1 B.2.1 dX16_emit_79 rfl (lv_at hl 0 rfl) ?_
  refine r_arr B hH hS 53 (kd := 100) (n := 1100) (by decide) (by decide) wf_X16_377 rfl rfl dX16_emit_80 ?_
  refine lv_iload B.1 B.2.1 dX16_emit_83 (lv_at hl 6 rfl) ?_
  obtain ⟨q1, h⟩ := h
  refine x_iald B K.2.1 hH (hS.ar (k := 53) (kd := 100) (n := 1100) (by decide)) (by decide) q1 dX16_emit_85 ?_
  refine lv_if_ne (tgt := 102) B.1 B.2.1 dX16_emit_86 (by decide) (fun h9 => ?_) (fun h9 => ?_)
  · rw [if_pos (fun q => h9 ((z_eq (hGσ _ _)).mpr q))] at h
    exact a_X16_emit_102 K hQ hX hK11 _ _ _ _ _ _ _ _ _ _ _ g1 g5 g6 g10 g11 g12 g5 h hGσ hS _ _ _ hH (lv_sub (l' := [(0, .ref rm), (1, .int (i32 v1)), (2, .long v2), (4, va_rf v4), (5, .int (i32 v5)), (6, .int (i32 v6)), (10, .int (i32 v10)), (11, .int (i32 v11)), (12, .int (i32 v12))]) hl [0, 1, 2, 3, 4, 5, 6, 7, 8] rfl) hc
  · rw [if_neg (fun q => q ((z_eq (hGσ _ _)).mp h9))] at h
    exact a_X16_emit_89 K hQ hX hK11 _ _ _ _ _ _ _ _ _ _ _ g1 g5 g6 g10 g11 g12 g5 h hGσ hS _ _ _ hH (lv_sub (l' := [(0, .ref rm), (1, .int (i32 v1)), (2, .long v2), (4, va_rf v4), (5, .int (i32 v5)), (6, .int (i32 v6)), (10, .int (i32 v10)), (11, .int (i32 v11)), (12, .int (i32 v12))]) hl [0, 1, 2, 3, 4, 5, 6, 7, 8] rfl) hc
set_option maxRecDepth 20000 in
theorem a_X16_emit_34 {Q : Sg → Unit → Prop} {X : Sg → String → Prop} (K : MC R p s m args c cX16_emit 14 RX16 D cA tys A n0 s0 2 46 []) (hQ : HQV p l e R s m args below meth c cX16_emit D cA A n0 s0 QM dm ra jx rm Q) (hX : HX p l e R s m args below meth c 14 D cA A n0 s0 QM dm ra jx rm X) {K11 : Sg → Int → Int64 → Option Nat → Int → Int → Int → Prop} (hK11 : ∀ (σ : Sg) (v1 : Int) (v2 : Int64) (v4 : Option Nat) (v5 : Int) (v6 : Int) (v10 : Int) (g1 : rng v1) (g5 : rng v5) (g6 : rng v6) (g10 : rng v10), K11 σ v1 v2 v4 v5 v6 v10 → RG σ → Shp dm ra jx rm σ → JJ p l e R s m args below meth c 14 D cA A n0 s0 QM σ 11 [(0, .ref rm), (1, .int (i32 v1)), (2, .long v2), (4, va_rf v4), (5, .int (i32 v5)), (6, .int (i32 v6)), (10, .int (i32 v10))] []) : ∀ (σ : Sg) (v1 : Int) (v2 : Int64) (v4 : Option Nat) (v5 : Int) (v6 : Int) (v10 : Int) (g1 : rng v1) (g5 : rng v5) (g6 : rng v6) (g10 : rng v10), w_X16_emit_34 ra jx rm K11 Q X σ v1 v2 v4 v5 v6 v10 → RG σ → Shp dm ra jx rm σ → JJ p l e R s m args below meth c 14 D cA A n0 s0 QM σ 34 [(0, .ref rm), (1, .int (i32 v1)), (2, .long v2), (4, va_rf v4), (5, .int (i32 v5)), (6, .int (i32 v6)), (10, .int (i32 v10))] [] := by
  intro σ v1 v2 v4 v5 v6 v10 g1 g5 g6 g10 h hGσ hS H locs ls hH hl hc
  have B := K.1
  unfold w_X16_emit_34 at h
  refine lv_aload_n B.1 B.2.1 dX16_emit_34 rfl (lv_at hl 0 rfl) ?_
  refine r_arr B hH hS 38 (kd := 100) (n := 64) (by decide) (by decide) wf_X16_380 rfl rfl dX16_emit_35 ?_
  refine lv_aload_n B.1 B.2.1 dX16_emit_38 rfl (lv_at hl 0 rfl) ?_
  refine r_arr B hH hS 52 (kd := 100) (n := 1100) (by decide) (by decide) wf_X16_374 rfl rfl dX16_emit_39 ?_
  refine lv_iload B.1 B.2.1 dX16_emit_42 (lv_at hl 6 rfl) ?_
  obtain ⟨q1, h⟩ := h
  refine x_iald B K.2.1 hH (hS.ar (k := 52) (kd := 100) (n := 1100) (by decide)) (by decide) q1 dX16_emit_44 ?_
  obtain ⟨q2, h⟩ := h
  refine x_iald B K.2.1 hH (hS.ar (k := 38) (kd := 100) (n := 64) (by decide)) (by decide) q2 dX16_emit_45 ?_
  refine lv_istore (lv' := [(11, .int (i32 (gI σ (ra 38) (gI σ (ra 52) v10.toNat).toNat))), (0, .ref rm), (1, .int (i32 v1)), (2, .long v2), (4, va_rf v4), (5, .int (i32 v5)), (6, .int (i32 v6)), (10, .int (i32 v10))]) B.1 B.2.1 dX16_emit_46 hl (by decide) rfl (fun ls hl => ?_)
  refine lv_aload_n B.1 B.2.1 dX16_emit_48 rfl (lv_at hl 1 rfl) ?_
  refine r_arr B hH hS 39 (kd := 100) (n := 64) (by decide) (by decide) wf_X16_396 rfl rfl dX16_emit_49 ?_
  refine lv_aload_n B.1 B.2.1 dX16_emit_52 rfl (lv_at hl 1 rfl) ?_
  refine r_arr B hH hS 52 (kd := 100) (n := 1100) (by decide) (by decide) wf_X16_374 rfl rfl dX16_emit_53 ?_
  refine lv_iload B.1 B.2.1 dX16_emit_56 (lv_at hl 7 rfl) ?_
  obtain ⟨q3, h⟩ := h
  refine x_iald B K.2.1 hH (hS.ar (k := 52) (kd := 100) (n := 1100) (by decide)) (by decide) q3 dX16_emit_58 ?_
  obtain ⟨q4, h⟩ := h
  refine x_iald B K.2.1 hH (hS.ar (k := 39) (kd := 100) (n := 64) (by decide)) (by decide) q4 dX16_emit_59 ?_
  refine lv_istore (lv' := [(12, .int (i32 (gI σ (ra 39) (gI σ (ra 52) v10.toNat).toNat))), (11, .int (i32 (gI σ (ra 38) (gI σ (ra 52) v10.toNat).toNat))), (0, .ref rm), (1, .int (i32 v1)), (2, .long v2), (4, va_rf v4), (5, .int (i32 v5)), (6, .int (i32 v6)), (10, .int (i32 v10))]) B.1 B.2.1 dX16_emit_60 hl (by decide) rfl (fun ls hl => ?_)
  refine lv_iconst (v := i32 1) B.1 B.2.1 dX16_emit_62 (by decide) ?_
  refine lv_istore (lv' := [(13, .int (i32 1)), (12, .int (i32 (gI σ (ra 39) (gI σ (ra 52) v10.toNat).toNat))), (11, .int (i32 (gI σ (ra 38) (gI σ (ra 52) v10.toNat).toNat))), (0, .ref rm), (1, .int (i32 v1)), (2, .long v2), (4, va_rf v4), (5, .int (i32 v5)), (6, .int (i32 v6)), (10, .int (i32 v10))]) B.1 B.2.1 dX16_emit_63 hl (by decide) rfl (fun ls hl => ?_)
  refine lv_aload_n B.1 B.2.1 dX16_emit_65 rfl (lv_at hl 3 rfl) ?_
  refine lv_iload B.1 B.2.1 dX16_emit_66 (lv_at hl 2 rfl) ?_
  refine c_V B hH hl hc K.2.2.1 (C := RX16) (T := TX16) (N := 123) (ci := 16) (As := [.int (i32 (gI σ (ra 38) (gI σ (ra 52) v10.toNat).toNat))]) (ok_X16_isKeyed K.2.1 σ (gI σ (ra 38) (gI σ (ra 52) v10.toNat).toNat) (hGσ _ _) hGσ hS h) wc_X16_383 1 hd_X16_isKeyed ⟨Nat.le_trans (Nat.le_of_ble_eq_true rfl) K.2.2.2.1, Nat.le_trans (Nat.le_of_ble_eq_true rfl) K.2.2.2.2.1⟩ hS.1.1 hS.1.2 (by decide) rfl rfl (rest := []) rfl (Nat.le_of_ble_eq_true rfl) dX16_emit_68 (fun σ56 w hq => ?_) (fun σ9 E9 hx9 => hX σ9 E9 _ _ _ (tb_out K.2.2.2.2.2 rfl) hx9.1 hx9.2.1 hx9.2.2)
  obtain ⟨r57, rfl, ⟨gr57, gzr57⟩, h, hGσ56, hS⟩ := hq
  intro H locs ls hH hl hc
  refine W.eq (g2 := F0 m 71 ls [.int (i32 r57)]) (rfl) ?_
  try dsimp only at h
  refine lv_if_eq (tgt := 132) B.1 B.2.1 dX16_emit_71 (by decide) (fun h9 => ?_) (fun h9 => ?_)
  · rw [if_pos ((z_eq gr57).mp h9)] at h
    exact a_X16_emit_132 K hQ hX hK11 _ _ _ _ _ _ _ _ _ _ g1 g5 g6 g10 (hGσ _ _) (hGσ _ _) (by unfold rng; omega) h hGσ56 hS _ _ _ hH (lv_sub (l' := [(0, .ref rm), (1, .int (i32 v1)), (2, .long v2), (4, va_rf v4), (5, .int (i32 v5)), (6, .int (i32 v6)), (10, .int (i32 v10)), (11, .int (i32 (gI σ (ra 38) (gI σ (ra 52) v10.toNat).toNat))), (12, .int (i32 (gI σ (ra 39) (gI σ (ra 52) v10.toNat).toNat))), (13, .int (i32 1))]) hl [3, 4, 5, 6, 7, 8, 9, 2, 1, 0] rfl) hc
  · rw [if_neg (fun q => h9 ((z_eq gr57).mpr q))] at h
    exact a_X16_emit_74 K hQ hX hK11 _ _ _ _ _ _ _ _ _ g1 g5 g6 g10 (hGσ _ _) (hGσ _ _) h hGσ56 hS _ _ _ hH (lv_sub (l' := [(0, .ref rm), (1, .int (i32 v1)), (2, .long v2), (4, va_rf v4), (5, .int (i32 v5)), (6, .int (i32 v6)), (10, .int (i32 v10)), (11, .int (i32 (gI σ (ra 38) (gI σ (ra 52) v10.toNat).toNat))), (12, .int (i32 (gI σ (ra 39) (gI σ (ra 52) v10.toNat).toNat)))]) hl [3, 4, 5, 6, 7, 8, 9, 2, 1] rfl) hc
set_option maxRecDepth 20000 in
theorem a_X16_emit_31 {Q : Sg → Unit → Prop} {X : Sg → String → Prop} (K : MC R p s m args c cX16_emit 14 RX16 D cA tys A n0 s0 2 46 []) (hQ : HQV p l e R s m args below meth c cX16_emit D cA A n0 s0 QM dm ra jx rm Q) (hX : HX p l e R s m args below meth c 14 D cA A n0 s0 QM dm ra jx rm X) {K11 : Sg → Int → Int64 → Option Nat → Int → Int → Int → Prop} (hK11 : ∀ (σ : Sg) (v1 : Int) (v2 : Int64) (v4 : Option Nat) (v5 : Int) (v6 : Int) (v10 : Int) (g1 : rng v1) (g5 : rng v5) (g6 : rng v6) (g10 : rng v10), K11 σ v1 v2 v4 v5 v6 v10 → RG σ → Shp dm ra jx rm σ → JJ p l e R s m args below meth c 14 D cA A n0 s0 QM σ 11 [(0, .ref rm), (1, .int (i32 v1)), (2, .long v2), (4, va_rf v4), (5, .int (i32 v5)), (6, .int (i32 v6)), (10, .int (i32 v10))] []) : ∀ (σ : Sg) (v1 : Int) (v2 : Int64) (v4 : Option Nat) (v5 : Int) (v6 : Int) (v10 : Int) (g1 : rng v1) (g5 : rng v5) (g6 : rng v6) (g10 : rng v10), w_X16_emit_31 ra jx rm K11 Q X σ v1 v2 v4 v5 v6 v10 → RG σ → Shp dm ra jx rm σ → JJ p l e R s m args below meth c 14 D cA A n0 s0 QM σ 31 [(0, .ref rm), (1, .int (i32 v1)), (2, .long v2), (4, va_rf v4), (5, .int (i32 v5)), (6, .int (i32 v6)), (10, .int (i32 v10))] [] := by
  intro σ v1 v2 v4 v5 v6 v10 g1 g5 g6 g10 h hGσ hS H locs ls hH hl hc
  have B := K.1
  unfold w_X16_emit_31 at h
  refine lv_goto (tgt := 211) B.1 B.2.1 dX16_emit_31 (by decide) ?_
  exact a_X16_emit_211 K hQ hX hK11 _ _ _ _ _ _ _ g1 g5 g6 g10 h hGσ hS _ _ _ hH (lv_sub (l' := [(0, .ref rm), (1, .int (i32 v1)), (2, .long v2), (4, va_rf v4), (5, .int (i32 v5)), (6, .int (i32 v6)), (10, .int (i32 v10))]) hl [0, 1, 2, 3, 4, 5, 6] rfl) hc
set_option maxRecDepth 20000 in
theorem a_X16_emit_20 {Q : Sg → Unit → Prop} {X : Sg → String → Prop} (K : MC R p s m args c cX16_emit 14 RX16 D cA tys A n0 s0 2 46 []) (hQ : HQV p l e R s m args below meth c cX16_emit D cA A n0 s0 QM dm ra jx rm Q) (hX : HX p l e R s m args below meth c 14 D cA A n0 s0 QM dm ra jx rm X) {K11 : Sg → Int → Int64 → Option Nat → Int → Int → Int → Prop} (hK11 : ∀ (σ : Sg) (v1 : Int) (v2 : Int64) (v4 : Option Nat) (v5 : Int) (v6 : Int) (v10 : Int) (g1 : rng v1) (g5 : rng v5) (g6 : rng v6) (g10 : rng v10), K11 σ v1 v2 v4 v5 v6 v10 → RG σ → Shp dm ra jx rm σ → JJ p l e R s m args below meth c 14 D cA A n0 s0 QM σ 11 [(0, .ref rm), (1, .int (i32 v1)), (2, .long v2), (4, va_rf v4), (5, .int (i32 v5)), (6, .int (i32 v6)), (10, .int (i32 v10))] []) : ∀ (σ : Sg) (v1 : Int) (v2 : Int64) (v4 : Option Nat) (v5 : Int) (v6 : Int) (v10 : Int) (g1 : rng v1) (g5 : rng v5) (g6 : rng v6) (g10 : rng v10), w_X16_emit_20 ra jx rm K11 Q X σ v1 v2 v4 v5 v6 v10 → RG σ → Shp dm ra jx rm σ → JJ p l e R s m args below meth c 14 D cA A n0 s0 QM σ 20 [(0, .ref rm), (1, .int (i32 v1)), (2, .long v2), (4, va_rf v4), (5, .int (i32 v5)), (6, .int (i32 v6)), (10, .int (i32 v10))] [] := by
  intro σ v1 v2 v4 v5 v6 v10 g1 g5 g6 g10 h hGσ hS H locs ls hH hl hc
  have B := K.1
  unfold w_X16_emit_20 at h
  refine lv_aload_n B.1 B.2.1 dX16_emit_20 rfl (lv_at hl 0 rfl) ?_
  refine r_arr B hH hS 51 (kd := 100) (n := 1100) (by decide) (by decide) wf_X16_368 rfl rfl dX16_emit_21 ?_
  refine lv_iload B.1 B.2.1 dX16_emit_24 (lv_at hl 6 rfl) ?_
  obtain ⟨q1, h⟩ := h
  refine x_iald B K.2.1 hH (hS.ar (k := 51) (kd := 100) (n := 1100) (by decide)) (by decide) q1 dX16_emit_26 ?_
  refine lv_iload_n B.1 B.2.1 dX16_emit_27 rfl (lv_at hl 1 rfl) ?_
  refine lv_icmp_eq (tgt := 34) B.1 B.2.1 dX16_emit_28 (by decide) (fun h9 => ?_) (fun h9 => ?_)
  · rw [if_pos ((i32_eq (hGσ _ _) g1).mp h9)] at h
    exact a_X16_emit_34 K hQ hX hK11 _ _ _ _ _ _ _ g1 g5 g6 g10 h hGσ hS _ _ _ hH (lv_sub (l' := [(0, .ref rm), (1, .int (i32 v1)), (2, .long v2), (4, va_rf v4), (5, .int (i32 v5)), (6, .int (i32 v6)), (10, .int (i32 v10))]) hl [0, 1, 2, 3, 4, 5, 6] rfl) hc
  · rw [if_neg (fun q => h9 ((i32_eq (hGσ _ _) g1).mpr q))] at h
    exact a_X16_emit_31 K hQ hX hK11 _ _ _ _ _ _ _ g1 g5 g6 g10 h hGσ hS _ _ _ hH (lv_sub (l' := [(0, .ref rm), (1, .int (i32 v1)), (2, .long v2), (4, va_rf v4), (5, .int (i32 v5)), (6, .int (i32 v6)), (10, .int (i32 v10))]) hl [0, 1, 2, 3, 4, 5, 6] rfl) hc
set_option maxRecDepth 20000 in
theorem a_X16_emit_11 {Q : Sg → Unit → Prop} {X : Sg → String → Prop} (K : MC R p s m args c cX16_emit 14 RX16 D cA tys A n0 s0 2 46 []) (hQ : HQV p l e R s m args below meth c cX16_emit D cA A n0 s0 QM dm ra jx rm Q) (hX : HX p l e R s m args below meth c 14 D cA A n0 s0 QM dm ra jx rm X) {K11 : Sg → Int → Int64 → Option Nat → Int → Int → Int → Prop} (hK11 : ∀ (σ : Sg) (v1 : Int) (v2 : Int64) (v4 : Option Nat) (v5 : Int) (v6 : Int) (v10 : Int) (g1 : rng v1) (g5 : rng v5) (g6 : rng v6) (g10 : rng v10), K11 σ v1 v2 v4 v5 v6 v10 → RG σ → Shp dm ra jx rm σ → JJ p l e R s m args below meth c 14 D cA A n0 s0 QM σ 11 [(0, .ref rm), (1, .int (i32 v1)), (2, .long v2), (4, va_rf v4), (5, .int (i32 v5)), (6, .int (i32 v6)), (10, .int (i32 v10))] []) : ∀ (σ : Sg) (v1 : Int) (v2 : Int64) (v4 : Option Nat) (v5 : Int) (v6 : Int) (v10 : Int) (g1 : rng v1) (g5 : rng v5) (g6 : rng v6) (g10 : rng v10), w_X16_emit_11 ra jx rm K11 Q X σ v1 v2 v4 v5 v6 v10 → RG σ → Shp dm ra jx rm σ → JJ p l e R s m args below meth c 14 D cA A n0 s0 QM σ 11 [(0, .ref rm), (1, .int (i32 v1)), (2, .long v2), (4, va_rf v4), (5, .int (i32 v5)), (6, .int (i32 v6)), (10, .int (i32 v10))] [] := by
  intro σ v1 v2 v4 v5 v6 v10 g1 g5 g6 g10 h hGσ hS H locs ls hH hl hc
  have B := K.1
  unfold w_X16_emit_11 at h
  refine lv_iload B.1 B.2.1 dX16_emit_11 (lv_at hl 6 rfl) ?_
  refine lv_aload_n B.1 B.2.1 dX16_emit_13 rfl (lv_at hl 0 rfl) ?_
  refine r_geti B hH hS 50 (by decide) wf_X16_371 rfl rfl dX16_emit_14 ?_
  refine lv_icmp_ge (tgt := 217) B.1 B.2.1 dX16_emit_17 (by decide) (fun h9 => ?_) (fun h9 => ?_)
  · rw [if_pos ((i32_le (hGσ _ _) g10).mp h9)] at h
    exact a_X16_emit_217 K hQ hX _ _ g1 h hGσ hS _ _ _ hH (lv_sub (l' := [(0, .ref rm), (1, .int (i32 v1))]) hl [0, 1] rfl) hc
  · rw [if_neg (fun q => h9 ((i32_le (hGσ _ _) g10).mpr q))] at h
    exact a_X16_emit_20 K hQ hX hK11 _ _ _ _ _ _ _ g1 g5 g6 g10 h hGσ hS _ _ _ hH (lv_sub (l' := [(0, .ref rm), (1, .int (i32 v1)), (2, .long v2), (4, va_rf v4), (5, .int (i32 v5)), (6, .int (i32 v6)), (10, .int (i32 v10))]) hl [0, 1, 2, 3, 4, 5, 6] rfl) hc
theorem al_X16_emit_11 {Q : Sg → Unit → Prop} {X : Sg → String → Prop} (K : MC R p s m args c cX16_emit 14 RX16 D cA tys A n0 s0 2 46 []) (hQ : HQV p l e R s m args below meth c cX16_emit D cA A n0 s0 QM dm ra jx rm Q) (hX : HX p l e R s m args below meth c 14 D cA A n0 s0 QM dm ra jx rm X) : ∀ (n : Nat), ∀ (σ : Sg) (v1 : Int) (v2 : Int64) (v4 : Option Nat) (v5 : Int) (v6 : Int) (v10 : Int) (g1 : rng v1) (g5 : rng v5) (g6 : rng v6) (g10 : rng v10), wl_X16_emit_11 ra jx rm Q X n σ v1 v2 v4 v5 v6 v10 → RG σ → Shp dm ra jx rm σ → JJ p l e R s m args below meth c 14 D cA A n0 s0 QM σ 11 [(0, .ref rm), (1, .int (i32 v1)), (2, .long v2), (4, va_rf v4), (5, .int (i32 v5)), (6, .int (i32 v6)), (10, .int (i32 v10))] [] := by
  intro n
  induction n with
  | zero => intro σ v1 v2 v4 v5 v6 v10 g1 g5 g6 g10 h; exact h.elim
  | succ n ih => exact fun σ v1 v2 v4 v5 v6 v10 g1 g5 g6 g10 h => a_X16_emit_11 K hQ hX ih σ v1 v2 v4 v5 v6 v10 g1 g5 g6 g10 h
set_option maxRecDepth 20000 in
theorem a_X16_emit_0 {Q : Sg → Unit → Prop} {X : Sg → String → Prop} (K : MC R p s m args c cX16_emit 14 RX16 D cA tys A n0 s0 2 46 []) (hQ : HQV p l e R s m args below meth c cX16_emit D cA A n0 s0 QM dm ra jx rm Q) (hX : HX p l e R s m args below meth c 14 D cA A n0 s0 QM dm ra jx rm X) : ∀ (σ : Sg) (v1 : Int) (v2 : Int64) (v4 : Option Nat) (v5 : Int) (v6 : Int) (g1 : rng v1) (g5 : rng v5) (g6 : rng v6), w_X16_emit_0 ra jx rm Q X σ v1 v2 v4 v5 v6 → RG σ → Shp dm ra jx rm σ → JJ p l e R s m args below meth c 14 D cA A n0 s0 QM σ 0 [(0, .ref rm), (1, .int (i32 v1)), (2, .long v2), (4, va_rf v4), (5, .int (i32 v5)), (6, .int (i32 v6))] [] := by
  intro σ v1 v2 v4 v5 v6 g1 g5 g6 h hGσ hS H locs ls hH hl hc
  have B := K.1
  unfold w_X16_emit_0 at h
  refine lv_ldc2 B.1 B.2.1 B.2.2.1 (B.2.2.2.1 _ (wk_X16_417)) dX16_emit_0 ?_
  refine lv_lstore (lv' := [(7, .long (-1)), (0, .ref rm), (1, .int (i32 v1)), (2, .long v2), (4, va_rf v4), (5, .int (i32 v5)), (6, .int (i32 v6))]) B.1 B.2.1 dX16_emit_3 hl (by decide) rfl (fun ls hl => ?_)
  refine lv_iconst (v := i32 (-1)) B.1 B.2.1 dX16_emit_5 (by decide) ?_
  refine lv_istore (lv' := [(9, .int (i32 (-1))), (7, .long (-1)), (0, .ref rm), (1, .int (i32 v1)), (2, .long v2), (4, va_rf v4), (5, .int (i32 v5)), (6, .int (i32 v6))]) B.1 B.2.1 dX16_emit_6 hl (by decide) rfl (fun ls hl => ?_)
  refine lv_iconst (v := i32 0) B.1 B.2.1 dX16_emit_8 (by decide) ?_
  refine lv_istore (lv' := [(10, .int (i32 0)), (9, .int (i32 (-1))), (7, .long (-1)), (0, .ref rm), (1, .int (i32 v1)), (2, .long v2), (4, va_rf v4), (5, .int (i32 v5)), (6, .int (i32 v6))]) B.1 B.2.1 dX16_emit_9 hl (by decide) rfl (fun ls hl => ?_)
  obtain ⟨n9, h⟩ := h
  exact al_X16_emit_11 K hQ hX n9 _ _ _ _ _ _ _ g1 g5 g6 (by unfold rng; omega) h hGσ hS _ _ _ hH (lv_sub (l' := [(0, .ref rm), (1, .int (i32 v1)), (2, .long v2), (4, va_rf v4), (5, .int (i32 v5)), (6, .int (i32 v6)), (10, .int (i32 0))]) hl [3, 4, 5, 6, 7, 8, 0] rfl) hc
theorem ok_X16_emit (hT : Tys cA tys) {Q : Sg → Unit → Prop} {X : Sg → String → Prop} (σ : Sg) (v1 : Int) (v2 : Int64) (v4 : Option Nat) (v5 : Int) (v6 : Int) (g1 : rng v1) (g5 : rng v5) (g6 : rng v6) (hG : RG σ) (hS : Shp dm ra jx rm σ) (h : wp_X16_emit ra jx rm v1 v2 v4 v5 v6 σ Q X) : Ok l D cA tys A yX16_emit (.code yX16_emit cX16_emit 14 none) 2 46 [.ref rm, .int (i32 v1), .long v2, va_rf v4, .int (i32 v5), .int (i32 v6)] σ (QnV dm ra jx rm Q) (QxR dm ra jx rm X) := by
  unfold wp_X16_emit at h
  exact ok_V (plainFor_of_name (by decide)) (by cases v4 <;> exact Nat.le_of_ble_eq_true rfl) hT (fun p e R s m args below meth c K hQ hX H locs ls hH hl hc => a_X16_emit_0 K hQ hX σ v1 v2 v4 v5 v6 g1 g5 g6 h hG hS H locs ls hH (lv_sub (l' := [(0, .ref rm), (1, .int (i32 v1)), (2, .long v2), (4, va_rf v4), (5, .int (i32 v5)), (6, .int (i32 v6))]) hl [0, 1, 2, 3, 4, 5] (by cases v4 <;> rfl)) hc)
theorem dX16_emitFold_0 : decode cX16_emitFold 0 = .ok (.iconst 0, 1) := by decide +kernel
theorem dX16_emitFold_1 : decode cX16_emitFold 1 = .ok (.istore 6, 2) := by decide +kernel
theorem dX16_emitFold_3 : decode cX16_emitFold 3 = .ok (.iload 6, 2) := by decide +kernel
theorem dX16_emitFold_5 : decode cX16_emitFold 5 = .ok (.bipush 8, 2) := by decide +kernel
theorem dX16_emitFold_7 : decode cX16_emitFold 7 = .ok (.if_icmp .ge 17, 3) := by decide +kernel
theorem dX16_emitFold_10 : decode cX16_emitFold 10 = .ok (.aload_n 0, 1) := by decide +kernel
theorem dX16_emitFold_11 : decode cX16_emitFold 11 = .ok (.getfield 578, 3) := by decide +kernel
theorem dX16_emitFold_14 : decode cX16_emitFold 14 = .ok (.iload 6, 2) := by decide +kernel
theorem dX16_emitFold_16 : decode cX16_emitFold 16 = .ok (.lconst 0, 1) := by decide +kernel
theorem dX16_emitFold_17 : decode cX16_emitFold 17 = .ok (.lastore, 1) := by decide +kernel
theorem dX16_emitFold_18 : decode cX16_emitFold 18 = .ok (.iinc 6 1, 3) := by decide +kernel
theorem dX16_emitFold_21 : decode cX16_emitFold 21 = .ok (.goto (-18), 3) := by decide +kernel
theorem dX16_emitFold_24 : decode cX16_emitFold 24 = .ok (.aload_n 0, 1) := by decide +kernel
theorem dX16_emitFold_25 : decode cX16_emitFold 25 = .ok (.getfield 578, 3) := by decide +kernel
theorem dX16_emitFold_28 : decode cX16_emitFold 28 = .ok (.iconst 0, 1) := by decide +kernel
theorem dX16_emitFold_29 : decode cX16_emitFold 29 = .ok (.aload_n 0, 1) := by decide +kernel
theorem dX16_emitFold_30 : decode cX16_emitFold 30 = .ok (.getfield 519, 3) := by decide +kernel
theorem dX16_emitFold_33 : decode cX16_emitFold 33 = .ok (.iload_n 3, 1) := by decide +kernel
theorem dX16_emitFold_34 : decode cX16_emitFold 34 = .ok (.laload, 1) := by decide +kernel
theorem dX16_emitFold_35 : decode cX16_emitFold 35 = .ok (.lastore, 1) := by decide +kernel
theorem dX16_emitFold_36 : decode cX16_emitFold 36 = .ok (.iconst 0, 1) := by decide +kernel
theorem dX16_emitFold_37 : decode cX16_emitFold 37 = .ok (.istore 6, 2) := by decide +kernel
theorem dX16_emitFold_39 : decode cX16_emitFold 39 = .ok (.iload 6, 2) := by decide +kernel
theorem dX16_emitFold_41 : decode cX16_emitFold 41 = .ok (.aload_n 0, 1) := by decide +kernel
theorem dX16_emitFold_42 : decode cX16_emitFold 42 = .ok (.getfield 356, 3) := by decide +kernel
theorem dX16_emitFold_45 : decode cX16_emitFold 45 = .ok (.getfield 222, 3) := by decide +kernel
theorem dX16_emitFold_48 : decode cX16_emitFold 48 = .ok (.iload_n 2, 1) := by decide +kernel
theorem dX16_emitFold_49 : decode cX16_emitFold 49 = .ok (.iaload, 1) := by decide +kernel
theorem dX16_emitFold_50 : decode cX16_emitFold 50 = .ok (.if_icmp .ge 30, 3) := by decide +kernel
theorem dX16_emitFold_53 : decode cX16_emitFold 53 = .ok (.aload_n 0, 1) := by decide +kernel
theorem dX16_emitFold_54 : decode cX16_emitFold 54 = .ok (.getfield 578, 3) := by decide +kernel
theorem dX16_emitFold_57 : decode cX16_emitFold 57 = .ok (.iconst 1, 1) := by decide +kernel
theorem dX16_emitFold_58 : decode cX16_emitFold 58 = .ok (.iload 6, 2) := by decide +kernel
theorem dX16_emitFold_60 : decode cX16_emitFold 60 = .ok (.iadd, 1) := by decide +kernel
theorem dX16_emitFold_61 : decode cX16_emitFold 61 = .ok (.aload_n 0, 1) := by decide +kernel
theorem dX16_emitFold_62 : decode cX16_emitFold 62 = .ok (.getfield 528, 3) := by decide +kernel
theorem dX16_emitFold_65 : decode cX16_emitFold 65 = .ok (.bipush 8, 2) := by decide +kernel
theorem dX16_emitFold_67 : decode cX16_emitFold 67 = .ok (.iload_n 3, 1) := by decide +kernel
theorem dX16_emitFold_68 : decode cX16_emitFold 68 = .ok (.imul, 1) := by decide +kernel
theorem dX16_emitFold_69 : decode cX16_emitFold 69 = .ok (.iload 6, 2) := by decide +kernel
theorem dX16_emitFold_71 : decode cX16_emitFold 71 = .ok (.iadd, 1) := by decide +kernel
theorem dX16_emitFold_72 : decode cX16_emitFold 72 = .ok (.laload, 1) := by decide +kernel
theorem dX16_emitFold_73 : decode cX16_emitFold 73 = .ok (.lastore, 1) := by decide +kernel
theorem dX16_emitFold_74 : decode cX16_emitFold 74 = .ok (.iinc 6 1, 3) := by decide +kernel
theorem dX16_emitFold_77 : decode cX16_emitFold 77 = .ok (.goto (-38), 3) := by decide +kernel
theorem dX16_emitFold_80 : decode cX16_emitFold 80 = .ok (.aload_n 0, 1) := by decide +kernel
theorem dX16_emitFold_81 : decode cX16_emitFold 81 = .ok (.getfield 531, 3) := by decide +kernel
theorem dX16_emitFold_84 : decode cX16_emitFold 84 = .ok (.iload_n 3, 1) := by decide +kernel
theorem dX16_emitFold_85 : decode cX16_emitFold 85 = .ok (.iaload, 1) := by decide +kernel
theorem dX16_emitFold_86 : decode cX16_emitFold 86 = .ok (.istore 6, 2) := by decide +kernel
theorem dX16_emitFold_88 : decode cX16_emitFold 88 = .ok (.aload_n 0, 1) := by decide +kernel
theorem dX16_emitFold_89 : decode cX16_emitFold 89 = .ok (.iload_n 3, 1) := by decide +kernel
theorem dX16_emitFold_90 : decode cX16_emitFold 90 = .ok (.invokevirtual 607, 3) := by decide +kernel
theorem dX16_emitFold_93 : decode cX16_emitFold 93 = .ok (.aload_n 0, 1) := by decide +kernel
theorem dX16_emitFold_94 : decode cX16_emitFold 94 = .ok (.iload_n 1, 1) := by decide +kernel
theorem dX16_emitFold_95 : decode cX16_emitFold 95 = .ok (.lload 4, 2) := by decide +kernel
theorem dX16_emitFold_97 : decode cX16_emitFold 97 = .ok (.aload_n 0, 1) := by decide +kernel
theorem dX16_emitFold_98 : decode cX16_emitFold 98 = .ok (.getfield 578, 3) := by decide +kernel
theorem dX16_emitFold_101 : decode cX16_emitFold 101 = .ok (.iconst 0, 1) := by decide +kernel
theorem dX16_emitFold_102 : decode cX16_emitFold 102 = .ok (.iload 6, 2) := by decide +kernel
theorem dX16_emitFold_104 : decode cX16_emitFold 104 = .ok (.invokevirtual 549, 3) := by decide +kernel
theorem dX16_emitFold_107 : decode cX16_emitFold 107 = .ok (.return_, 1) := by decide +kernel
set_option maxRecDepth 20000 in
theorem a_X16_emitFold_80 {Q : Sg → Unit → Prop} {X : Sg → String → Prop} (K : MC R p s m args c cX16_emitFold 7 RX16 D cA tys A n0 s0 3 79 []) (hQ : HQV p l e R s m args below meth c cX16_emitFold D cA A n0 s0 QM dm ra jx rm Q) (hX : HX p l e R s m args below meth c 7 D cA A n0 s0 QM dm ra jx rm X) : ∀ (σ : Sg) (v1 : Int) (v3 : Int) (v4 : Int64) (g1 : rng v1) (g3 : rng v3), w_X16_emitFold_80 ra jx rm Q X σ v1 v3 v4 → RG σ → Shp dm ra jx rm σ → JJ p l e R s m args below meth c 7 D cA A n0 s0 QM σ 80 [(0, .ref rm), (1, .int (i32 v1)), (3, .int (i32 v3)), (4, .long v4)] [] := by
  intro σ v1 v3 v4 g1 g3 h hGσ hS H locs ls hH hl hc
  have B := K.1
  unfold w_X16_emitFold_80 at h
  refine lv_aload_n B.1 B.2.1 dX16_emitFold_80 rfl (lv_at hl 0 rfl) ?_
  refine r_arr B hH hS 74 (kd := 100) (n := 4000) (by decide) (by decide) wf_X16_531 rfl rfl dX16_emitFold_81 ?_
  refine lv_iload_n B.1 B.2.1 dX16_emitFold_84 rfl (lv_at hl 2 rfl) ?_
  obtain ⟨q1, h⟩ := h
  refine x_iald B K.2.1 hH (hS.ar (k := 74) (kd := 100) (n := 4000) (by decide)) (by decide) q1 dX16_emitFold_85 ?_
  refine lv_istore (lv' := [(6, .int (i32 (gI σ (ra 74) v3.toNat))), (0, .ref rm), (1, .int (i32 v1)), (3, .int (i32 v3)), (4, .long v4)]) B.1 B.2.1 dX16_emitFold_86 hl (by decide) rfl (fun ls hl => ?_)
  refine lv_aload_n B.1 B.2.1 dX16_emitFold_88 rfl (lv_at hl 1 rfl) ?_
  refine lv_iload_n B.1 B.2.1 dX16_emitFold_89 rfl (lv_at hl 3 rfl) ?_
  refine c_V B hH hl hc K.2.2.1 (C := RX16) (T := TX16) (N := 123) (ci := 16) (As := [.int (i32 v3)]) (ok_X16_drop K.2.1 σ v3 g3 hGσ hS h) wc_X16_607 1 hd_X16_drop ⟨Nat.le_trans (Nat.le_of_ble_eq_true rfl) K.2.2.2.1, Nat.le_trans (Nat.le_of_ble_eq_true rfl) K.2.2.2.2.1⟩ hS.1.1 hS.1.2 (by decide) rfl rfl (rest := []) rfl (Nat.le_of_ble_eq_true rfl) dX16_emitFold_90 (fun σ13 w hq => ?_) (fun σ9 E9 hx9 => hX σ9 E9 _ _ _ (tb_out K.2.2.2.2.2 rfl) hx9.1 hx9.2.1 hx9.2.2)
  obtain ⟨rfl, h, hGσ13, hS⟩ := hq
  intro H locs ls hH hl hc
  refine W.eq (g2 := F0 m 93 ls []) (rfl) ?_
  try dsimp only at h
  refine lv_aload_n B.1 B.2.1 dX16_emitFold_93 rfl (lv_at hl 1 rfl) ?_
  refine lv_iload_n B.1 B.2.1 dX16_emitFold_94 rfl (lv_at hl 2 rfl) ?_
  refine lv_lload B.1 B.2.1 dX16_emitFold_95 (lv_at hl 4 rfl) ?_
  refine lv_aload_n B.1 B.2.1 dX16_emitFold_97 rfl (lv_at hl 1 rfl) ?_
  refine r_arr B hH hS 82 (kd := 101) (n := 16) (by decide) (by decide) wf_X16_578 rfl rfl dX16_emitFold_98 ?_
  refine lv_iconst (v := i32 0) B.1 B.2.1 dX16_emitFold_101 (by decide) ?_
  refine lv_iload B.1 B.2.1 dX16_emitFold_102 (lv_at hl 0 rfl) ?_
  refine c_V B hH hl hc K.2.2.1 (C := RX16) (T := TX16) (N := 123) (ci := 16) (As := [.int (i32 v1), .long v4, va_rf (some (ra 82)), .int (i32 0), .int (i32 (gI σ (ra 74) v3.toNat))]) (ok_X16_emit K.2.1 σ13 v1 v4 (some (ra 82)) 0 (gI σ (ra 74) v3.toNat) g1 (by unfold rng; omega) (hGσ _ _) hGσ13 hS h) wc_X16_549 5 hd_X16_emit ⟨Nat.le_trans (Nat.le_of_ble_eq_true rfl) K.2.2.2.1, Nat.le_trans (Nat.le_of_ble_eq_true rfl) K.2.2.2.2.1⟩ hS.1.1 hS.1.2 (by decide) rfl rfl (rest := []) rfl (Nat.le_of_ble_eq_true rfl) dX16_emitFold_104 (fun σ14 w hq => ?_) (fun σ9 E9 hx9 => hX σ9 E9 _ _ _ (tb_out K.2.2.2.2.2 rfl) hx9.1 hx9.2.1 hx9.2.2)
  obtain ⟨rfl, h, hGσ14, hS⟩ := hq
  intro H locs ls hH hl hc
  refine W.eq (g2 := F0 m 107 ls []) (rfl) ?_
  try dsimp only at h
  exact hQ _ _ _ _ _ dX16_emitFold_107 hH hc h hGσ14 hS
set_option maxRecDepth 20000 in
theorem a_X16_emitFold_53 {Q : Sg → Unit → Prop} {X : Sg → String → Prop} (K : MC R p s m args c cX16_emitFold 7 RX16 D cA tys A n0 s0 3 79 []) (hQ : HQV p l e R s m args below meth c cX16_emitFold D cA A n0 s0 QM dm ra jx rm Q) (hX : HX p l e R s m args below meth c 7 D cA A n0 s0 QM dm ra jx rm X) {K39 : Sg → Int → Int → Int → Int64 → Int → Prop} (hK39 : ∀ (σ : Sg) (v1 : Int) (v2 : Int) (v3 : Int) (v4 : Int64) (v6 : Int) (g1 : rng v1) (g2 : rng v2) (g3 : rng v3) (g6 : rng v6), K39 σ v1 v2 v3 v4 v6 → RG σ → Shp dm ra jx rm σ → JJ p l e R s m args below meth c 7 D cA A n0 s0 QM σ 39 [(0, .ref rm), (1, .int (i32 v1)), (2, .int (i32 v2)), (3, .int (i32 v3)), (4, .long v4), (6, .int (i32 v6))] []) : ∀ (σ : Sg) (v1 : Int) (v2 : Int) (v3 : Int) (v4 : Int64) (v6 : Int) (g1 : rng v1) (g2 : rng v2) (g3 : rng v3) (g6 : rng v6), w_X16_emitFold_53 ra jx rm K39 Q X σ v1 v2 v3 v4 v6 → RG σ → Shp dm ra jx rm σ → JJ p l e R s m args below meth c 7 D cA A n0 s0 QM σ 53 [(0, .ref rm), (1, .int (i32 v1)), (2, .int (i32 v2)), (3, .int (i32 v3)), (4, .long v4), (6, .int (i32 v6))] [] := by
  intro σ v1 v2 v3 v4 v6 g1 g2 g3 g6 h hGσ hS H locs ls hH hl hc
  have B := K.1
  unfold w_X16_emitFold_53 at h
  refine lv_aload_n B.1 B.2.1 dX16_emitFold_53 rfl (lv_at hl 0 rfl) ?_
  refine r_arr B hH hS 82 (kd := 101) (n := 16) (by decide) (by decide) wf_X16_578 rfl rfl dX16_emitFold_54 ?_
  refine lv_iconst (v := i32 1) B.1 B.2.1 dX16_emitFold_57 (by decide) ?_
  refine lv_iload B.1 B.2.1 dX16_emitFold_58 (lv_at hl 5 rfl) ?_
  obtain ⟨q1, h⟩ := h
  refine lv_iadd B.1 B.2.1 dX16_emitFold_60 ?_
  rw [i32_add]
  refine lv_aload_n B.1 B.2.1 dX16_emitFold_61 rfl (lv_at hl 0 rfl) ?_
  refine r_arr B hH hS 73 (kd := 101) (n := 32000) (by decide) (by decide) wf_X16_528 rfl rfl dX16_emitFold_62 ?_
  refine lv_bipush (v := i32 8) B.1 B.2.1 dX16_emitFold_65 (by decide) ?_
  refine lv_iload_n B.1 B.2.1 dX16_emitFold_67 rfl (lv_at hl 3 rfl) ?_
  obtain ⟨q2, h⟩ := h
  refine lv_imul B.1 B.2.1 dX16_emitFold_68 ?_
  rw [i32_mul]
  refine lv_iload B.1 B.2.1 dX16_emitFold_69 (lv_at hl 5 rfl) ?_
  obtain ⟨q3, h⟩ := h
  refine lv_iadd B.1 B.2.1 dX16_emitFold_71 ?_
  rw [i32_add]
  obtain ⟨q4, h⟩ := h
  refine x_lald B K.2.1 hH (hS.ar (k := 73) (kd := 101) (n := 32000) (by decide)) (by decide) q4 dX16_emitFold_72 ?_
  obtain ⟨q5, h⟩ := h
  obtain ⟨σ15, eσ15⟩ : ∃ z, z = pJ σ (ra 82) (1 + v6).toNat (gJ σ (ra 73) ((8 * v3) + v6).toNat) := ⟨_, rfl⟩
  have h := h σ15 eσ15
  refine x_last B K.2.1 hH (hS.ar (k := 82) (kd := 101) (n := 16) (by decide)) (by decide) q5 dX16_emitFold_73 (fun H locs hH => ?_)
  have hH : Hd D cA A s (pJ σ (ra 82) (1 + v6).toNat (gJ σ (ra 73) ((8 * v3) + v6).toNat)) H locs := hH
  rw [← eσ15] at hH
  have hGσ15 : RG σ15 := by rw [eσ15]; exact hGσ.pJ
  have hS : Shp dm ra jx rm σ15 := by rw [eσ15]; exact hS
  have hc : CB n0 s0 σ15 := by rw [eσ15]; exact hc
  rw [show gc σ = gc σ15 by rw [eσ15], show gs σ = gs σ15 by rw [eσ15]]
  obtain ⟨q7, h⟩ := h
  refine lv_iinc (k := 5) (v := i32 (v6 + 1)) (lv' := [(6, .int (i32 (v6 + 1))), (0, .ref rm), (1, .int (i32 v1)), (2, .int (i32 v2)), (3, .int (i32 v3)), (4, .long v4)]) B.1 B.2.1 dX16_emitFold_74 hl rfl (i32_add _ _) (by decide) rfl (fun ls hl => ?_)
  refine lv_goto (tgt := 39) B.1 B.2.1 dX16_emitFold_77 (by decide) ?_
  exact hK39 _ _ _ _ _ _ g1 g2 g3 q7 h hGσ15 hS _ _ _ hH (lv_sub (l' := [(0, .ref rm), (1, .int (i32 v1)), (2, .int (i32 v2)), (3, .int (i32 v3)), (4, .long v4), (6, .int (i32 (v6 + 1)))]) hl [1, 2, 3, 4, 5, 0] rfl) hc
set_option maxRecDepth 20000 in
theorem a_X16_emitFold_39 {Q : Sg → Unit → Prop} {X : Sg → String → Prop} (K : MC R p s m args c cX16_emitFold 7 RX16 D cA tys A n0 s0 3 79 []) (hQ : HQV p l e R s m args below meth c cX16_emitFold D cA A n0 s0 QM dm ra jx rm Q) (hX : HX p l e R s m args below meth c 7 D cA A n0 s0 QM dm ra jx rm X) {K39 : Sg → Int → Int → Int → Int64 → Int → Prop} (hK39 : ∀ (σ : Sg) (v1 : Int) (v2 : Int) (v3 : Int) (v4 : Int64) (v6 : Int) (g1 : rng v1) (g2 : rng v2) (g3 : rng v3) (g6 : rng v6), K39 σ v1 v2 v3 v4 v6 → RG σ → Shp dm ra jx rm σ → JJ p l e R s m args below meth c 7 D cA A n0 s0 QM σ 39 [(0, .ref rm), (1, .int (i32 v1)), (2, .int (i32 v2)), (3, .int (i32 v3)), (4, .long v4), (6, .int (i32 v6))] []) : ∀ (σ : Sg) (v1 : Int) (v2 : Int) (v3 : Int) (v4 : Int64) (v6 : Int) (g1 : rng v1) (g2 : rng v2) (g3 : rng v3) (g6 : rng v6), w_X16_emitFold_39 ra jx rm K39 Q X σ v1 v2 v3 v4 v6 → RG σ → Shp dm ra jx rm σ → JJ p l e R s m args below meth c 7 D cA A n0 s0 QM σ 39 [(0, .ref rm), (1, .int (i32 v1)), (2, .int (i32 v2)), (3, .int (i32 v3)), (4, .long v4), (6, .int (i32 v6))] [] := by
  intro σ v1 v2 v3 v4 v6 g1 g2 g3 g6 h hGσ hS H locs ls hH hl hc
  have B := K.1
  unfold w_X16_emitFold_39 at h
  refine lv_iload B.1 B.2.1 dX16_emitFold_39 (lv_at hl 5 rfl) ?_
  refine lv_aload_n B.1 B.2.1 dX16_emitFold_41 rfl (lv_at hl 0 rfl) ?_
  refine r_getp B hH hS 17 (by decide) wf_X16_356 rfl rfl dX16_emitFold_42 ?_
  obtain ⟨a16, ea16, ja16, h⟩ := h
  refine W.eq (g2 := F0 m 45 ls [.ref a16, .int (i32 v6)]) (by rw [ea16]; rfl) ?_
  refine n_arr B hH hS ja16 12 (kd := 100) (n := 16) (by decide) (by decide) (List.mem_of_getElem? (i := 12) rfl) rfl dX16_emitFold_45 ?_
  refine lv_iload_n B.1 B.2.1 dX16_emitFold_48 rfl (lv_at hl 2 rfl) ?_
  obtain ⟨q2, h⟩ := h
  refine x_iald B K.2.1 hH (hS.ja ja16 (k := 12) (kd := 100) (n := 16) (by decide)) (by decide) q2 dX16_emitFold_49 ?_
  refine lv_icmp_ge (tgt := 80) B.1 B.2.1 dX16_emitFold_50 (by decide) (fun h9 => ?_) (fun h9 => ?_)
  · rw [if_pos ((i32_le (hGσ _ _) g6).mp h9)] at h
    exact a_X16_emitFold_80 K hQ hX _ _ _ _ g1 g3 h hGσ hS _ _ _ hH (lv_sub (l' := [(0, .ref rm), (1, .int (i32 v1)), (3, .int (i32 v3)), (4, .long v4)]) hl [0, 1, 3, 4] rfl) hc
  · rw [if_neg (fun q => h9 ((i32_le (hGσ _ _) g6).mpr q))] at h
    exact a_X16_emitFold_53 K hQ hX hK39 _ _ _ _ _ _ g1 g2 g3 g6 h hGσ hS _ _ _ hH (lv_sub (l' := [(0, .ref rm), (1, .int (i32 v1)), (2, .int (i32 v2)), (3, .int (i32 v3)), (4, .long v4), (6, .int (i32 v6))]) hl [0, 1, 2, 3, 4, 5] rfl) hc
theorem al_X16_emitFold_39 {Q : Sg → Unit → Prop} {X : Sg → String → Prop} (K : MC R p s m args c cX16_emitFold 7 RX16 D cA tys A n0 s0 3 79 []) (hQ : HQV p l e R s m args below meth c cX16_emitFold D cA A n0 s0 QM dm ra jx rm Q) (hX : HX p l e R s m args below meth c 7 D cA A n0 s0 QM dm ra jx rm X) : ∀ (n : Nat), ∀ (σ : Sg) (v1 : Int) (v2 : Int) (v3 : Int) (v4 : Int64) (v6 : Int) (g1 : rng v1) (g2 : rng v2) (g3 : rng v3) (g6 : rng v6), wl_X16_emitFold_39 ra jx rm Q X n σ v1 v2 v3 v4 v6 → RG σ → Shp dm ra jx rm σ → JJ p l e R s m args below meth c 7 D cA A n0 s0 QM σ 39 [(0, .ref rm), (1, .int (i32 v1)), (2, .int (i32 v2)), (3, .int (i32 v3)), (4, .long v4), (6, .int (i32 v6))] [] := by
  intro n
  induction n with
  | zero => intro σ v1 v2 v3 v4 v6 g1 g2 g3 g6 h; exact h.elim
  | succ n ih => exact fun σ v1 v2 v3 v4 v6 g1 g2 g3 g6 h => a_X16_emitFold_39 K hQ hX ih σ v1 v2 v3 v4 v6 g1 g2 g3 g6 h
set_option maxRecDepth 20000 in
theorem a_X16_emitFold_24 {Q : Sg → Unit → Prop} {X : Sg → String → Prop} (K : MC R p s m args c cX16_emitFold 7 RX16 D cA tys A n0 s0 3 79 []) (hQ : HQV p l e R s m args below meth c cX16_emitFold D cA A n0 s0 QM dm ra jx rm Q) (hX : HX p l e R s m args below meth c 7 D cA A n0 s0 QM dm ra jx rm X) : ∀ (σ : Sg) (v1 : Int) (v2 : Int) (v3 : Int) (v4 : Int64) (g1 : rng v1) (g2 : rng v2) (g3 : rng v3), w_X16_emitFold_24 ra jx rm Q X σ v1 v2 v3 v4 → RG σ → Shp dm ra jx rm σ → JJ p l e R s m args below meth c 7 D cA A n0 s0 QM σ 24 [(0, .ref rm), (1, .int (i32 v1)), (2, .int (i32 v2)), (3, .int (i32 v3)), (4, .long v4)] [] := by
  intro σ v1 v2 v3 v4 g1 g2 g3 h hGσ hS H locs ls hH hl hc
  have B := K.1
  unfold w_X16_emitFold_24 at h
  refine lv_aload_n B.1 B.2.1 dX16_emitFold_24 rfl (lv_at hl 0 rfl) ?_
  refine r_arr B hH hS 82 (kd := 101) (n := 16) (by decide) (by decide) wf_X16_578 rfl rfl dX16_emitFold_25 ?_
  refine lv_iconst (v := i32 0) B.1 B.2.1 dX16_emitFold_28 (by decide) ?_
  refine lv_aload_n B.1 B.2.1 dX16_emitFold_29 rfl (lv_at hl 0 rfl) ?_
  refine r_arr B hH hS 70 (kd := 101) (n := 4000) (by decide) (by decide) wf_X16_519 rfl rfl dX16_emitFold_30 ?_
  refine lv_iload_n B.1 B.2.1 dX16_emitFold_33 rfl (lv_at hl 3 rfl) ?_
  obtain ⟨q1, h⟩ := h
  refine x_lald B K.2.1 hH (hS.ar (k := 70) (kd := 101) (n := 4000) (by decide)) (by decide) q1 dX16_emitFold_34 ?_
  obtain ⟨σ17, eσ17⟩ : ∃ z, z = pJ σ (ra 82) 0 (gJ σ (ra 70) v3.toNat) := ⟨_, rfl⟩
  have h := h σ17 eσ17
  refine x_last B K.2.1 hH (hS.ar (k := 82) (kd := 101) (n := 16) (by decide)) (by decide) (by decide) dX16_emitFold_35 (fun H locs hH => ?_)
  have hH : Hd D cA A s (pJ σ (ra 82) 0 (gJ σ (ra 70) v3.toNat)) H locs := hH
  rw [← eσ17] at hH
  have hGσ17 : RG σ17 := by rw [eσ17]; exact hGσ.pJ
  have hS : Shp dm ra jx rm σ17 := by rw [eσ17]; exact hS
  have hc : CB n0 s0 σ17 := by rw [eσ17]; exact hc
  rw [show gc σ = gc σ17 by rw [eσ17], show gs σ = gs σ17 by rw [eσ17]]
  refine lv_iconst (v := i32 0) B.1 B.2.1 dX16_emitFold_36 (by decide) ?_
  refine lv_istore (lv' := [(6, .int (i32 0)), (0, .ref rm), (1, .int (i32 v1)), (2, .int (i32 v2)), (3, .int (i32 v3)), (4, .long v4)]) B.1 B.2.1 dX16_emitFold_37 hl (by decide) rfl (fun ls hl => ?_)
  obtain ⟨n9, h⟩ := h
  exact al_X16_emitFold_39 K hQ hX n9 _ _ _ _ _ _ g1 g2 g3 (by unfold rng; omega) h hGσ17 hS _ _ _ hH (lv_sub (l' := [(0, .ref rm), (1, .int (i32 v1)), (2, .int (i32 v2)), (3, .int (i32 v3)), (4, .long v4), (6, .int (i32 0))]) hl [1, 2, 3, 4, 5, 0] rfl) hc
set_option maxRecDepth 20000 in
theorem a_X16_emitFold_10 {Q : Sg → Unit → Prop} {X : Sg → String → Prop} (K : MC R p s m args c cX16_emitFold 7 RX16 D cA tys A n0 s0 3 79 []) (hQ : HQV p l e R s m args below meth c cX16_emitFold D cA A n0 s0 QM dm ra jx rm Q) (hX : HX p l e R s m args below meth c 7 D cA A n0 s0 QM dm ra jx rm X) {K3 : Sg → Int → Int → Int → Int64 → Int → Prop} (hK3 : ∀ (σ : Sg) (v1 : Int) (v2 : Int) (v3 : Int) (v4 : Int64) (v6 : Int) (g1 : rng v1) (g2 : rng v2) (g3 : rng v3) (g6 : rng v6), K3 σ v1 v2 v3 v4 v6 → RG σ → Shp dm ra jx rm σ → JJ p l e R s m args below meth c 7 D cA A n0 s0 QM σ 3 [(0, .ref rm), (1, .int (i32 v1)), (2, .int (i32 v2)), (3, .int (i32 v3)), (4, .long v4), (6, .int (i32 v6))] []) : ∀ (σ : Sg) (v1 : Int) (v2 : Int) (v3 : Int) (v4 : Int64) (v6 : Int) (g1 : rng v1) (g2 : rng v2) (g3 : rng v3) (g6 : rng v6), w_X16_emitFold_10 ra jx rm K3 Q X σ v1 v2 v3 v4 v6 → RG σ → Shp dm ra jx rm σ → JJ p l e R s m args below meth c 7 D cA A n0 s0 QM σ 10 [(0, .ref rm), (1, .int (i32 v1)), (2, .int (i32 v2)), (3, .int (i32 v3)), (4, .long v4), (6, .int (i32 v6))] [] := by
  intro σ v1 v2 v3 v4 v6 g1 g2 g3 g6 h hGσ hS H locs ls hH hl hc
  have B := K.1
  unfold w_X16_emitFold_10 at h
  refine lv_aload_n B.1 B.2.1 dX16_emitFold_10 rfl (lv_at hl 0 rfl) ?_
  refine r_arr B hH hS 82 (kd := 101) (n := 16) (by decide) (by decide) wf_X16_578 rfl rfl dX16_emitFold_11 ?_
  refine lv_iload B.1 B.2.1 dX16_emitFold_14 (lv_at hl 5 rfl) ?_
  refine lv_lconst (v := 0) B.1 B.2.1 dX16_emitFold_16 (by decide) ?_
  obtain ⟨q1, h⟩ := h
  obtain ⟨σ18, eσ18⟩ : ∃ z, z = pJ σ (ra 82) v6.toNat 0 := ⟨_, rfl⟩
  have h := h σ18 eσ18
  refine x_last B K.2.1 hH (hS.ar (k := 82) (kd := 101) (n := 16) (by decide)) (by decide) q1 dX16_emitFold_17 (fun H locs hH => ?_)
  have hH : Hd D cA A s (pJ σ (ra 82) v6.toNat 0) H locs := hH
  rw [← eσ18] at hH
  have hGσ18 : RG σ18 := by rw [eσ18]; exact hGσ.pJ
  have hS : Shp dm ra jx rm σ18 := by rw [eσ18]; exact hS
  have hc : CB n0 s0 σ18 := by rw [eσ18]; exact hc
  rw [show gc σ = gc σ18 by rw [eσ18], show gs σ = gs σ18 by rw [eσ18]]
  obtain ⟨q3, h⟩ := h
  refine lv_iinc (k := 5) (v := i32 (v6 + 1)) (lv' := [(6, .int (i32 (v6 + 1))), (0, .ref rm), (1, .int (i32 v1)), (2, .int (i32 v2)), (3, .int (i32 v3)), (4, .long v4)]) B.1 B.2.1 dX16_emitFold_18 hl rfl (i32_add _ _) (by decide) rfl (fun ls hl => ?_)
  refine lv_goto (tgt := 3) B.1 B.2.1 dX16_emitFold_21 (by decide) ?_
  exact hK3 _ _ _ _ _ _ g1 g2 g3 q3 h hGσ18 hS _ _ _ hH (lv_sub (l' := [(0, .ref rm), (1, .int (i32 v1)), (2, .int (i32 v2)), (3, .int (i32 v3)), (4, .long v4), (6, .int (i32 (v6 + 1)))]) hl [1, 2, 3, 4, 5, 0] rfl) hc
set_option maxRecDepth 20000 in
theorem a_X16_emitFold_3 {Q : Sg → Unit → Prop} {X : Sg → String → Prop} (K : MC R p s m args c cX16_emitFold 7 RX16 D cA tys A n0 s0 3 79 []) (hQ : HQV p l e R s m args below meth c cX16_emitFold D cA A n0 s0 QM dm ra jx rm Q) (hX : HX p l e R s m args below meth c 7 D cA A n0 s0 QM dm ra jx rm X) {K3 : Sg → Int → Int → Int → Int64 → Int → Prop} (hK3 : ∀ (σ : Sg) (v1 : Int) (v2 : Int) (v3 : Int) (v4 : Int64) (v6 : Int) (g1 : rng v1) (g2 : rng v2) (g3 : rng v3) (g6 : rng v6), K3 σ v1 v2 v3 v4 v6 → RG σ → Shp dm ra jx rm σ → JJ p l e R s m args below meth c 7 D cA A n0 s0 QM σ 3 [(0, .ref rm), (1, .int (i32 v1)), (2, .int (i32 v2)), (3, .int (i32 v3)), (4, .long v4), (6, .int (i32 v6))] []) : ∀ (σ : Sg) (v1 : Int) (v2 : Int) (v3 : Int) (v4 : Int64) (v6 : Int) (g1 : rng v1) (g2 : rng v2) (g3 : rng v3) (g6 : rng v6), w_X16_emitFold_3 ra jx rm K3 Q X σ v1 v2 v3 v4 v6 → RG σ → Shp dm ra jx rm σ → JJ p l e R s m args below meth c 7 D cA A n0 s0 QM σ 3 [(0, .ref rm), (1, .int (i32 v1)), (2, .int (i32 v2)), (3, .int (i32 v3)), (4, .long v4), (6, .int (i32 v6))] [] := by
  intro σ v1 v2 v3 v4 v6 g1 g2 g3 g6 h hGσ hS H locs ls hH hl hc
  have B := K.1
  unfold w_X16_emitFold_3 at h
  refine lv_iload B.1 B.2.1 dX16_emitFold_3 (lv_at hl 5 rfl) ?_
  refine lv_bipush (v := i32 8) B.1 B.2.1 dX16_emitFold_5 (by decide) ?_
  refine lv_icmp_ge (tgt := 24) B.1 B.2.1 dX16_emitFold_7 (by decide) (fun h9 => ?_) (fun h9 => ?_)
  · rw [if_pos ((i32_le (by unfold rng; omega) g6).mp h9)] at h
    exact a_X16_emitFold_24 K hQ hX _ _ _ _ _ g1 g2 g3 h hGσ hS _ _ _ hH (lv_sub (l' := [(0, .ref rm), (1, .int (i32 v1)), (2, .int (i32 v2)), (3, .int (i32 v3)), (4, .long v4)]) hl [0, 1, 2, 3, 4] rfl) hc
  · rw [if_neg (fun q => h9 ((i32_le (by unfold rng; omega) g6).mpr q))] at h
    exact a_X16_emitFold_10 K hQ hX hK3 _ _ _ _ _ _ g1 g2 g3 g6 h hGσ hS _ _ _ hH (lv_sub (l' := [(0, .ref rm), (1, .int (i32 v1)), (2, .int (i32 v2)), (3, .int (i32 v3)), (4, .long v4), (6, .int (i32 v6))]) hl [0, 1, 2, 3, 4, 5] rfl) hc
theorem al_X16_emitFold_3 {Q : Sg → Unit → Prop} {X : Sg → String → Prop} (K : MC R p s m args c cX16_emitFold 7 RX16 D cA tys A n0 s0 3 79 []) (hQ : HQV p l e R s m args below meth c cX16_emitFold D cA A n0 s0 QM dm ra jx rm Q) (hX : HX p l e R s m args below meth c 7 D cA A n0 s0 QM dm ra jx rm X) : ∀ (n : Nat), ∀ (σ : Sg) (v1 : Int) (v2 : Int) (v3 : Int) (v4 : Int64) (v6 : Int) (g1 : rng v1) (g2 : rng v2) (g3 : rng v3) (g6 : rng v6), wl_X16_emitFold_3 ra jx rm Q X n σ v1 v2 v3 v4 v6 → RG σ → Shp dm ra jx rm σ → JJ p l e R s m args below meth c 7 D cA A n0 s0 QM σ 3 [(0, .ref rm), (1, .int (i32 v1)), (2, .int (i32 v2)), (3, .int (i32 v3)), (4, .long v4), (6, .int (i32 v6))] [] := by
  intro n
  induction n with
  | zero => intro σ v1 v2 v3 v4 v6 g1 g2 g3 g6 h; exact h.elim
  | succ n ih => exact fun σ v1 v2 v3 v4 v6 g1 g2 g3 g6 h => a_X16_emitFold_3 K hQ hX ih σ v1 v2 v3 v4 v6 g1 g2 g3 g6 h
set_option maxRecDepth 20000 in
theorem a_X16_emitFold_0 {Q : Sg → Unit → Prop} {X : Sg → String → Prop} (K : MC R p s m args c cX16_emitFold 7 RX16 D cA tys A n0 s0 3 79 []) (hQ : HQV p l e R s m args below meth c cX16_emitFold D cA A n0 s0 QM dm ra jx rm Q) (hX : HX p l e R s m args below meth c 7 D cA A n0 s0 QM dm ra jx rm X) : ∀ (σ : Sg) (v1 : Int) (v2 : Int) (v3 : Int) (v4 : Int64) (g1 : rng v1) (g2 : rng v2) (g3 : rng v3), w_X16_emitFold_0 ra jx rm Q X σ v1 v2 v3 v4 → RG σ → Shp dm ra jx rm σ → JJ p l e R s m args below meth c 7 D cA A n0 s0 QM σ 0 [(0, .ref rm), (1, .int (i32 v1)), (2, .int (i32 v2)), (3, .int (i32 v3)), (4, .long v4)] [] := by
  intro σ v1 v2 v3 v4 g1 g2 g3 h hGσ hS H locs ls hH hl hc
  have B := K.1
  unfold w_X16_emitFold_0 at h
  refine lv_iconst (v := i32 0) B.1 B.2.1 dX16_emitFold_0 (by decide) ?_
  refine lv_istore (lv' := [(6, .int (i32 0)), (0, .ref rm), (1, .int (i32 v1)), (2, .int (i32 v2)), (3, .int (i32 v3)), (4, .long v4)]) B.1 B.2.1 dX16_emitFold_1 hl (by decide) rfl (fun ls hl => ?_)
  obtain ⟨n9, h⟩ := h
  exact al_X16_emitFold_3 K hQ hX n9 _ _ _ _ _ _ g1 g2 g3 (by unfold rng; omega) h hGσ hS _ _ _ hH (lv_sub (l' := [(0, .ref rm), (1, .int (i32 v1)), (2, .int (i32 v2)), (3, .int (i32 v3)), (4, .long v4), (6, .int (i32 0))]) hl [1, 2, 3, 4, 5, 0] rfl) hc
theorem ok_X16_emitFold (hT : Tys cA tys) {Q : Sg → Unit → Prop} {X : Sg → String → Prop} (σ : Sg) (v1 : Int) (v2 : Int) (v3 : Int) (v4 : Int64) (g1 : rng v1) (g2 : rng v2) (g3 : rng v3) (hG : RG σ) (hS : Shp dm ra jx rm σ) (h : wp_X16_emitFold ra jx rm v1 v2 v3 v4 σ Q X) : Ok l D cA tys A yX16_emitFold (.code yX16_emitFold cX16_emitFold 7 none) 3 79 [.ref rm, .int (i32 v1), .int (i32 v2), .int (i32 v3), .long v4] σ (QnV dm ra jx rm Q) (QxR dm ra jx rm X) := by
  unfold wp_X16_emitFold at h
  exact ok_V (plainFor_of_name (by decide)) (by exact Nat.le_of_ble_eq_true rfl) hT (fun p e R s m args below meth c K hQ hX H locs ls hH hl hc => a_X16_emitFold_0 K hQ hX σ v1 v2 v3 v4 g1 g2 g3 h hG hS H locs ls hH (lv_sub (l' := [(0, .ref rm), (1, .int (i32 v1)), (2, .int (i32 v2)), (3, .int (i32 v3)), (4, .long v4)]) hl [0, 1, 2, 3, 4] rfl) hc)
theorem dX16_fail__0 : decode cX16_fail_ 0 = .ok (.aload_n 0, 1) := by decide +kernel
theorem dX16_fail__1 : decode cX16_fail_ 1 = .ok (.aload_n 0, 1) := by decide +kernel
theorem dX16_fail__2 : decode cX16_fail_ 2 = .ok (.getfield 852, 3) := by decide +kernel
theorem dX16_fail__5 : decode cX16_fail_ 5 = .ok (.ifCond .eq 10, 3) := by decide +kernel
theorem dX16_fail__8 : decode cX16_fail_ 8 = .ok (.aload_n 0, 1) := by decide +kernel
theorem dX16_fail__9 : decode cX16_fail_ 9 = .ok (.getfield 688, 3) := by decide +kernel
theorem dX16_fail__12 : decode cX16_fail_ 12 = .ok (.ifCond .eq 7, 3) := by decide +kernel
theorem dX16_fail__15 : decode cX16_fail_ 15 = .ok (.iconst 1, 1) := by decide +kernel
theorem dX16_fail__16 : decode cX16_fail_ 16 = .ok (.goto 4, 3) := by decide +kernel
theorem dX16_fail__19 : decode cX16_fail_ 19 = .ok (.iconst 0, 1) := by decide +kernel
theorem dX16_fail__20 : decode cX16_fail_ 20 = .ok (.putfield 1, 3) := by decide +kernel
theorem dX16_fail__23 : decode cX16_fail_ 23 = .ok (.aload_n 0, 1) := by decide +kernel
theorem dX16_fail__24 : decode cX16_fail_ 24 = .ok (.getfield 1, 3) := by decide +kernel
theorem dX16_fail__27 : decode cX16_fail_ 27 = .ok (.ifCond .le 7, 3) := by decide +kernel
theorem dX16_fail__30 : decode cX16_fail_ 30 = .ok (.iconst 0, 1) := by decide +kernel
theorem dX16_fail__31 : decode cX16_fail_ 31 = .ok (.goto 11, 3) := by decide +kernel
theorem dX16_fail__34 : decode cX16_fail_ 34 = .ok (.aload_n 0, 1) := by decide +kernel
theorem dX16_fail__35 : decode cX16_fail_ 35 = .ok (.aload_n 0, 1) := by decide +kernel
theorem dX16_fail__36 : decode cX16_fail_ 36 = .ok (.getfield 365, 3) := by decide +kernel
theorem dX16_fail__39 : decode cX16_fail_ 39 = .ok (.invokevirtual 994, 3) := by decide +kernel
theorem dX16_fail__42 : decode cX16_fail_ 42 = .ok (.ireturn, 1) := by decide +kernel
set_option maxRecDepth 20000 in
theorem a_X16_fail__42 {Q : Sg → Int → Prop} {X : Sg → String → Prop} (K : MC R p s m args c cX16_fail_ 1 RX16 D cA tys A n0 s0 5 117 []) (hQ : HQI p l e R s m args below meth c cX16_fail_ D cA A n0 s0 QM dm ra jx rm Q) (hX : HX p l e R s m args below meth c 1 D cA A n0 s0 QM dm ra jx rm X) : ∀ (σ : Sg) (u0 : Int) (gu0 : rng u0), w_X16_fail__42 ra jx rm Q X σ u0 → RG σ → Shp dm ra jx rm σ → JJ p l e R s m args below meth c 1 D cA A n0 s0 QM σ 42 [(0, .ref rm)] [.int (i32 u0)] := by
  intro σ u0 gu0 h hGσ hS H locs ls hH hl hc
  have B := K.1
  unfold w_X16_fail__42 at h
  exact hQ _ _ _ _ _ _ gu0 dX16_fail__42 hH hc h hGσ hS
set_option maxRecDepth 20000 in
theorem a_X16_fail__34 {Q : Sg → Int → Prop} {X : Sg → String → Prop} (K : MC R p s m args c cX16_fail_ 1 RX16 D cA tys A n0 s0 5 117 []) (hQ : HQI p l e R s m args below meth c cX16_fail_ D cA A n0 s0 QM dm ra jx rm Q) (hX : HX p l e R s m args below meth c 1 D cA A n0 s0 QM dm ra jx rm X) : ∀ (σ : Sg), w_X16_fail__34 ra jx rm Q X σ → RG σ → Shp dm ra jx rm σ → JJ p l e R s m args below meth c 1 D cA A n0 s0 QM σ 34 [(0, .ref rm)] [] := by
  intro σ h hGσ hS H locs ls hH hl hc
  have B := K.1
  unfold w_X16_fail__34 at h
  refine lv_aload_n B.1 B.2.1 dX16_fail__34 rfl (lv_at hl 0 rfl) ?_
  refine lv_aload_n B.1 B.2.1 dX16_fail__35 rfl (lv_at hl 0 rfl) ?_
  refine r_geti B hH hS 33 (by decide) wf_X16_365 rfl rfl dX16_fail__36 ?_
  refine c_V B hH hl hc K.2.2.1 (C := RX16) (T := TX16) (N := 123) (ci := 16) (As := [.int (i32 (gI σ rm 33))]) (ok_X16_beginAgain K.2.1 σ (gI σ rm 33) (hGσ _ _) hGσ hS h) wc_X16_994 1 hd_X16_beginAgain ⟨Nat.le_trans (Nat.le_of_ble_eq_true rfl) K.2.2.2.1, Nat.le_trans (Nat.le_of_ble_eq_true rfl) K.2.2.2.2.1⟩ hS.1.1 hS.1.2 (by decide) rfl rfl (rest := []) rfl (Nat.le_of_ble_eq_true rfl) dX16_fail__39 (fun σ7 w hq => ?_) (fun σ9 E9 hx9 => hX σ9 E9 _ _ _ (tb_out K.2.2.2.2.2 rfl) hx9.1 hx9.2.1 hx9.2.2)
  obtain ⟨r8, rfl, gr8, h, hGσ7, hS⟩ := hq
  intro H locs ls hH hl hc
  refine W.eq (g2 := F0 m 42 ls [.int (i32 r8)]) (rfl) ?_
  try dsimp only at h
  exact a_X16_fail__42 K hQ hX _ _ gr8 h hGσ7 hS _ _ _ hH (lv_sub (l' := [(0, .ref rm)]) hl [0] rfl) hc
set_option maxRecDepth 20000 in
theorem a_X16_fail__30 {Q : Sg → Int → Prop} {X : Sg → String → Prop} (K : MC R p s m args c cX16_fail_ 1 RX16 D cA tys A n0 s0 5 117 []) (hQ : HQI p l e R s m args below meth c cX16_fail_ D cA A n0 s0 QM dm ra jx rm Q) (hX : HX p l e R s m args below meth c 1 D cA A n0 s0 QM dm ra jx rm X) : ∀ (σ : Sg), w_X16_fail__30 ra jx rm Q X σ → RG σ → Shp dm ra jx rm σ → JJ p l e R s m args below meth c 1 D cA A n0 s0 QM σ 30 [(0, .ref rm)] [] := by
  intro σ h hGσ hS H locs ls hH hl hc
  have B := K.1
  unfold w_X16_fail__30 at h
  refine lv_iconst (v := i32 0) B.1 B.2.1 dX16_fail__30 (by decide) ?_
  refine lv_goto (tgt := 42) B.1 B.2.1 dX16_fail__31 (by decide) ?_
  exact a_X16_fail__42 K hQ hX _ _ (by unfold rng; omega) h hGσ hS _ _ _ hH (lv_sub (l' := [(0, .ref rm)]) hl [0] rfl) hc
set_option maxRecDepth 20000 in
theorem a_X16_fail__20 {Q : Sg → Int → Prop} {X : Sg → String → Prop} (K : MC R p s m args c cX16_fail_ 1 RX16 D cA tys A n0 s0 5 117 []) (hQ : HQI p l e R s m args below meth c cX16_fail_ D cA A n0 s0 QM dm ra jx rm Q) (hX : HX p l e R s m args below meth c 1 D cA A n0 s0 QM dm ra jx rm X) : ∀ (σ : Sg) (u0 : Int) (gu0 : rng u0), w_X16_fail__20 ra jx rm Q X σ u0 → RG σ → Shp dm ra jx rm σ → JJ p l e R s m args below meth c 1 D cA A n0 s0 QM σ 20 [(0, .ref rm)] [.int (i32 u0), .ref rm] := by
  intro σ u0 gu0 h hGσ hS H locs ls hH hl hc
  have B := K.1
  unfold w_X16_fail__20 at h
  obtain ⟨σ9, eσ9⟩ : ∃ z, z = pI σ rm 0 u0 := ⟨_, rfl⟩
  have h := h σ9 eσ9
  refine r_puti B hH hS 0 (ty := .int) (by decide) wf_X16_1 rfl rfl rfl rfl rfl rfl dX16_fail__20 (fun H locs hH => ?_)
  have hH : Hd D cA A s (pI σ rm 0 u0) H locs := hH
  rw [← eσ9] at hH
  have hGσ9 : RG σ9 := by rw [eσ9]; exact hGσ.pI gu0
  have hS : Shp dm ra jx rm σ9 := by rw [eσ9]; exact hS
  have hc : CB n0 s0 σ9 := by rw [eσ9]; exact hc
  rw [show gc σ = gc σ9 by rw [eσ9], show gs σ = gs σ9 by rw [eσ9]]
  refine lv_aload_n B.1 B.2.1 dX16_fail__23 rfl (lv_at hl 0 rfl) ?_
  refine r_geti B hH hS 0 (by decide) wf_X16_1 rfl rfl dX16_fail__24 ?_
  refine lv_if_le (tgt := 34) B.1 B.2.1 dX16_fail__27 (by decide) (fun h9 => ?_) (fun h9 => ?_)
  · rw [if_pos ((z_le (hGσ9 _ _)).mp h9)] at h
    exact a_X16_fail__34 K hQ hX _ h hGσ9 hS _ _ _ hH (lv_sub (l' := [(0, .ref rm)]) hl [0] rfl) hc
  · rw [if_neg (fun q => h9 ((z_le (hGσ9 _ _)).mpr q))] at h
    exact a_X16_fail__30 K hQ hX _ h hGσ9 hS _ _ _ hH (lv_sub (l' := [(0, .ref rm)]) hl [0] rfl) hc
set_option maxRecDepth 20000 in
theorem a_X16_fail__15 {Q : Sg → Int → Prop} {X : Sg → String → Prop} (K : MC R p s m args c cX16_fail_ 1 RX16 D cA tys A n0 s0 5 117 []) (hQ : HQI p l e R s m args below meth c cX16_fail_ D cA A n0 s0 QM dm ra jx rm Q) (hX : HX p l e R s m args below meth c 1 D cA A n0 s0 QM dm ra jx rm X) : ∀ (σ : Sg), w_X16_fail__15 ra jx rm Q X σ → RG σ → Shp dm ra jx rm σ → JJ p l e R s m args below meth c 1 D cA A n0 s0 QM σ 15 [(0, .ref rm)] [.ref rm] := by
  intro σ h hGσ hS H locs ls hH hl hc
  have B := K.1
  unfold w_X16_fail__15 at h
  refine lv_iconst (v := i32 1) B.1 B.2.1 dX16_fail__15 (by decide) ?_
  refine lv_goto (tgt := 20) B.1 B.2.1 dX16_fail__16 (by decide) ?_
  exact a_X16_fail__20 K hQ hX _ _ (by unfold rng; omega) h hGσ hS _ _ _ hH (lv_sub (l' := [(0, .ref rm)]) hl [0] rfl) hc
set_option maxRecDepth 20000 in
theorem a_X16_fail__19 {Q : Sg → Int → Prop} {X : Sg → String → Prop} (K : MC R p s m args c cX16_fail_ 1 RX16 D cA tys A n0 s0 5 117 []) (hQ : HQI p l e R s m args below meth c cX16_fail_ D cA A n0 s0 QM dm ra jx rm Q) (hX : HX p l e R s m args below meth c 1 D cA A n0 s0 QM dm ra jx rm X) : ∀ (σ : Sg), w_X16_fail__19 ra jx rm Q X σ → RG σ → Shp dm ra jx rm σ → JJ p l e R s m args below meth c 1 D cA A n0 s0 QM σ 19 [(0, .ref rm)] [.ref rm] := by
  intro σ h hGσ hS H locs ls hH hl hc
  have B := K.1
  unfold w_X16_fail__19 at h
  refine lv_iconst (v := i32 0) B.1 B.2.1 dX16_fail__19 (by decide) ?_
  exact a_X16_fail__20 K hQ hX _ _ (by unfold rng; omega) h hGσ hS _ _ _ hH (lv_sub (l' := [(0, .ref rm)]) hl [0] rfl) hc
set_option maxRecDepth 20000 in
theorem a_X16_fail__8 {Q : Sg → Int → Prop} {X : Sg → String → Prop} (K : MC R p s m args c cX16_fail_ 1 RX16 D cA tys A n0 s0 5 117 []) (hQ : HQI p l e R s m args below meth c cX16_fail_ D cA A n0 s0 QM dm ra jx rm Q) (hX : HX p l e R s m args below meth c 1 D cA A n0 s0 QM dm ra jx rm X) : ∀ (σ : Sg), w_X16_fail__8 ra jx rm Q X σ → RG σ → Shp dm ra jx rm σ → JJ p l e R s m args below meth c 1 D cA A n0 s0 QM σ 8 [(0, .ref rm)] [.ref rm] := by
  intro σ h hGσ hS H locs ls hH hl hc
  have B := K.1
  unfold w_X16_fail__8 at h
  refine lv_aload_n B.1 B.2.1 dX16_fail__8 rfl (lv_at hl 0 rfl) ?_
  refine r_geti B hH hS 32 (by decide) wf_X16_688 rfl rfl dX16_fail__9 ?_
  refine lv_if_eq (tgt := 19) B.1 B.2.1 dX16_fail__12 (by decide) (fun h9 => ?_) (fun h9 => ?_)
  · rw [if_pos ((z_eq (hGσ _ _)).mp h9)] at h
    exact a_X16_fail__19 K hQ hX _ h hGσ hS _ _ _ hH (lv_sub (l' := [(0, .ref rm)]) hl [0] rfl) hc
  · rw [if_neg (fun q => h9 ((z_eq (hGσ _ _)).mpr q))] at h
    exact a_X16_fail__15 K hQ hX _ h hGσ hS _ _ _ hH (lv_sub (l' := [(0, .ref rm)]) hl [0] rfl) hc
set_option maxRecDepth 20000 in
theorem a_X16_fail__0 {Q : Sg → Int → Prop} {X : Sg → String → Prop} (K : MC R p s m args c cX16_fail_ 1 RX16 D cA tys A n0 s0 5 117 []) (hQ : HQI p l e R s m args below meth c cX16_fail_ D cA A n0 s0 QM dm ra jx rm Q) (hX : HX p l e R s m args below meth c 1 D cA A n0 s0 QM dm ra jx rm X) : ∀ (σ : Sg), w_X16_fail__0 ra jx rm Q X σ → RG σ → Shp dm ra jx rm σ → JJ p l e R s m args below meth c 1 D cA A n0 s0 QM σ 0 [(0, .ref rm)] [] := by
  intro σ h hGσ hS H locs ls hH hl hc
  have B := K.1
  unfold w_X16_fail__0 at h
  refine lv_aload_n B.1 B.2.1 dX16_fail__0 rfl (lv_at hl 0 rfl) ?_
  refine lv_aload_n B.1 B.2.1 dX16_fail__1 rfl (lv_at hl 0 rfl) ?_
  refine r_geti B hH hS 30 (by decide) wf_X16_852 rfl rfl dX16_fail__2 ?_
  refine lv_if_eq (tgt := 15) B.1 B.2.1 dX16_fail__5 (by decide) (fun h9 => ?_) (fun h9 => ?_)
  · rw [if_pos ((z_eq (hGσ _ _)).mp h9)] at h
    exact a_X16_fail__15 K hQ hX _ h hGσ hS _ _ _ hH (lv_sub (l' := [(0, .ref rm)]) hl [0] rfl) hc
  · rw [if_neg (fun q => h9 ((z_eq (hGσ _ _)).mpr q))] at h
    exact a_X16_fail__8 K hQ hX _ h hGσ hS _ _ _ hH (lv_sub (l' := [(0, .ref rm)]) hl [0] rfl) hc
theorem ok_X16_fail_ (hT : Tys cA tys) {Q : Sg → Int → Prop} {X : Sg → String → Prop} (σ : Sg) (hG : RG σ) (hS : Shp dm ra jx rm σ) (h : wp_X16_fail_ ra jx rm σ Q X) : Ok l D cA tys A yX16_fail_ (.code yX16_fail_ cX16_fail_ 1 (some .int)) 5 117 [.ref rm] σ (QnI dm ra jx rm Q) (QxR dm ra jx rm X) := by
  unfold wp_X16_fail_ at h
  exact ok_I (plainFor_of_name (by decide)) (by exact Nat.le_of_ble_eq_true rfl) hT (fun p e R s m args below meth c K hQ hX H locs ls hH hl hc => a_X16_fail__0 K hQ hX σ h hG hS H locs ls hH (lv_sub (l' := [(0, .ref rm)]) hl [0] rfl) hc)
theorem dX16_fault_0 : decode cX16_fault 0 = .ok (.aload_n 0, 1) := by decide +kernel
theorem dX16_fault_1 : decode cX16_fault 1 = .ok (.iconst 0, 1) := by decide +kernel
theorem dX16_fault_2 : decode cX16_fault 2 = .ok (.putfield 1, 3) := by decide +kernel
theorem dX16_fault_5 : decode cX16_fault 5 = .ok (.aload_n 0, 1) := by decide +kernel
theorem dX16_fault_6 : decode cX16_fault 6 = .ok (.getfield 7, 3) := by decide +kernel
theorem dX16_fault_9 : decode cX16_fault 9 = .ok (.ireturn, 1) := by decide +kernel
set_option maxRecDepth 20000 in
theorem a_X16_fault_0 {Q : Sg → Int → Prop} {X : Sg → String → Prop} (K : MC R p s m args c cX16_fault 1 RX16 D cA tys A n0 s0 0 0 []) (hQ : HQI p l e R s m args below meth c cX16_fault D cA A n0 s0 QM dm ra jx rm Q) (hX : HX p l e R s m args below meth c 1 D cA A n0 s0 QM dm ra jx rm X) : ∀ (σ : Sg), w_X16_fault_0 ra jx rm Q X σ → RG σ → Shp dm ra jx rm σ → JJ p l e R s m args below meth c 1 D cA A n0 s0 QM σ 0 [(0, .ref rm)] [] := by
  intro σ h hGσ hS H locs ls hH hl hc
  have B := K.1
  unfold w_X16_fault_0 at h
  refine lv_aload_n B.1 B.2.1 dX16_fault_0 rfl (lv_at hl 0 rfl) ?_
  refine lv_iconst (v := i32 0) B.1 B.2.1 dX16_fault_1 (by decide) ?_
  obtain ⟨σ3, eσ3⟩ : ∃ z, z = pI σ rm 0 0 := ⟨_, rfl⟩
  have h := h σ3 eσ3
  refine r_puti B hH hS 0 (ty := .int) (by decide) wf_X16_1 rfl rfl rfl rfl rfl rfl dX16_fault_2 (fun H locs hH => ?_)
  have hH : Hd D cA A s (pI σ rm 0 0) H locs := hH
  rw [← eσ3] at hH
  have hGσ3 : RG σ3 := by rw [eσ3]; exact hGσ.pI (by unfold rng; omega)
  have hS : Shp dm ra jx rm σ3 := by rw [eσ3]; exact hS
  have hc : CB n0 s0 σ3 := by rw [eσ3]; exact hc
  rw [show gc σ = gc σ3 by rw [eσ3], show gs σ = gs σ3 by rw [eσ3]]
  refine lv_aload_n B.1 B.2.1 dX16_fault_5 rfl (lv_at hl 0 rfl) ?_
  refine r_geti B hH hS 4 (by decide) wf_X16_7 rfl rfl dX16_fault_6 ?_
  exact hQ _ _ _ _ _ _ (hGσ3 _ _) dX16_fault_9 hH hc h hGσ3 hS
theorem ok_X16_fault (hT : Tys cA tys) {Q : Sg → Int → Prop} {X : Sg → String → Prop} (σ : Sg) (hG : RG σ) (hS : Shp dm ra jx rm σ) (h : wp_X16_fault ra jx rm σ Q X) : Ok l D cA tys A yX16_fault (.code yX16_fault cX16_fault 1 (some .int)) 0 0 [.ref rm] σ (QnI dm ra jx rm Q) (QxR dm ra jx rm X) := by
  unfold wp_X16_fault at h
  exact ok_I (plainFor_of_name (by decide)) (by exact Nat.le_of_ble_eq_true rfl) hT (fun p e R s m args below meth c K hQ hX H locs ls hH hl hc => a_X16_fault_0 K hQ hX σ h hG hS H locs ls hH (lv_sub (l' := [(0, .ref rm)]) hl [0] rfl) hc)
theorem dX16_feed_0 : decode cX16_feed 0 = .ok (.aload_n 0, 1) := by decide +kernel
theorem dX16_feed_1 : decode cX16_feed 1 = .ok (.iload_n 3, 1) := by decide +kernel
theorem dX16_feed_2 : decode cX16_feed 2 = .ok (.i2l, 1) := by decide +kernel
theorem dX16_feed_3 : decode cX16_feed 3 = .ok (.lconst 1, 1) := by decide +kernel
theorem dX16_feed_4 : decode cX16_feed 4 = .ok (.ldc2_w 250, 3) := by decide +kernel
theorem dX16_feed_7 : decode cX16_feed 7 = .ok (.invokestatic 45, 3) := by decide +kernel
theorem dX16_feed_10 : decode cX16_feed 10 = .ok (.ifCond .ne 7, 3) := by decide +kernel
theorem dX16_feed_13 : decode cX16_feed 13 = .ok (.iconst 1, 1) := by decide +kernel
theorem dX16_feed_14 : decode cX16_feed 14 = .ok (.goto 20, 3) := by decide +kernel
theorem dX16_feed_17 : decode cX16_feed 17 = .ok (.aload_n 0, 1) := by decide +kernel
theorem dX16_feed_18 : decode cX16_feed 18 = .ok (.getfield 972, 3) := by decide +kernel
theorem dX16_feed_21 : decode cX16_feed 21 = .ok (.iload_n 3, 1) := by decide +kernel
theorem dX16_feed_22 : decode cX16_feed 22 = .ok (.iadd, 1) := by decide +kernel
theorem dX16_feed_23 : decode cX16_feed 23 = .ok (.sipush 1500, 3) := by decide +kernel
theorem dX16_feed_26 : decode cX16_feed 26 = .ok (.if_icmp .le 7, 3) := by decide +kernel
theorem dX16_feed_29 : decode cX16_feed 29 = .ok (.iconst 2, 1) := by decide +kernel
theorem dX16_feed_30 : decode cX16_feed 30 = .ok (.goto 4, 3) := by decide +kernel
theorem dX16_feed_33 : decode cX16_feed 33 = .ok (.iconst 0, 1) := by decide +kernel
theorem dX16_feed_34 : decode cX16_feed 34 = .ok (.putfield 1, 3) := by decide +kernel
theorem dX16_feed_37 : decode cX16_feed 37 = .ok (.iload_n 3, 1) := by decide +kernel
theorem dX16_feed_38 : decode cX16_feed 38 = .ok (.iconst 1, 1) := by decide +kernel
theorem dX16_feed_39 : decode cX16_feed 39 = .ok (.isub, 1) := by decide +kernel
theorem dX16_feed_40 : decode cX16_feed 40 = .ok (.istore 4, 2) := by decide +kernel
theorem dX16_feed_42 : decode cX16_feed 42 = .ok (.iload 4, 2) := by decide +kernel
theorem dX16_feed_44 : decode cX16_feed 44 = .ok (.ifCond .lt 41, 3) := by decide +kernel
theorem dX16_feed_47 : decode cX16_feed 47 = .ok (.aload_n 0, 1) := by decide +kernel
theorem dX16_feed_48 : decode cX16_feed 48 = .ok (.getfield 1, 3) := by decide +kernel
theorem dX16_feed_51 : decode cX16_feed 51 = .ok (.ifCond .ne 34, 3) := by decide +kernel
theorem dX16_feed_54 : decode cX16_feed 54 = .ok (.aload_n 0, 1) := by decide +kernel
theorem dX16_feed_55 : decode cX16_feed 55 = .ok (.getfield 20, 3) := by decide +kernel
theorem dX16_feed_58 : decode cX16_feed 58 = .ok (.aload_n 0, 1) := by decide +kernel
theorem dX16_feed_59 : decode cX16_feed 59 = .ok (.dup, 1) := by decide +kernel
theorem dX16_feed_60 : decode cX16_feed 60 = .ok (.getfield 972, 3) := by decide +kernel
theorem dX16_feed_63 : decode cX16_feed 63 = .ok (.dup_x1, 1) := by decide +kernel
theorem dX16_feed_64 : decode cX16_feed 64 = .ok (.iconst 1, 1) := by decide +kernel
theorem dX16_feed_65 : decode cX16_feed 65 = .ok (.iadd, 1) := by decide +kernel
theorem dX16_feed_66 : decode cX16_feed 66 = .ok (.putfield 972, 3) := by decide +kernel
theorem dX16_feed_69 : decode cX16_feed 69 = .ok (.lload_n 1, 1) := by decide +kernel
theorem dX16_feed_70 : decode cX16_feed 70 = .ok (.bipush 8, 2) := by decide +kernel
theorem dX16_feed_72 : decode cX16_feed 72 = .ok (.iload 4, 2) := by decide +kernel
theorem dX16_feed_74 : decode cX16_feed 74 = .ok (.imul, 1) := by decide +kernel
theorem dX16_feed_75 : decode cX16_feed 75 = .ok (.lshr, 1) := by decide +kernel
theorem dX16_feed_76 : decode cX16_feed 76 = .ok (.l2i, 1) := by decide +kernel
theorem dX16_feed_77 : decode cX16_feed 77 = .ok (.i2b, 1) := by decide +kernel
theorem dX16_feed_78 : decode cX16_feed 78 = .ok (.bastore, 1) := by decide +kernel
theorem dX16_feed_79 : decode cX16_feed 79 = .ok (.iinc 4 (-1), 3) := by decide +kernel
theorem dX16_feed_82 : decode cX16_feed 82 = .ok (.goto (-40), 3) := by decide +kernel
theorem dX16_feed_85 : decode cX16_feed 85 = .ok (.aload_n 0, 1) := by decide +kernel
theorem dX16_feed_86 : decode cX16_feed 86 = .ok (.getfield 1, 3) := by decide +kernel
theorem dX16_feed_89 : decode cX16_feed 89 = .ok (.ifCond .le 7, 3) := by decide +kernel
theorem dX16_feed_92 : decode cX16_feed 92 = .ok (.iconst 0, 1) := by decide +kernel
theorem dX16_feed_93 : decode cX16_feed 93 = .ok (.goto 7, 3) := by decide +kernel
theorem dX16_feed_96 : decode cX16_feed 96 = .ok (.aload_n 0, 1) := by decide +kernel
theorem dX16_feed_97 : decode cX16_feed 97 = .ok (.getfield 972, 3) := by decide +kernel
theorem dX16_feed_100 : decode cX16_feed 100 = .ok (.ireturn, 1) := by decide +kernel
set_option maxRecDepth 20000 in
theorem a_X16_feed_100 {Q : Sg → Int → Prop} {X : Sg → String → Prop} (K : MC R p s m args c cX16_feed 5 RX16 D cA tys A n0 s0 1 25 []) (hQ : HQI p l e R s m args below meth c cX16_feed D cA A n0 s0 QM dm ra jx rm Q) (hX : HX p l e R s m args below meth c 5 D cA A n0 s0 QM dm ra jx rm X) : ∀ (σ : Sg) (u0 : Int) (gu0 : rng u0), w_X16_feed_100 ra jx rm Q X σ u0 → RG σ → Shp dm ra jx rm σ → JJ p l e R s m args below meth c 5 D cA A n0 s0 QM σ 100 [(0, .ref rm)] [.int (i32 u0)] := by
  intro σ u0 gu0 h hGσ hS H locs ls hH hl hc
  have B := K.1
  unfold w_X16_feed_100 at h
  exact hQ _ _ _ _ _ _ gu0 dX16_feed_100 hH hc h hGσ hS
set_option maxRecDepth 20000 in
theorem a_X16_feed_96 {Q : Sg → Int → Prop} {X : Sg → String → Prop} (K : MC R p s m args c cX16_feed 5 RX16 D cA tys A n0 s0 1 25 []) (hQ : HQI p l e R s m args below meth c cX16_feed D cA A n0 s0 QM dm ra jx rm Q) (hX : HX p l e R s m args below meth c 5 D cA A n0 s0 QM dm ra jx rm X) : ∀ (σ : Sg), w_X16_feed_96 ra jx rm Q X σ → RG σ → Shp dm ra jx rm σ → JJ p l e R s m args below meth c 5 D cA A n0 s0 QM σ 96 [(0, .ref rm)] [] := by
  intro σ h hGσ hS H locs ls hH hl hc
  have B := K.1
  unfold w_X16_feed_96 at h
  refine lv_aload_n B.1 B.2.1 dX16_feed_96 rfl (lv_at hl 0 rfl) ?_
  refine r_geti B hH hS 3 (by decide) wf_X16_972 rfl rfl dX16_feed_97 ?_
  exact a_X16_feed_100 K hQ hX _ _ (hGσ _ _) h hGσ hS _ _ _ hH (lv_sub (l' := [(0, .ref rm)]) hl [0] rfl) hc
set_option maxRecDepth 20000 in
theorem a_X16_feed_92 {Q : Sg → Int → Prop} {X : Sg → String → Prop} (K : MC R p s m args c cX16_feed 5 RX16 D cA tys A n0 s0 1 25 []) (hQ : HQI p l e R s m args below meth c cX16_feed D cA A n0 s0 QM dm ra jx rm Q) (hX : HX p l e R s m args below meth c 5 D cA A n0 s0 QM dm ra jx rm X) : ∀ (σ : Sg), w_X16_feed_92 ra jx rm Q X σ → RG σ → Shp dm ra jx rm σ → JJ p l e R s m args below meth c 5 D cA A n0 s0 QM σ 92 [(0, .ref rm)] [] := by
  intro σ h hGσ hS H locs ls hH hl hc
  have B := K.1
  unfold w_X16_feed_92 at h
  refine lv_iconst (v := i32 0) B.1 B.2.1 dX16_feed_92 (by decide) ?_
  refine lv_goto (tgt := 100) B.1 B.2.1 dX16_feed_93 (by decide) ?_
  exact a_X16_feed_100 K hQ hX _ _ (by unfold rng; omega) h hGσ hS _ _ _ hH (lv_sub (l' := [(0, .ref rm)]) hl [0] rfl) hc
set_option maxRecDepth 20000 in
theorem a_X16_feed_85 {Q : Sg → Int → Prop} {X : Sg → String → Prop} (K : MC R p s m args c cX16_feed 5 RX16 D cA tys A n0 s0 1 25 []) (hQ : HQI p l e R s m args below meth c cX16_feed D cA A n0 s0 QM dm ra jx rm Q) (hX : HX p l e R s m args below meth c 5 D cA A n0 s0 QM dm ra jx rm X) : ∀ (σ : Sg), w_X16_feed_85 ra jx rm Q X σ → RG σ → Shp dm ra jx rm σ → JJ p l e R s m args below meth c 5 D cA A n0 s0 QM σ 85 [(0, .ref rm)] [] := by
  intro σ h hGσ hS H locs ls hH hl hc
  have B := K.1
  unfold w_X16_feed_85 at h
  refine lv_aload_n B.1 B.2.1 dX16_feed_85 rfl (lv_at hl 0 rfl) ?_
  refine r_geti B hH hS 0 (by decide) wf_X16_1 rfl rfl dX16_feed_86 ?_
  refine lv_if_le (tgt := 96) B.1 B.2.1 dX16_feed_89 (by decide) (fun h9 => ?_) (fun h9 => ?_)
  · rw [if_pos ((z_le (hGσ _ _)).mp h9)] at h
    exact a_X16_feed_96 K hQ hX _ h hGσ hS _ _ _ hH (lv_sub (l' := [(0, .ref rm)]) hl [0] rfl) hc
  · rw [if_neg (fun q => h9 ((z_le (hGσ _ _)).mpr q))] at h
    exact a_X16_feed_92 K hQ hX _ h hGσ hS _ _ _ hH (lv_sub (l' := [(0, .ref rm)]) hl [0] rfl) hc
set_option maxRecDepth 20000 in
theorem a_X16_feed_54 {Q : Sg → Int → Prop} {X : Sg → String → Prop} (K : MC R p s m args c cX16_feed 5 RX16 D cA tys A n0 s0 1 25 []) (hQ : HQI p l e R s m args below meth c cX16_feed D cA A n0 s0 QM dm ra jx rm Q) (hX : HX p l e R s m args below meth c 5 D cA A n0 s0 QM dm ra jx rm X) {K42 : Sg → Int64 → Int → Prop} (hK42 : ∀ (σ : Sg) (v1 : Int64) (v4 : Int) (g4 : rng v4), K42 σ v1 v4 → RG σ → Shp dm ra jx rm σ → JJ p l e R s m args below meth c 5 D cA A n0 s0 QM σ 42 [(0, .ref rm), (1, .long v1), (4, .int (i32 v4))] []) : ∀ (σ : Sg) (v1 : Int64) (v4 : Int) (g4 : rng v4), w_X16_feed_54 ra jx rm K42 Q X σ v1 v4 → RG σ → Shp dm ra jx rm σ → JJ p l e R s m args below meth c 5 D cA A n0 s0 QM σ 54 [(0, .ref rm), (1, .long v1), (4, .int (i32 v4))] [] := by
  intro σ v1 v4 g4 h hGσ hS H locs ls hH hl hc
  have B := K.1
  unfold w_X16_feed_54 at h
  refine lv_aload_n B.1 B.2.1 dX16_feed_54 rfl (lv_at hl 0 rfl) ?_
  refine r_arr B hH hS 2 (kd := 102) (n := 1500) (by decide) (by decide) wf_X16_20 rfl rfl dX16_feed_55 ?_
  refine lv_aload_n B.1 B.2.1 dX16_feed_58 rfl (lv_at hl 0 rfl) ?_
  refine lv_dup B.1 B.2.1 dX16_feed_59 rfl ?_
  refine r_geti B hH hS 3 (by decide) wf_X16_972 rfl rfl dX16_feed_60 ?_
  refine lv_dup_x1 B.1 B.2.1 dX16_feed_63 rfl rfl ?_
  refine lv_iconst (v := i32 1) B.1 B.2.1 dX16_feed_64 (by decide) ?_
  obtain ⟨q1, h⟩ := h
  refine lv_iadd B.1 B.2.1 dX16_feed_65 ?_
  rw [i32_add]
  obtain ⟨σ11, eσ11⟩ : ∃ z, z = pI σ rm 3 (gI σ rm 3 + 1) := ⟨_, rfl⟩
  have h := h σ11 eσ11
  refine r_puti B hH hS 3 (ty := .int) (by decide) wf_X16_972 rfl rfl rfl rfl rfl rfl dX16_feed_66 (fun H locs hH => ?_)
  have hH : Hd D cA A s (pI σ rm 3 (gI σ rm 3 + 1)) H locs := hH
  rw [← eσ11] at hH
  have hGσ11 : RG σ11 := by rw [eσ11]; exact hGσ.pI q1
  have hS : Shp dm ra jx rm σ11 := by rw [eσ11]; exact hS
  have hc : CB n0 s0 σ11 := by rw [eσ11]; exact hc
  rw [show gc σ = gc σ11 by rw [eσ11], show gs σ = gs σ11 by rw [eσ11]]
  refine lv_lload_n B.1 B.2.1 dX16_feed_69 rfl (lv_at hl 1 rfl) ?_
  refine lv_bipush (v := i32 8) B.1 B.2.1 dX16_feed_70 (by decide) ?_
  refine lv_iload B.1 B.2.1 dX16_feed_72 (lv_at hl 2 rfl) ?_
  obtain ⟨q3, h⟩ := h
  refine lv_imul B.1 B.2.1 dX16_feed_74 ?_
  rw [i32_mul]
  refine lv_lshr B.1 B.2.1 dX16_feed_75 rfl ?_
  refine lv_l2i B.1 B.2.1 dX16_feed_76 rfl ?_
  refine W.eq (g2 := F0 m 77 ls [.int (i32 (((v1 >>> ((i32 (8 * v4)).toInt64 &&& 63))).toInt32.toInt)), .int (i32 (gI σ rm 3)), .ref (ra 2)]) (by simp only [i32_self]) ?_
  refine lv_i2b B.1 B.2.1 dX16_feed_77 rfl ?_
  refine W.eq (g2 := F0 m 78 ls [.int (i32 ((i32 (((v1 >>> ((i32 (8 * v4)).toInt64 &&& 63))).toInt32.toInt)).toInt8.toInt32.toInt)), .int (i32 (gI σ rm 3)), .ref (ra 2)]) (by simp only [i32_self]) ?_
  obtain ⟨q4, h⟩ := h
  obtain ⟨σ12, eσ12⟩ : ∃ z, z = pI σ11 (ra 2) (gI σ rm 3).toNat (nB ((i32 (((v1 >>> ((i32 (8 * v4)).toInt64 &&& 63))).toInt32.toInt)).toInt8.toInt32.toInt)) := ⟨_, rfl⟩
  have h := h σ12 eσ12
  refine x_bast B K.2.1 hH (hS.ar (k := 2) (kd := 102) (n := 1500) (by decide)) (by decide) q4 dX16_feed_78 (fun H locs hH => ?_)
  have hH : Hd D cA A s (pI σ11 (ra 2) (gI σ rm 3).toNat (nB ((i32 (((v1 >>> ((i32 (8 * v4)).toInt64 &&& 63))).toInt32.toInt)).toInt8.toInt32.toInt))) H locs := hH
  rw [← eσ12] at hH
  have hGσ12 : RG σ12 := by rw [eσ12]; exact hGσ11.pI (rng_toInt _)
  have hS : Shp dm ra jx rm σ12 := by rw [eσ12]; exact hS
  have hc : CB n0 s0 σ12 := by rw [eσ12]; exact hc
  rw [show gc σ11 = gc σ12 by rw [eσ12], show gs σ11 = gs σ12 by rw [eσ12]]
  obtain ⟨q6, h⟩ := h
  refine lv_iinc (k := 2) (v := i32 (v4 + (-1))) (lv' := [(4, .int (i32 (v4 + (-1)))), (0, .ref rm), (1, .long v1)]) B.1 B.2.1 dX16_feed_79 hl rfl (i32_add _ _) (by decide) rfl (fun ls hl => ?_)
  refine lv_goto (tgt := 42) B.1 B.2.1 dX16_feed_82 (by decide) ?_
  exact hK42 _ _ _ q6 h hGσ12 hS _ _ _ hH (lv_sub (l' := [(0, .ref rm), (1, .long v1), (4, .int (i32 (v4 + (-1))))]) hl [1, 2, 0] rfl) hc
set_option maxRecDepth 20000 in
theorem a_X16_feed_47 {Q : Sg → Int → Prop} {X : Sg → String → Prop} (K : MC R p s m args c cX16_feed 5 RX16 D cA tys A n0 s0 1 25 []) (hQ : HQI p l e R s m args below meth c cX16_feed D cA A n0 s0 QM dm ra jx rm Q) (hX : HX p l e R s m args below meth c 5 D cA A n0 s0 QM dm ra jx rm X) {K42 : Sg → Int64 → Int → Prop} (hK42 : ∀ (σ : Sg) (v1 : Int64) (v4 : Int) (g4 : rng v4), K42 σ v1 v4 → RG σ → Shp dm ra jx rm σ → JJ p l e R s m args below meth c 5 D cA A n0 s0 QM σ 42 [(0, .ref rm), (1, .long v1), (4, .int (i32 v4))] []) : ∀ (σ : Sg) (v1 : Int64) (v4 : Int) (g4 : rng v4), w_X16_feed_47 ra jx rm K42 Q X σ v1 v4 → RG σ → Shp dm ra jx rm σ → JJ p l e R s m args below meth c 5 D cA A n0 s0 QM σ 47 [(0, .ref rm), (1, .long v1), (4, .int (i32 v4))] [] := by
  intro σ v1 v4 g4 h hGσ hS H locs ls hH hl hc
  have B := K.1
  unfold w_X16_feed_47 at h
  refine lv_aload_n B.1 B.2.1 dX16_feed_47 rfl (lv_at hl 0 rfl) ?_
  refine r_geti B hH hS 0 (by decide) wf_X16_1 rfl rfl dX16_feed_48 ?_
  refine lv_if_ne (tgt := 85) B.1 B.2.1 dX16_feed_51 (by decide) (fun h9 => ?_) (fun h9 => ?_)
  · rw [if_pos (fun q => h9 ((z_eq (hGσ _ _)).mpr q))] at h
    exact a_X16_feed_85 K hQ hX _ h hGσ hS _ _ _ hH (lv_sub (l' := [(0, .ref rm)]) hl [0] rfl) hc
  · rw [if_neg (fun q => q ((z_eq (hGσ _ _)).mp h9))] at h
    exact a_X16_feed_54 K hQ hX hK42 _ _ _ g4 h hGσ hS _ _ _ hH (lv_sub (l' := [(0, .ref rm), (1, .long v1), (4, .int (i32 v4))]) hl [0, 1, 2] rfl) hc
set_option maxRecDepth 20000 in
theorem a_X16_feed_42 {Q : Sg → Int → Prop} {X : Sg → String → Prop} (K : MC R p s m args c cX16_feed 5 RX16 D cA tys A n0 s0 1 25 []) (hQ : HQI p l e R s m args below meth c cX16_feed D cA A n0 s0 QM dm ra jx rm Q) (hX : HX p l e R s m args below meth c 5 D cA A n0 s0 QM dm ra jx rm X) {K42 : Sg → Int64 → Int → Prop} (hK42 : ∀ (σ : Sg) (v1 : Int64) (v4 : Int) (g4 : rng v4), K42 σ v1 v4 → RG σ → Shp dm ra jx rm σ → JJ p l e R s m args below meth c 5 D cA A n0 s0 QM σ 42 [(0, .ref rm), (1, .long v1), (4, .int (i32 v4))] []) : ∀ (σ : Sg) (v1 : Int64) (v4 : Int) (g4 : rng v4), w_X16_feed_42 ra jx rm K42 Q X σ v1 v4 → RG σ → Shp dm ra jx rm σ → JJ p l e R s m args below meth c 5 D cA A n0 s0 QM σ 42 [(0, .ref rm), (1, .long v1), (4, .int (i32 v4))] [] := by
  intro σ v1 v4 g4 h hGσ hS H locs ls hH hl hc
  have B := K.1
  unfold w_X16_feed_42 at h
  refine lv_iload B.1 B.2.1 dX16_feed_42 (lv_at hl 2 rfl) ?_
  refine lv_if_lt (tgt := 85) B.1 B.2.1 dX16_feed_44 (by decide) (fun h9 => ?_) (fun h9 => ?_)
  · rw [if_pos ((z_lt g4).mp h9)] at h
    exact a_X16_feed_85 K hQ hX _ h hGσ hS _ _ _ hH (lv_sub (l' := [(0, .ref rm)]) hl [0] rfl) hc
  · rw [if_neg (fun q => h9 ((z_lt g4).mpr q))] at h
    exact a_X16_feed_47 K hQ hX hK42 _ _ _ g4 h hGσ hS _ _ _ hH (lv_sub (l' := [(0, .ref rm), (1, .long v1), (4, .int (i32 v4))]) hl [0, 1, 2] rfl) hc
theorem al_X16_feed_42 {Q : Sg → Int → Prop} {X : Sg → String → Prop} (K : MC R p s m args c cX16_feed 5 RX16 D cA tys A n0 s0 1 25 []) (hQ : HQI p l e R s m args below meth c cX16_feed D cA A n0 s0 QM dm ra jx rm Q) (hX : HX p l e R s m args below meth c 5 D cA A n0 s0 QM dm ra jx rm X) : ∀ (n : Nat), ∀ (σ : Sg) (v1 : Int64) (v4 : Int) (g4 : rng v4), wl_X16_feed_42 ra jx rm Q X n σ v1 v4 → RG σ → Shp dm ra jx rm σ → JJ p l e R s m args below meth c 5 D cA A n0 s0 QM σ 42 [(0, .ref rm), (1, .long v1), (4, .int (i32 v4))] [] := by
  intro n
  induction n with
  | zero => intro σ v1 v4 g4 h; exact h.elim
  | succ n ih => exact fun σ v1 v4 g4 h => a_X16_feed_42 K hQ hX ih σ v1 v4 g4 h
set_option maxRecDepth 20000 in
theorem a_X16_feed_34 {Q : Sg → Int → Prop} {X : Sg → String → Prop} (K : MC R p s m args c cX16_feed 5 RX16 D cA tys A n0 s0 1 25 []) (hQ : HQI p l e R s m args below meth c cX16_feed D cA A n0 s0 QM dm ra jx rm Q) (hX : HX p l e R s m args below meth c 5 D cA A n0 s0 QM dm ra jx rm X) : ∀ (σ : Sg) (v1 : Int64) (v3 : Int) (u0 : Int) (g3 : rng v3) (gu0 : rng u0), w_X16_feed_34 ra jx rm Q X σ v1 v3 u0 → RG σ → Shp dm ra jx rm σ → JJ p l e R s m args below meth c 5 D cA A n0 s0 QM σ 34 [(0, .ref rm), (1, .long v1), (3, .int (i32 v3))] [.int (i32 u0), .ref rm] := by
  intro σ v1 v3 u0 g3 gu0 h hGσ hS H locs ls hH hl hc
  have B := K.1
  unfold w_X16_feed_34 at h
  obtain ⟨σ13, eσ13⟩ : ∃ z, z = pI σ rm 0 u0 := ⟨_, rfl⟩
  have h := h σ13 eσ13
  refine r_puti B hH hS 0 (ty := .int) (by decide) wf_X16_1 rfl rfl rfl rfl rfl rfl dX16_feed_34 (fun H locs hH => ?_)
  have hH : Hd D cA A s (pI σ rm 0 u0) H locs := hH
  rw [← eσ13] at hH
  have hGσ13 : RG σ13 := by rw [eσ13]; exact hGσ.pI gu0
  have hS : Shp dm ra jx rm σ13 := by rw [eσ13]; exact hS
  have hc : CB n0 s0 σ13 := by rw [eσ13]; exact hc
  rw [show gc σ = gc σ13 by rw [eσ13], show gs σ = gs σ13 by rw [eσ13]]
  refine lv_iload_n B.1 B.2.1 dX16_feed_37 rfl (lv_at hl 2 rfl) ?_
  refine lv_iconst (v := i32 1) B.1 B.2.1 dX16_feed_38 (by decide) ?_
  refine lv_isub B.1 B.2.1 dX16_feed_39 ?_
  rw [i32_sub]
  refine W.eq (g2 := F0 m 40 ls [.int (i32 (wr (v3 - 1)))]) (by rw [i32_wr]) ?_
  refine lv_istore (lv' := [(4, .int (i32 (wr (v3 - 1)))), (0, .ref rm), (1, .long v1), (3, .int (i32 v3))]) B.1 B.2.1 dX16_feed_40 hl (by decide) rfl (fun ls hl => ?_)
  obtain ⟨n9, h⟩ := h
  exact al_X16_feed_42 K hQ hX n9 _ _ _ (rng_wr _) h hGσ13 hS _ _ _ hH (lv_sub (l' := [(0, .ref rm), (1, .long v1), (4, .int (i32 (wr (v3 - 1))))]) hl [1, 2, 0] rfl) hc
set_option maxRecDepth 20000 in
theorem a_X16_feed_33 {Q : Sg → Int → Prop} {X : Sg → String → Prop} (K : MC R p s m args c cX16_feed 5 RX16 D cA tys A n0 s0 1 25 []) (hQ : HQI p l e R s m args below meth c cX16_feed D cA A n0 s0 QM dm ra jx rm Q) (hX : HX p l e R s m args below meth c 5 D cA A n0 s0 QM dm ra jx rm X) : ∀ (σ : Sg) (v1 : Int64) (v3 : Int) (g3 : rng v3), w_X16_feed_33 ra jx rm Q X σ v1 v3 → RG σ → Shp dm ra jx rm σ → JJ p l e R s m args below meth c 5 D cA A n0 s0 QM σ 33 [(0, .ref rm), (1, .long v1), (3, .int (i32 v3))] [.ref rm] := by
  intro σ v1 v3 g3 h hGσ hS H locs ls hH hl hc
  have B := K.1
  unfold w_X16_feed_33 at h
  refine lv_iconst (v := i32 0) B.1 B.2.1 dX16_feed_33 (by decide) ?_
  exact a_X16_feed_34 K hQ hX _ _ _ _ g3 (by unfold rng; omega) h hGσ hS _ _ _ hH (lv_sub (l' := [(0, .ref rm), (1, .long v1), (3, .int (i32 v3))]) hl [0, 1, 2] rfl) hc
set_option maxRecDepth 20000 in
theorem a_X16_feed_29 {Q : Sg → Int → Prop} {X : Sg → String → Prop} (K : MC R p s m args c cX16_feed 5 RX16 D cA tys A n0 s0 1 25 []) (hQ : HQI p l e R s m args below meth c cX16_feed D cA A n0 s0 QM dm ra jx rm Q) (hX : HX p l e R s m args below meth c 5 D cA A n0 s0 QM dm ra jx rm X) : ∀ (σ : Sg) (v1 : Int64) (v3 : Int) (g3 : rng v3), w_X16_feed_29 ra jx rm Q X σ v1 v3 → RG σ → Shp dm ra jx rm σ → JJ p l e R s m args below meth c 5 D cA A n0 s0 QM σ 29 [(0, .ref rm), (1, .long v1), (3, .int (i32 v3))] [.ref rm] := by
  intro σ v1 v3 g3 h hGσ hS H locs ls hH hl hc
  have B := K.1
  unfold w_X16_feed_29 at h
  refine lv_iconst (v := i32 2) B.1 B.2.1 dX16_feed_29 (by decide) ?_
  refine lv_goto (tgt := 34) B.1 B.2.1 dX16_feed_30 (by decide) ?_
  exact a_X16_feed_34 K hQ hX _ _ _ _ g3 (by unfold rng; omega) h hGσ hS _ _ _ hH (lv_sub (l' := [(0, .ref rm), (1, .long v1), (3, .int (i32 v3))]) hl [0, 1, 2] rfl) hc
set_option maxRecDepth 20000 in
theorem a_X16_feed_17 {Q : Sg → Int → Prop} {X : Sg → String → Prop} (K : MC R p s m args c cX16_feed 5 RX16 D cA tys A n0 s0 1 25 []) (hQ : HQI p l e R s m args below meth c cX16_feed D cA A n0 s0 QM dm ra jx rm Q) (hX : HX p l e R s m args below meth c 5 D cA A n0 s0 QM dm ra jx rm X) : ∀ (σ : Sg) (v1 : Int64) (v3 : Int) (g3 : rng v3), w_X16_feed_17 ra jx rm Q X σ v1 v3 → RG σ → Shp dm ra jx rm σ → JJ p l e R s m args below meth c 5 D cA A n0 s0 QM σ 17 [(0, .ref rm), (1, .long v1), (3, .int (i32 v3))] [.ref rm] := by
  intro σ v1 v3 g3 h hGσ hS H locs ls hH hl hc
  have B := K.1
  unfold w_X16_feed_17 at h
  refine lv_aload_n B.1 B.2.1 dX16_feed_17 rfl (lv_at hl 0 rfl) ?_
  refine r_geti B hH hS 3 (by decide) wf_X16_972 rfl rfl dX16_feed_18 ?_
  refine lv_iload_n B.1 B.2.1 dX16_feed_21 rfl (lv_at hl 2 rfl) ?_
  obtain ⟨q1, h⟩ := h
  refine lv_iadd B.1 B.2.1 dX16_feed_22 ?_
  rw [i32_add]
  refine lv_sipush (v := i32 1500) B.1 B.2.1 dX16_feed_23 (by decide) ?_
  refine lv_icmp_le (tgt := 33) B.1 B.2.1 dX16_feed_26 (by decide) (fun h9 => ?_) (fun h9 => ?_)
  · rw [if_pos ((i32_le q1 (by unfold rng; omega)).mp h9)] at h
    exact a_X16_feed_33 K hQ hX _ _ _ g3 h hGσ hS _ _ _ hH (lv_sub (l' := [(0, .ref rm), (1, .long v1), (3, .int (i32 v3))]) hl [0, 1, 2] rfl) hc
  · rw [if_neg (fun q => h9 ((i32_le q1 (by unfold rng; omega)).mpr q))] at h
    exact a_X16_feed_29 K hQ hX _ _ _ g3 h hGσ hS _ _ _ hH (lv_sub (l' := [(0, .ref rm), (1, .long v1), (3, .int (i32 v3))]) hl [0, 1, 2] rfl) hc
set_option maxRecDepth 20000 in
theorem a_X16_feed_13 {Q : Sg → Int → Prop} {X : Sg → String → Prop} (K : MC R p s m args c cX16_feed 5 RX16 D cA tys A n0 s0 1 25 []) (hQ : HQI p l e R s m args below meth c cX16_feed D cA A n0 s0 QM dm ra jx rm Q) (hX : HX p l e R s m args below meth c 5 D cA A n0 s0 QM dm ra jx rm X) : ∀ (σ : Sg) (v1 : Int64) (v3 : Int) (g3 : rng v3), w_X16_feed_13 ra jx rm Q X σ v1 v3 → RG σ → Shp dm ra jx rm σ → JJ p l e R s m args below meth c 5 D cA A n0 s0 QM σ 13 [(0, .ref rm), (1, .long v1), (3, .int (i32 v3))] [.ref rm] := by
  intro σ v1 v3 g3 h hGσ hS H locs ls hH hl hc
  have B := K.1
  unfold w_X16_feed_13 at h
  refine lv_iconst (v := i32 1) B.1 B.2.1 dX16_feed_13 (by decide) ?_
  refine lv_goto (tgt := 34) B.1 B.2.1 dX16_feed_14 (by decide) ?_
  exact a_X16_feed_34 K hQ hX _ _ _ _ g3 (by unfold rng; omega) h hGσ hS _ _ _ hH (lv_sub (l' := [(0, .ref rm), (1, .long v1), (3, .int (i32 v3))]) hl [0, 1, 2] rfl) hc
set_option maxRecDepth 20000 in
theorem a_X16_feed_0 {Q : Sg → Int → Prop} {X : Sg → String → Prop} (K : MC R p s m args c cX16_feed 5 RX16 D cA tys A n0 s0 1 25 []) (hQ : HQI p l e R s m args below meth c cX16_feed D cA A n0 s0 QM dm ra jx rm Q) (hX : HX p l e R s m args below meth c 5 D cA A n0 s0 QM dm ra jx rm X) : ∀ (σ : Sg) (v1 : Int64) (v3 : Int) (g3 : rng v3), w_X16_feed_0 ra jx rm Q X σ v1 v3 → RG σ → Shp dm ra jx rm σ → JJ p l e R s m args below meth c 5 D cA A n0 s0 QM σ 0 [(0, .ref rm), (1, .long v1), (3, .int (i32 v3))] [] := by
  intro σ v1 v3 g3 h hGσ hS H locs ls hH hl hc
  have B := K.1
  unfold w_X16_feed_0 at h
  refine lv_aload_n B.1 B.2.1 dX16_feed_0 rfl (lv_at hl 0 rfl) ?_
  refine lv_iload_n B.1 B.2.1 dX16_feed_1 rfl (lv_at hl 2 rfl) ?_
  refine lv_i2l B.1 B.2.1 dX16_feed_2 (i32_i64 g3) ?_
  refine lv_lconst (v := 1) B.1 B.2.1 dX16_feed_3 (by decide) ?_
  refine lv_ldc2 B.1 B.2.1 B.2.2.1 (B.2.2.2.1 _ (wk_X16_250)) dX16_feed_4 ?_
  refine c_S B hH hl hc K.2.2.1 (As := [.long (Int64.ofInt v3), .long 1, .long 8]) (ok_X16_within K.2.1 σ (Int64.ofInt v3) 1 8 hGσ hS h) wc_X16_45 3 hd_X16_within ⟨Nat.le_trans (Nat.le_of_ble_eq_true rfl) K.2.2.2.1, Nat.le_trans (Nat.le_of_ble_eq_true rfl) K.2.2.2.2.1⟩ rfl (rest := [.ref rm]) rfl (Nat.le_of_ble_eq_true rfl) dX16_feed_7 (fun σ14 w hq => ?_) (fun σ9 E9 hx9 => hX σ9 E9 _ _ _ (tb_out K.2.2.2.2.2 rfl) hx9.1 hx9.2.1 hx9.2.2)
  obtain ⟨r15, rfl, ⟨gr15, gzr15⟩, h, hGσ14, hS⟩ := hq
  intro H locs ls hH hl hc
  refine W.eq (g2 := F0 m 10 ls [.int (i32 r15), .ref rm]) (rfl) ?_
  try dsimp only at h
  refine lv_if_ne (tgt := 17) B.1 B.2.1 dX16_feed_10 (by decide) (fun h9 => ?_) (fun h9 => ?_)
  · rw [if_pos (fun q => h9 ((z_eq gr15).mpr q))] at h
    exact a_X16_feed_17 K hQ hX _ _ _ g3 h hGσ14 hS _ _ _ hH (lv_sub (l' := [(0, .ref rm), (1, .long v1), (3, .int (i32 v3))]) hl [0, 1, 2] rfl) hc
  · rw [if_neg (fun q => q ((z_eq gr15).mp h9))] at h
    exact a_X16_feed_13 K hQ hX _ _ _ g3 h hGσ14 hS _ _ _ hH (lv_sub (l' := [(0, .ref rm), (1, .long v1), (3, .int (i32 v3))]) hl [0, 1, 2] rfl) hc
theorem ok_X16_feed (hT : Tys cA tys) {Q : Sg → Int → Prop} {X : Sg → String → Prop} (σ : Sg) (v1 : Int64) (v3 : Int) (g3 : rng v3) (hG : RG σ) (hS : Shp dm ra jx rm σ) (h : wp_X16_feed ra jx rm v1 v3 σ Q X) : Ok l D cA tys A yX16_feed (.code yX16_feed cX16_feed 5 (some .int)) 1 25 [.ref rm, .long v1, .int (i32 v3)] σ (QnI dm ra jx rm Q) (QxR dm ra jx rm X) := by
  unfold wp_X16_feed at h
  exact ok_I (plainFor_of_name (by decide)) (by exact Nat.le_of_ble_eq_true rfl) hT (fun p e R s m args below meth c K hQ hX H locs ls hH hl hc => a_X16_feed_0 K hQ hX σ v1 v3 g3 h hG hS H locs ls hH (lv_sub (l' := [(0, .ref rm), (1, .long v1), (3, .int (i32 v3))]) hl [0, 1, 2] rfl) hc)
theorem dX16_firstChannel_0 : decode cX16_firstChannel 0 = .ok (.iconst 0, 1) := by decide +kernel
theorem dX16_firstChannel_1 : decode cX16_firstChannel 1 = .ok (.istore_n 2, 1) := by decide +kernel
theorem dX16_firstChannel_2 : decode cX16_firstChannel 2 = .ok (.iload_n 2, 1) := by decide +kernel
theorem dX16_firstChannel_3 : decode cX16_firstChannel 3 = .ok (.aload_n 0, 1) := by decide +kernel
theorem dX16_firstChannel_4 : decode cX16_firstChannel 4 = .ok (.getfield 371, 3) := by decide +kernel
theorem dX16_firstChannel_7 : decode cX16_firstChannel 7 = .ok (.if_icmp .ge 19, 3) := by decide +kernel
theorem dX16_firstChannel_10 : decode cX16_firstChannel 10 = .ok (.aload_n 0, 1) := by decide +kernel
theorem dX16_firstChannel_11 : decode cX16_firstChannel 11 = .ok (.getfield 374, 3) := by decide +kernel
theorem dX16_firstChannel_14 : decode cX16_firstChannel 14 = .ok (.iload_n 2, 1) := by decide +kernel
theorem dX16_firstChannel_15 : decode cX16_firstChannel 15 = .ok (.iaload, 1) := by decide +kernel
theorem dX16_firstChannel_16 : decode cX16_firstChannel 16 = .ok (.iload_n 1, 1) := by decide +kernel
theorem dX16_firstChannel_17 : decode cX16_firstChannel 17 = .ok (.if_icmp .eq 9, 3) := by decide +kernel
theorem dX16_firstChannel_20 : decode cX16_firstChannel 20 = .ok (.iinc 2 1, 3) := by decide +kernel
theorem dX16_firstChannel_23 : decode cX16_firstChannel 23 = .ok (.goto (-21), 3) := by decide +kernel
theorem dX16_firstChannel_26 : decode cX16_firstChannel 26 = .ok (.iload_n 2, 1) := by decide +kernel
theorem dX16_firstChannel_27 : decode cX16_firstChannel 27 = .ok (.ireturn, 1) := by decide +kernel
set_option maxRecDepth 20000 in
theorem a_X16_firstChannel_26 {Q : Sg → Int → Prop} {X : Sg → String → Prop} (K : MC R p s m args c cX16_firstChannel 3 RX16 D cA tys A n0 s0 0 0 []) (hQ : HQI p l e R s m args below meth c cX16_firstChannel D cA A n0 s0 QM dm ra jx rm Q) (hX : HX p l e R s m args below meth c 3 D cA A n0 s0 QM dm ra jx rm X) : ∀ (σ : Sg) (v2 : Int) (g2 : rng v2), w_X16_firstChannel_26 ra jx rm Q X σ v2 → RG σ → Shp dm ra jx rm σ → JJ p l e R s m args below meth c 3 D cA A n0 s0 QM σ 26 [(0, .ref rm), (2, .int (i32 v2))] [] := by
  intro σ v2 g2 h hGσ hS H locs ls hH hl hc
  have B := K.1
  unfold w_X16_firstChannel_26 at h
  refine lv_iload_n B.1 B.2.1 dX16_firstChannel_26 rfl (lv_at hl 1 rfl) ?_
  exact hQ _ _ _ _ _ _ g2 dX16_firstChannel_27 hH hc h hGσ hS
set_option maxRecDepth 20000 in
theorem a_X16_firstChannel_20 {Q : Sg → Int → Prop} {X : Sg → String → Prop} (K : MC R p s m args c cX16_firstChannel 3 RX16 D cA tys A n0 s0 0 0 []) (hQ : HQI p l e R s m args below meth c cX16_firstChannel D cA A n0 s0 QM dm ra jx rm Q) (hX : HX p l e R s m args below meth c 3 D cA A n0 s0 QM dm ra jx rm X) {K2 : Sg → Int → Int → Prop} (hK2 : ∀ (σ : Sg) (v1 : Int) (v2 : Int) (g1 : rng v1) (g2 : rng v2), K2 σ v1 v2 → RG σ → Shp dm ra jx rm σ → JJ p l e R s m args below meth c 3 D cA A n0 s0 QM σ 2 [(0, .ref rm), (1, .int (i32 v1)), (2, .int (i32 v2))] []) : ∀ (σ : Sg) (v1 : Int) (v2 : Int) (g1 : rng v1) (g2 : rng v2), w_X16_firstChannel_20 ra jx rm K2 Q X σ v1 v2 → RG σ → Shp dm ra jx rm σ → JJ p l e R s m args below meth c 3 D cA A n0 s0 QM σ 20 [(0, .ref rm), (1, .int (i32 v1)), (2, .int (i32 v2))] [] := by
  intro σ v1 v2 g1 g2 h hGσ hS H locs ls hH hl hc
  have B := K.1
  unfold w_X16_firstChannel_20 at h
  obtain ⟨q1, h⟩ := h
  refine lv_iinc (k := 2) (v := i32 (v2 + 1)) (lv' := [(2, .int (i32 (v2 + 1))), (0, .ref rm), (1, .int (i32 v1))]) B.1 B.2.1 dX16_firstChannel_20 hl rfl (i32_add _ _) (by decide) rfl (fun ls hl => ?_)
  refine lv_goto (tgt := 2) B.1 B.2.1 dX16_firstChannel_23 (by decide) ?_
  exact hK2 _ _ _ g1 q1 h hGσ hS _ _ _ hH (lv_sub (l' := [(0, .ref rm), (1, .int (i32 v1)), (2, .int (i32 (v2 + 1)))]) hl [1, 2, 0] rfl) hc
set_option maxRecDepth 20000 in
theorem a_X16_firstChannel_10 {Q : Sg → Int → Prop} {X : Sg → String → Prop} (K : MC R p s m args c cX16_firstChannel 3 RX16 D cA tys A n0 s0 0 0 []) (hQ : HQI p l e R s m args below meth c cX16_firstChannel D cA A n0 s0 QM dm ra jx rm Q) (hX : HX p l e R s m args below meth c 3 D cA A n0 s0 QM dm ra jx rm X) {K2 : Sg → Int → Int → Prop} (hK2 : ∀ (σ : Sg) (v1 : Int) (v2 : Int) (g1 : rng v1) (g2 : rng v2), K2 σ v1 v2 → RG σ → Shp dm ra jx rm σ → JJ p l e R s m args below meth c 3 D cA A n0 s0 QM σ 2 [(0, .ref rm), (1, .int (i32 v1)), (2, .int (i32 v2))] []) : ∀ (σ : Sg) (v1 : Int) (v2 : Int) (g1 : rng v1) (g2 : rng v2), w_X16_firstChannel_10 ra jx rm K2 Q X σ v1 v2 → RG σ → Shp dm ra jx rm σ → JJ p l e R s m args below meth c 3 D cA A n0 s0 QM σ 10 [(0, .ref rm), (1, .int (i32 v1)), (2, .int (i32 v2))] [] := by
  intro σ v1 v2 g1 g2 h hGσ hS H locs ls hH hl hc
  have B := K.1
  unfold w_X16_firstChannel_10 at h
  refine lv_aload_n B.1 B.2.1 dX16_firstChannel_10 rfl (lv_at hl 0 rfl) ?_
  refine r_arr B hH hS 52 (kd := 100) (n := 1100) (by decide) (by decide) wf_X16_374 rfl rfl dX16_firstChannel_11 ?_
  refine lv_iload_n B.1 B.2.1 dX16_firstChannel_14 rfl (lv_at hl 2 rfl) ?_
  obtain ⟨q1, h⟩ := h
  refine x_iald B K.2.1 hH (hS.ar (k := 52) (kd := 100) (n := 1100) (by decide)) (by decide) q1 dX16_firstChannel_15 ?_
  refine lv_iload_n B.1 B.2.1 dX16_firstChannel_16 rfl (lv_at hl 1 rfl) ?_
  refine lv_icmp_eq (tgt := 26) B.1 B.2.1 dX16_firstChannel_17 (by decide) (fun h9 => ?_) (fun h9 => ?_)
  · rw [if_pos ((i32_eq (hGσ _ _) g1).mp h9)] at h
    exact a_X16_firstChannel_26 K hQ hX _ _ g2 h hGσ hS _ _ _ hH (lv_sub (l' := [(0, .ref rm), (2, .int (i32 v2))]) hl [0, 2] rfl) hc
  · rw [if_neg (fun q => h9 ((i32_eq (hGσ _ _) g1).mpr q))] at h
    exact a_X16_firstChannel_20 K hQ hX hK2 _ _ _ g1 g2 h hGσ hS _ _ _ hH (lv_sub (l' := [(0, .ref rm), (1, .int (i32 v1)), (2, .int (i32 v2))]) hl [0, 1, 2] rfl) hc
set_option maxRecDepth 20000 in
theorem a_X16_firstChannel_2 {Q : Sg → Int → Prop} {X : Sg → String → Prop} (K : MC R p s m args c cX16_firstChannel 3 RX16 D cA tys A n0 s0 0 0 []) (hQ : HQI p l e R s m args below meth c cX16_firstChannel D cA A n0 s0 QM dm ra jx rm Q) (hX : HX p l e R s m args below meth c 3 D cA A n0 s0 QM dm ra jx rm X) {K2 : Sg → Int → Int → Prop} (hK2 : ∀ (σ : Sg) (v1 : Int) (v2 : Int) (g1 : rng v1) (g2 : rng v2), K2 σ v1 v2 → RG σ → Shp dm ra jx rm σ → JJ p l e R s m args below meth c 3 D cA A n0 s0 QM σ 2 [(0, .ref rm), (1, .int (i32 v1)), (2, .int (i32 v2))] []) : ∀ (σ : Sg) (v1 : Int) (v2 : Int) (g1 : rng v1) (g2 : rng v2), w_X16_firstChannel_2 ra jx rm K2 Q X σ v1 v2 → RG σ → Shp dm ra jx rm σ → JJ p l e R s m args below meth c 3 D cA A n0 s0 QM σ 2 [(0, .ref rm), (1, .int (i32 v1)), (2, .int (i32 v2))] [] := by
  intro σ v1 v2 g1 g2 h hGσ hS H locs ls hH hl hc
  have B := K.1
  unfold w_X16_firstChannel_2 at h
  refine lv_iload_n B.1 B.2.1 dX16_firstChannel_2 rfl (lv_at hl 2 rfl) ?_
  refine lv_aload_n B.1 B.2.1 dX16_firstChannel_3 rfl (lv_at hl 0 rfl) ?_
  refine r_geti B hH hS 50 (by decide) wf_X16_371 rfl rfl dX16_firstChannel_4 ?_
  refine lv_icmp_ge (tgt := 26) B.1 B.2.1 dX16_firstChannel_7 (by decide) (fun h9 => ?_) (fun h9 => ?_)
  · rw [if_pos ((i32_le (hGσ _ _) g2).mp h9)] at h
    exact a_X16_firstChannel_26 K hQ hX _ _ g2 h hGσ hS _ _ _ hH (lv_sub (l' := [(0, .ref rm), (2, .int (i32 v2))]) hl [0, 2] rfl) hc
  · rw [if_neg (fun q => h9 ((i32_le (hGσ _ _) g2).mpr q))] at h
    exact a_X16_firstChannel_10 K hQ hX hK2 _ _ _ g1 g2 h hGσ hS _ _ _ hH (lv_sub (l' := [(0, .ref rm), (1, .int (i32 v1)), (2, .int (i32 v2))]) hl [0, 1, 2] rfl) hc
theorem al_X16_firstChannel_2 {Q : Sg → Int → Prop} {X : Sg → String → Prop} (K : MC R p s m args c cX16_firstChannel 3 RX16 D cA tys A n0 s0 0 0 []) (hQ : HQI p l e R s m args below meth c cX16_firstChannel D cA A n0 s0 QM dm ra jx rm Q) (hX : HX p l e R s m args below meth c 3 D cA A n0 s0 QM dm ra jx rm X) : ∀ (n : Nat), ∀ (σ : Sg) (v1 : Int) (v2 : Int) (g1 : rng v1) (g2 : rng v2), wl_X16_firstChannel_2 ra jx rm Q X n σ v1 v2 → RG σ → Shp dm ra jx rm σ → JJ p l e R s m args below meth c 3 D cA A n0 s0 QM σ 2 [(0, .ref rm), (1, .int (i32 v1)), (2, .int (i32 v2))] [] := by
  intro n
  induction n with
  | zero => intro σ v1 v2 g1 g2 h; exact h.elim
  | succ n ih => exact fun σ v1 v2 g1 g2 h => a_X16_firstChannel_2 K hQ hX ih σ v1 v2 g1 g2 h
set_option maxRecDepth 20000 in
theorem a_X16_firstChannel_0 {Q : Sg → Int → Prop} {X : Sg → String → Prop} (K : MC R p s m args c cX16_firstChannel 3 RX16 D cA tys A n0 s0 0 0 []) (hQ : HQI p l e R s m args below meth c cX16_firstChannel D cA A n0 s0 QM dm ra jx rm Q) (hX : HX p l e R s m args below meth c 3 D cA A n0 s0 QM dm ra jx rm X) : ∀ (σ : Sg) (v1 : Int) (g1 : rng v1), w_X16_firstChannel_0 ra jx rm Q X σ v1 → RG σ → Shp dm ra jx rm σ → JJ p l e R s m args below meth c 3 D cA A n0 s0 QM σ 0 [(0, .ref rm), (1, .int (i32 v1))] [] := by
  intro σ v1 g1 h hGσ hS H locs ls hH hl hc
  have B := K.1
  unfold w_X16_firstChannel_0 at h
  refine lv_iconst (v := i32 0) B.1 B.2.1 dX16_firstChannel_0 (by decide) ?_
  refine lv_istore_n (lv' := [(2, .int (i32 0)), (0, .ref rm), (1, .int (i32 v1))]) B.1 B.2.1 dX16_firstChannel_1 rfl hl (by decide) rfl (fun ls hl => ?_)
  obtain ⟨n9, h⟩ := h
  exact al_X16_firstChannel_2 K hQ hX n9 _ _ _ g1 (by unfold rng; omega) h hGσ hS _ _ _ hH (lv_sub (l' := [(0, .ref rm), (1, .int (i32 v1)), (2, .int (i32 0))]) hl [1, 2, 0] rfl) hc
theorem ok_X16_firstChannel (hT : Tys cA tys) {Q : Sg → Int → Prop} {X : Sg → String → Prop} (σ : Sg) (v1 : Int) (g1 : rng v1) (hG : RG σ) (hS : Shp dm ra jx rm σ) (h : wp_X16_firstChannel ra jx rm v1 σ Q X) : Ok l D cA tys A yX16_firstChannel (.code yX16_firstChannel cX16_firstChannel 3 (some .int)) 0 0 [.ref rm, .int (i32 v1)] σ (QnI dm ra jx rm Q) (QxR dm ra jx rm X) := by
  unfold wp_X16_firstChannel at h
  exact ok_I (plainFor_of_name (by decide)) (by exact Nat.le_of_ble_eq_true rfl) hT (fun p e R s m args below meth c K hQ hX H locs ls hH hl hc => a_X16_firstChannel_0 K hQ hX σ v1 g1 h hG hS H locs ls hH (lv_sub (l' := [(0, .ref rm), (1, .int (i32 v1))]) hl [0, 1] rfl) hc)
theorem dX16_flush_0 : decode cX16_flush 0 = .ok (.aload_n 0, 1) := by decide +kernel
theorem dX16_flush_1 : decode cX16_flush 1 = .ok (.getfield 435, 3) := by decide +kernel
theorem dX16_flush_4 : decode cX16_flush 4 = .ok (.iload_n 1, 1) := by decide +kernel
theorem dX16_flush_5 : decode cX16_flush 5 = .ok (.iaload, 1) := by decide +kernel
theorem dX16_flush_6 : decode cX16_flush 6 = .ok (.iconst (-1), 1) := by decide +kernel
theorem dX16_flush_7 : decode cX16_flush 7 = .ok (.if_icmp .eq 153, 3) := by decide +kernel
theorem dX16_flush_10 : decode cX16_flush 10 = .ok (.aload_n 0, 1) := by decide +kernel
theorem dX16_flush_11 : decode cX16_flush 11 = .ok (.getfield 435, 3) := by decide +kernel
theorem dX16_flush_14 : decode cX16_flush 14 = .ok (.iload_n 1, 1) := by decide +kernel
theorem dX16_flush_15 : decode cX16_flush 15 = .ok (.iaload, 1) := by decide +kernel
theorem dX16_flush_16 : decode cX16_flush 16 = .ok (.istore_n 2, 1) := by decide +kernel
theorem dX16_flush_17 : decode cX16_flush 17 = .ok (.aload_n 0, 1) := by decide +kernel
theorem dX16_flush_18 : decode cX16_flush 18 = .ok (.getfield 479, 3) := by decide +kernel
theorem dX16_flush_21 : decode cX16_flush 21 = .ok (.iload_n 2, 1) := by decide +kernel
theorem dX16_flush_22 : decode cX16_flush 22 = .ok (.iaload, 1) := by decide +kernel
theorem dX16_flush_23 : decode cX16_flush 23 = .ok (.istore_n 3, 1) := by decide +kernel
theorem dX16_flush_24 : decode cX16_flush 24 = .ok (.aload_n 0, 1) := by decide +kernel
theorem dX16_flush_25 : decode cX16_flush 25 = .ok (.getfield 447, 3) := by decide +kernel
theorem dX16_flush_28 : decode cX16_flush 28 = .ok (.iload_n 3, 1) := by decide +kernel
theorem dX16_flush_29 : decode cX16_flush 29 = .ok (.iaload, 1) := by decide +kernel
theorem dX16_flush_30 : decode cX16_flush 30 = .ok (.aload_n 0, 1) := by decide +kernel
theorem dX16_flush_31 : decode cX16_flush 31 = .ok (.getfield 489, 3) := by decide +kernel
theorem dX16_flush_34 : decode cX16_flush 34 = .ok (.if_icmp .ne 5, 3) := by decide +kernel
theorem dX16_flush_37 : decode cX16_flush 37 = .ok (.iconst 1, 1) := by decide +kernel
theorem dX16_flush_38 : decode cX16_flush 38 = .ok (.ireturn, 1) := by decide +kernel
theorem dX16_flush_39 : decode cX16_flush 39 = .ok (.aload_n 0, 1) := by decide +kernel
theorem dX16_flush_40 : decode cX16_flush 40 = .ok (.getfield 492, 3) := by decide +kernel
theorem dX16_flush_43 : decode cX16_flush 43 = .ok (.bipush 8, 2) := by decide +kernel
theorem dX16_flush_45 : decode cX16_flush 45 = .ok (.iload_n 3, 1) := by decide +kernel
theorem dX16_flush_46 : decode cX16_flush 46 = .ok (.imul, 1) := by decide +kernel
theorem dX16_flush_47 : decode cX16_flush 47 = .ok (.aload_n 0, 1) := by decide +kernel
theorem dX16_flush_48 : decode cX16_flush 48 = .ok (.getfield 450, 3) := by decide +kernel
theorem dX16_flush_51 : decode cX16_flush 51 = .ok (.iload_n 3, 1) := by decide +kernel
theorem dX16_flush_52 : decode cX16_flush 52 = .ok (.iaload, 1) := by decide +kernel
theorem dX16_flush_53 : decode cX16_flush 53 = .ok (.aload_n 0, 1) := by decide +kernel
theorem dX16_flush_54 : decode cX16_flush 54 = .ok (.getfield 447, 3) := by decide +kernel
theorem dX16_flush_57 : decode cX16_flush 57 = .ok (.iload_n 3, 1) := by decide +kernel
theorem dX16_flush_58 : decode cX16_flush 58 = .ok (.iaload, 1) := by decide +kernel
theorem dX16_flush_59 : decode cX16_flush 59 = .ok (.iadd, 1) := by decide +kernel
theorem dX16_flush_60 : decode cX16_flush 60 = .ok (.bipush 8, 2) := by decide +kernel
theorem dX16_flush_62 : decode cX16_flush 62 = .ok (.irem, 1) := by decide +kernel
theorem dX16_flush_63 : decode cX16_flush 63 = .ok (.iadd, 1) := by decide +kernel
theorem dX16_flush_64 : decode cX16_flush 64 = .ok (.iload_n 2, 1) := by decide +kernel
theorem dX16_flush_65 : decode cX16_flush 65 = .ok (.iastore, 1) := by decide +kernel
theorem dX16_flush_66 : decode cX16_flush 66 = .ok (.aload_n 0, 1) := by decide +kernel
theorem dX16_flush_67 : decode cX16_flush 67 = .ok (.getfield 447, 3) := by decide +kernel
theorem dX16_flush_70 : decode cX16_flush 70 = .ok (.iload_n 3, 1) := by decide +kernel
theorem dX16_flush_71 : decode cX16_flush 71 = .ok (.dup2, 1) := by decide +kernel
theorem dX16_flush_72 : decode cX16_flush 72 = .ok (.iaload, 1) := by decide +kernel
theorem dX16_flush_73 : decode cX16_flush 73 = .ok (.iconst 1, 1) := by decide +kernel
theorem dX16_flush_74 : decode cX16_flush 74 = .ok (.iadd, 1) := by decide +kernel
theorem dX16_flush_75 : decode cX16_flush 75 = .ok (.iastore, 1) := by decide +kernel
theorem dX16_flush_76 : decode cX16_flush 76 = .ok (.aload_n 0, 1) := by decide +kernel
theorem dX16_flush_77 : decode cX16_flush 77 = .ok (.getfield 459, 3) := by decide +kernel
theorem dX16_flush_80 : decode cX16_flush 80 = .ok (.iload_n 3, 1) := by decide +kernel
theorem dX16_flush_81 : decode cX16_flush 81 = .ok (.dup2, 1) := by decide +kernel
theorem dX16_flush_82 : decode cX16_flush 82 = .ok (.laload, 1) := by decide +kernel
theorem dX16_flush_83 : decode cX16_flush 83 = .ok (.aload_n 0, 1) := by decide +kernel
theorem dX16_flush_84 : decode cX16_flush 84 = .ok (.getfield 467, 3) := by decide +kernel
theorem dX16_flush_87 : decode cX16_flush 87 = .ok (.iload_n 2, 1) := by decide +kernel
theorem dX16_flush_88 : decode cX16_flush 88 = .ok (.iaload, 1) := by decide +kernel
theorem dX16_flush_89 : decode cX16_flush 89 = .ok (.ifCond .ne 7, 3) := by decide +kernel
theorem dX16_flush_92 : decode cX16_flush 92 = .ok (.lconst 1, 1) := by decide +kernel
theorem dX16_flush_93 : decode cX16_flush 93 = .ok (.goto 4, 3) := by decide +kernel
theorem dX16_flush_96 : decode cX16_flush 96 = .ok (.lconst 0, 1) := by decide +kernel
theorem dX16_flush_97 : decode cX16_flush 97 = .ok (.ladd, 1) := by decide +kernel
theorem dX16_flush_98 : decode cX16_flush 98 = .ok (.lastore, 1) := by decide +kernel
theorem dX16_flush_99 : decode cX16_flush 99 = .ok (.aload_n 0, 1) := by decide +kernel
theorem dX16_flush_100 : decode cX16_flush 100 = .ok (.getfield 435, 3) := by decide +kernel
theorem dX16_flush_103 : decode cX16_flush 103 = .ok (.iload_n 1, 1) := by decide +kernel
theorem dX16_flush_104 : decode cX16_flush 104 = .ok (.aload_n 0, 1) := by decide +kernel
theorem dX16_flush_105 : decode cX16_flush 105 = .ok (.getfield 405, 3) := by decide +kernel
theorem dX16_flush_108 : decode cX16_flush 108 = .ok (.iload_n 2, 1) := by decide +kernel
theorem dX16_flush_109 : decode cX16_flush 109 = .ok (.iaload, 1) := by decide +kernel
theorem dX16_flush_110 : decode cX16_flush 110 = .ok (.iastore, 1) := by decide +kernel
theorem dX16_flush_111 : decode cX16_flush 111 = .ok (.aload_n 0, 1) := by decide +kernel
theorem dX16_flush_112 : decode cX16_flush 112 = .ok (.getfield 438, 3) := by decide +kernel
theorem dX16_flush_115 : decode cX16_flush 115 = .ok (.iload_n 1, 1) := by decide +kernel
theorem dX16_flush_116 : decode cX16_flush 116 = .ok (.aload_n 0, 1) := by decide +kernel
theorem dX16_flush_117 : decode cX16_flush 117 = .ok (.getfield 435, 3) := by decide +kernel
theorem dX16_flush_120 : decode cX16_flush 120 = .ok (.iload_n 1, 1) := by decide +kernel
theorem dX16_flush_121 : decode cX16_flush 121 = .ok (.iaload, 1) := by decide +kernel
theorem dX16_flush_122 : decode cX16_flush 122 = .ok (.iconst (-1), 1) := by decide +kernel
theorem dX16_flush_123 : decode cX16_flush 123 = .ok (.if_icmp .ne 7, 3) := by decide +kernel
theorem dX16_flush_126 : decode cX16_flush 126 = .ok (.iconst (-1), 1) := by decide +kernel
theorem dX16_flush_127 : decode cX16_flush 127 = .ok (.goto 9, 3) := by decide +kernel
theorem dX16_flush_130 : decode cX16_flush 130 = .ok (.aload_n 0, 1) := by decide +kernel
theorem dX16_flush_131 : decode cX16_flush 131 = .ok (.getfield 438, 3) := by decide +kernel
theorem dX16_flush_134 : decode cX16_flush 134 = .ok (.iload_n 1, 1) := by decide +kernel
theorem dX16_flush_135 : decode cX16_flush 135 = .ok (.iaload, 1) := by decide +kernel
theorem dX16_flush_136 : decode cX16_flush 136 = .ok (.iastore, 1) := by decide +kernel
theorem dX16_flush_137 : decode cX16_flush 137 = .ok (.aload_n 0, 1) := by decide +kernel
theorem dX16_flush_138 : decode cX16_flush 138 = .ok (.getfield 441, 3) := by decide +kernel
theorem dX16_flush_141 : decode cX16_flush 141 = .ok (.iload_n 1, 1) := by decide +kernel
theorem dX16_flush_142 : decode cX16_flush 142 = .ok (.dup2, 1) := by decide +kernel
theorem dX16_flush_143 : decode cX16_flush 143 = .ok (.iaload, 1) := by decide +kernel
theorem dX16_flush_144 : decode cX16_flush 144 = .ok (.iconst 1, 1) := by decide +kernel
theorem dX16_flush_145 : decode cX16_flush 145 = .ok (.isub, 1) := by decide +kernel
theorem dX16_flush_146 : decode cX16_flush 146 = .ok (.iastore, 1) := by decide +kernel
theorem dX16_flush_147 : decode cX16_flush 147 = .ok (.aload_n 0, 1) := by decide +kernel
theorem dX16_flush_148 : decode cX16_flush 148 = .ok (.dup, 1) := by decide +kernel
theorem dX16_flush_149 : decode cX16_flush 149 = .ok (.getfield 411, 3) := by decide +kernel
theorem dX16_flush_152 : decode cX16_flush 152 = .ok (.iconst 1, 1) := by decide +kernel
theorem dX16_flush_153 : decode cX16_flush 153 = .ok (.isub, 1) := by decide +kernel
theorem dX16_flush_154 : decode cX16_flush 154 = .ok (.putfield 411, 3) := by decide +kernel
theorem dX16_flush_157 : decode cX16_flush 157 = .ok (.goto (-157), 3) := by decide +kernel
theorem dX16_flush_160 : decode cX16_flush 160 = .ok (.iconst 0, 1) := by decide +kernel
theorem dX16_flush_161 : decode cX16_flush 161 = .ok (.ireturn, 1) := by decide +kernel
set_option maxRecDepth 20000 in
theorem a_X16_flush_160 {Q : Sg → Int → Prop} {X : Sg → String → Prop} (K : MC R p s m args c cX16_flush 4 RX16 D cA tys A n0 s0 0 0 []) (hQ : HQZ p l e R s m args below meth c cX16_flush D cA A n0 s0 QM dm ra jx rm Q) (hX : HX p l e R s m args below meth c 4 D cA A n0 s0 QM dm ra jx rm X) : ∀ (σ : Sg), w_X16_flush_160 ra jx rm Q X σ → RG σ → Shp dm ra jx rm σ → JJ p l e R s m args below meth c 4 D cA A n0 s0 QM σ 160 [(0, .ref rm)] [] := by
  intro σ h hGσ hS H locs ls hH hl hc
  have B := K.1
  unfold w_X16_flush_160 at h
  refine lv_iconst (v := i32 0) B.1 B.2.1 dX16_flush_160 (by decide) ?_
  exact hQ _ _ _ _ _ _ (by unfold rng; omega) (Or.inl rfl) dX16_flush_161 hH hc h hGσ hS
set_option maxRecDepth 20000 in
theorem a_X16_flush_136 {Q : Sg → Int → Prop} {X : Sg → String → Prop} (K : MC R p s m args c cX16_flush 4 RX16 D cA tys A n0 s0 0 0 []) (hQ : HQZ p l e R s m args below meth c cX16_flush D cA A n0 s0 QM dm ra jx rm Q) (hX : HX p l e R s m args below meth c 4 D cA A n0 s0 QM dm ra jx rm X) {K0 : Sg → Int → Prop} (hK0 : ∀ (σ : Sg) (v1 : Int) (g1 : rng v1), K0 σ v1 → RG σ → Shp dm ra jx rm σ → JJ p l e R s m args below meth c 4 D cA A n0 s0 QM σ 0 [(0, .ref rm), (1, .int (i32 v1))] []) : ∀ (σ : Sg) (v1 : Int) (u0 : Int) (u1 : Int) (g1 : rng v1) (gu0 : rng u0) (gu1 : rng u1), w_X16_flush_136 ra jx rm K0 Q X σ v1 u0 u1 → RG σ → Shp dm ra jx rm σ → JJ p l e R s m args below meth c 4 D cA A n0 s0 QM σ 136 [(0, .ref rm), (1, .int (i32 v1))] [.int (i32 u0), .int (i32 u1), .ref (ra 47)] := by
  intro σ v1 u0 u1 g1 gu0 gu1 h hGσ hS H locs ls hH hl hc
  have B := K.1
  unfold w_X16_flush_136 at h
  obtain ⟨q1, h⟩ := h
  obtain ⟨σ15, eσ15⟩ : ∃ z, z = pI σ (ra 47) u1.toNat u0 := ⟨_, rfl⟩
  have h := h σ15 eσ15
  refine x_iast B K.2.1 hH (hS.ar (k := 47) (kd := 100) (n := 64) (by decide)) (by decide) q1 dX16_flush_136 (fun H locs hH => ?_)
  have hH : Hd D cA A s (pI σ (ra 47) u1.toNat u0) H locs := hH
  rw [← eσ15] at hH
  have hGσ15 : RG σ15 := by rw [eσ15]; exact hGσ.pI gu0
  have hS : Shp dm ra jx rm σ15 := by rw [eσ15]; exact hS
  have hc : CB n0 s0 σ15 := by rw [eσ15]; exact hc
  rw [show gc σ = gc σ15 by rw [eσ15], show gs σ = gs σ15 by rw [eσ15]]
  refine lv_aload_n B.1 B.2.1 dX16_flush_137 rfl (lv_at hl 0 rfl) ?_
  refine r_arr B hH hS 48 (kd := 100) (n := 64) (by decide) (by decide) wf_X16_441 rfl rfl dX16_flush_138 ?_
  refine lv_iload_n B.1 B.2.1 dX16_flush_141 rfl (lv_at hl 1 rfl) ?_
  refine lv_dup2_11 B.1 B.2.1 dX16_flush_142 rfl rfl ?_
  obtain ⟨q3, h⟩ := h
  refine x_iald B K.2.1 hH (hS.ar (k := 48) (kd := 100) (n := 64) (by decide)) (by decide) q3 dX16_flush_143 ?_
  refine lv_iconst (v := i32 1) B.1 B.2.1 dX16_flush_144 (by decide) ?_
  refine lv_isub B.1 B.2.1 dX16_flush_145 ?_
  rw [i32_sub]
  refine W.eq (g2 := F0 m 146 ls [.int (i32 (wr ((gI σ15 (ra 48) v1.toNat) - 1))), .int (i32 v1), .ref (ra 48)]) (by rw [i32_wr]) ?_
  obtain ⟨q4, h⟩ := h
  obtain ⟨σ16, eσ16⟩ : ∃ z, z = pI σ15 (ra 48) v1.toNat (wr ((gI σ15 (ra 48) v1.toNat) - 1)) := ⟨_, rfl⟩
  have h := h σ16 eσ16
  refine x_iast B K.2.1 hH (hS.ar (k := 48) (kd := 100) (n := 64) (by decide)) (by decide) q4 dX16_flush_146 (fun H locs hH => ?_)
  have hH : Hd D cA A s (pI σ15 (ra 48) v1.toNat (wr ((gI σ15 (ra 48) v1.toNat) - 1))) H locs := hH
  rw [← eσ16] at hH
  have hGσ16 : RG σ16 := by rw [eσ16]; exact hGσ15.pI (rng_wr _)
  have hS : Shp dm ra jx rm σ16 := by rw [eσ16]; exact hS
  have hc : CB n0 s0 σ16 := by rw [eσ16]; exact hc
  rw [show gc σ15 = gc σ16 by rw [eσ16], show gs σ15 = gs σ16 by rw [eσ16]]
  refine lv_aload_n B.1 B.2.1 dX16_flush_147 rfl (lv_at hl 0 rfl) ?_
  refine lv_dup B.1 B.2.1 dX16_flush_148 rfl ?_
  refine r_geti B hH hS 67 (by decide) wf_X16_411 rfl rfl dX16_flush_149 ?_
  refine lv_iconst (v := i32 1) B.1 B.2.1 dX16_flush_152 (by decide) ?_
  obtain ⟨q6, h⟩ := h
  refine lv_isub B.1 B.2.1 dX16_flush_153 ?_
  rw [i32_sub]
  obtain ⟨σ17, eσ17⟩ : ∃ z, z = pI σ16 rm 67 (gI σ16 rm 67 - 1) := ⟨_, rfl⟩
  have h := h σ17 eσ17
  refine r_puti B hH hS 67 (ty := .int) (by decide) wf_X16_411 rfl rfl rfl rfl rfl rfl dX16_flush_154 (fun H locs hH => ?_)
  have hH : Hd D cA A s (pI σ16 rm 67 (gI σ16 rm 67 - 1)) H locs := hH
  rw [← eσ17] at hH
  have hGσ17 : RG σ17 := by rw [eσ17]; exact hGσ16.pI q6
  have hS : Shp dm ra jx rm σ17 := by rw [eσ17]; exact hS
  have hc : CB n0 s0 σ17 := by rw [eσ17]; exact hc
  rw [show gc σ16 = gc σ17 by rw [eσ17], show gs σ16 = gs σ17 by rw [eσ17]]
  refine lv_goto (tgt := 0) B.1 B.2.1 dX16_flush_157 (by decide) ?_
  exact hK0 _ _ g1 h hGσ17 hS _ _ _ hH (lv_sub (l' := [(0, .ref rm), (1, .int (i32 v1))]) hl [0, 1] rfl) hc
set_option maxRecDepth 20000 in
theorem a_X16_flush_130 {Q : Sg → Int → Prop} {X : Sg → String → Prop} (K : MC R p s m args c cX16_flush 4 RX16 D cA tys A n0 s0 0 0 []) (hQ : HQZ p l e R s m args below meth c cX16_flush D cA A n0 s0 QM dm ra jx rm Q) (hX : HX p l e R s m args below meth c 4 D cA A n0 s0 QM dm ra jx rm X) {K0 : Sg → Int → Prop} (hK0 : ∀ (σ : Sg) (v1 : Int) (g1 : rng v1), K0 σ v1 → RG σ → Shp dm ra jx rm σ → JJ p l e R s m args below meth c 4 D cA A n0 s0 QM σ 0 [(0, .ref rm), (1, .int (i32 v1))] []) : ∀ (σ : Sg) (v1 : Int) (u0 : Int) (g1 : rng v1) (gu0 : rng u0), w_X16_flush_130 ra jx rm K0 Q X σ v1 u0 → RG σ → Shp dm ra jx rm σ → JJ p l e R s m args below meth c 4 D cA A n0 s0 QM σ 130 [(0, .ref rm), (1, .int (i32 v1))] [.int (i32 u0), .ref (ra 47)] := by
  intro σ v1 u0 g1 gu0 h hGσ hS H locs ls hH hl hc
  have B := K.1
  unfold w_X16_flush_130 at h
  refine lv_aload_n B.1 B.2.1 dX16_flush_130 rfl (lv_at hl 0 rfl) ?_
  refine r_arr B hH hS 47 (kd := 100) (n := 64) (by decide) (by decide) wf_X16_438 rfl rfl dX16_flush_131 ?_
  refine lv_iload_n B.1 B.2.1 dX16_flush_134 rfl (lv_at hl 1 rfl) ?_
  obtain ⟨q1, h⟩ := h
  refine x_iald B K.2.1 hH (hS.ar (k := 47) (kd := 100) (n := 64) (by decide)) (by decide) q1 dX16_flush_135 ?_
  exact a_X16_flush_136 K hQ hX hK0 _ _ _ _ g1 (hGσ _ _) gu0 h hGσ hS _ _ _ hH (lv_sub (l' := [(0, .ref rm), (1, .int (i32 v1))]) hl [0, 1] rfl) hc
set_option maxRecDepth 20000 in
theorem a_X16_flush_126 {Q : Sg → Int → Prop} {X : Sg → String → Prop} (K : MC R p s m args c cX16_flush 4 RX16 D cA tys A n0 s0 0 0 []) (hQ : HQZ p l e R s m args below meth c cX16_flush D cA A n0 s0 QM dm ra jx rm Q) (hX : HX p l e R s m args below meth c 4 D cA A n0 s0 QM dm ra jx rm X) {K0 : Sg → Int → Prop} (hK0 : ∀ (σ : Sg) (v1 : Int) (g1 : rng v1), K0 σ v1 → RG σ → Shp dm ra jx rm σ → JJ p l e R s m args below meth c 4 D cA A n0 s0 QM σ 0 [(0, .ref rm), (1, .int (i32 v1))] []) : ∀ (σ : Sg) (v1 : Int) (u0 : Int) (g1 : rng v1) (gu0 : rng u0), w_X16_flush_126 ra jx rm K0 Q X σ v1 u0 → RG σ → Shp dm ra jx rm σ → JJ p l e R s m args below meth c 4 D cA A n0 s0 QM σ 126 [(0, .ref rm), (1, .int (i32 v1))] [.int (i32 u0), .ref (ra 47)] := by
  intro σ v1 u0 g1 gu0 h hGσ hS H locs ls hH hl hc
  have B := K.1
  unfold w_X16_flush_126 at h
  refine lv_iconst (v := i32 (-1)) B.1 B.2.1 dX16_flush_126 (by decide) ?_
  refine lv_goto (tgt := 136) B.1 B.2.1 dX16_flush_127 (by decide) ?_
  exact a_X16_flush_136 K hQ hX hK0 _ _ _ _ g1 (by unfold rng; omega) gu0 h hGσ hS _ _ _ hH (lv_sub (l' := [(0, .ref rm), (1, .int (i32 v1))]) hl [0, 1] rfl) hc
set_option maxRecDepth 20000 in
theorem a_X16_flush_97 {Q : Sg → Int → Prop} {X : Sg → String → Prop} (K : MC R p s m args c cX16_flush 4 RX16 D cA tys A n0 s0 0 0 []) (hQ : HQZ p l e R s m args below meth c cX16_flush D cA A n0 s0 QM dm ra jx rm Q) (hX : HX p l e R s m args below meth c 4 D cA A n0 s0 QM dm ra jx rm X) {K0 : Sg → Int → Prop} (hK0 : ∀ (σ : Sg) (v1 : Int) (g1 : rng v1), K0 σ v1 → RG σ → Shp dm ra jx rm σ → JJ p l e R s m args below meth c 4 D cA A n0 s0 QM σ 0 [(0, .ref rm), (1, .int (i32 v1))] []) : ∀ (σ : Sg) (v1 : Int) (v2 : Int) (u0 : Int64) (u1 : Int64) (u2 : Int) (g1 : rng v1) (g2 : rng v2) (gu2 : rng u2), w_X16_flush_97 ra jx rm K0 Q X σ v1 v2 u0 u1 u2 → RG σ → Shp dm ra jx rm σ → JJ p l e R s m args below meth c 4 D cA A n0 s0 QM σ 97 [(0, .ref rm), (1, .int (i32 v1)), (2, .int (i32 v2))] [.long u0, .long u1, .int (i32 u2), .ref (ra 58)] := by
  intro σ v1 v2 u0 u1 u2 g1 g2 gu2 h hGσ hS H locs ls hH hl hc
  have B := K.1
  unfold w_X16_flush_97 at h
  refine lv_ladd B.1 B.2.1 dX16_flush_97 ?_
  obtain ⟨q1, h⟩ := h
  obtain ⟨σ18, eσ18⟩ : ∃ z, z = pJ σ (ra 58) u2.toNat (u1 + u0) := ⟨_, rfl⟩
  have h := h σ18 eσ18
  refine x_last B K.2.1 hH (hS.ar (k := 58) (kd := 101) (n := 1100) (by decide)) (by decide) q1 dX16_flush_98 (fun H locs hH => ?_)
  have hH : Hd D cA A s (pJ σ (ra 58) u2.toNat (u1 + u0)) H locs := hH
  rw [← eσ18] at hH
  have hGσ18 : RG σ18 := by rw [eσ18]; exact hGσ.pJ
  have hS : Shp dm ra jx rm σ18 := by rw [eσ18]; exact hS
  have hc : CB n0 s0 σ18 := by rw [eσ18]; exact hc
  rw [show gc σ = gc σ18 by rw [eσ18], show gs σ = gs σ18 by rw [eσ18]]
  refine lv_aload_n B.1 B.2.1 dX16_flush_99 rfl (lv_at hl 0 rfl) ?_
  refine r_arr B hH hS 46 (kd := 100) (n := 64) (by decide) (by decide) wf_X16_435 rfl rfl dX16_flush_100 ?_
  refine lv_iload_n B.1 B.2.1 dX16_flush_103 rfl (lv_at hl 1 rfl) ?_
  refine lv_aload_n B.1 B.2.1 dX16_flush_104 rfl (lv_at hl 0 rfl) ?_
  refine r_arr B hH hS 65 (kd := 100) (n := 12802) (by decide) (by decide) wf_X16_405 rfl rfl dX16_flush_105 ?_
  refine lv_iload_n B.1 B.2.1 dX16_flush_108 rfl (lv_at hl 2 rfl) ?_
  obtain ⟨q3, h⟩ := h
  refine x_iald B K.2.1 hH (hS.ar (k := 65) (kd := 100) (n := 12802) (by decide)) (by decide) q3 dX16_flush_109 ?_
  obtain ⟨q4, h⟩ := h
  obtain ⟨σ19, eσ19⟩ : ∃ z, z = pI σ18 (ra 46) v1.toNat (gI σ18 (ra 65) v2.toNat) := ⟨_, rfl⟩
  have h := h σ19 eσ19
  refine x_iast B K.2.1 hH (hS.ar (k := 46) (kd := 100) (n := 64) (by decide)) (by decide) q4 dX16_flush_110 (fun H locs hH => ?_)
  have hH : Hd D cA A s (pI σ18 (ra 46) v1.toNat (gI σ18 (ra 65) v2.toNat)) H locs := hH
  rw [← eσ19] at hH
  have hGσ19 : RG σ19 := by rw [eσ19]; exact hGσ18.pI (hGσ18 _ _)
  have hS : Shp dm ra jx rm σ19 := by rw [eσ19]; exact hS
  have hc : CB n0 s0 σ19 := by rw [eσ19]; exact hc
  rw [show gc σ18 = gc σ19 by rw [eσ19], show gs σ18 = gs σ19 by rw [eσ19]]
  refine lv_aload_n B.1 B.2.1 dX16_flush_111 rfl (lv_at hl 0 rfl) ?_
  refine r_arr B hH hS 47 (kd := 100) (n := 64) (by decide) (by decide) wf_X16_438 rfl rfl dX16_flush_112 ?_
  refine lv_iload_n B.1 B.2.1 dX16_flush_115 rfl (lv_at hl 1 rfl) ?_
  refine lv_aload_n B.1 B.2.1 dX16_flush_116 rfl (lv_at hl 0 rfl) ?_
  refine r_arr B hH hS 46 (kd := 100) (n := 64) (by decide) (by decide) wf_X16_435 rfl rfl dX16_flush_117 ?_
  refine lv_iload_n B.1 B.2.1 dX16_flush_120 rfl (lv_at hl 1 rfl) ?_
  obtain ⟨q6, h⟩ := h
  refine x_iald B K.2.1 hH (hS.ar (k := 46) (kd := 100) (n := 64) (by decide)) (by decide) q6 dX16_flush_121 ?_
  refine lv_iconst (v := i32 (-1)) B.1 B.2.1 dX16_flush_122 (by decide) ?_
  refine lv_icmp_ne (tgt := 130) B.1 B.2.1 dX16_flush_123 (by decide) (fun h9 => ?_) (fun h9 => ?_)
  · rw [if_pos (fun q => h9 ((i32_eq (hGσ19 _ _) (by unfold rng; omega)).mpr q))] at h
    exact a_X16_flush_130 K hQ hX hK0 _ _ _ g1 g1 h hGσ19 hS _ _ _ hH (lv_sub (l' := [(0, .ref rm), (1, .int (i32 v1))]) hl [0, 1] rfl) hc
  · rw [if_neg (fun q => q ((i32_eq (hGσ19 _ _) (by unfold rng; omega)).mp h9))] at h
    exact a_X16_flush_126 K hQ hX hK0 _ _ _ g1 g1 h hGσ19 hS _ _ _ hH (lv_sub (l' := [(0, .ref rm), (1, .int (i32 v1))]) hl [0, 1] rfl) hc
set_option maxRecDepth 20000 in
theorem a_X16_flush_96 {Q : Sg → Int → Prop} {X : Sg → String → Prop} (K : MC R p s m args c cX16_flush 4 RX16 D cA tys A n0 s0 0 0 []) (hQ : HQZ p l e R s m args below meth c cX16_flush D cA A n0 s0 QM dm ra jx rm Q) (hX : HX p l e R s m args below meth c 4 D cA A n0 s0 QM dm ra jx rm X) {K0 : Sg → Int → Prop} (hK0 : ∀ (σ : Sg) (v1 : Int) (g1 : rng v1), K0 σ v1 → RG σ → Shp dm ra jx rm σ → JJ p l e R s m args below meth c 4 D cA A n0 s0 QM σ 0 [(0, .ref rm), (1, .int (i32 v1))] []) : ∀ (σ : Sg) (v1 : Int) (v2 : Int) (u0 : Int64) (u1 : Int) (g1 : rng v1) (g2 : rng v2) (gu1 : rng u1), w_X16_flush_96 ra jx rm K0 Q X σ v1 v2 u0 u1 → RG σ → Shp dm ra jx rm σ → JJ p l e R s m args below meth c 4 D cA A n0 s0 QM σ 96 [(0, .ref rm), (1, .int (i32 v1)), (2, .int (i32 v2))] [.long u0, .int (i32 u1), .ref (ra 58)] := by
  intro σ v1 v2 u0 u1 g1 g2 gu1 h hGσ hS H locs ls hH hl hc
  have B := K.1
  unfold w_X16_flush_96 at h
  refine lv_lconst (v := 0) B.1 B.2.1 dX16_flush_96 (by decide) ?_
  exact a_X16_flush_97 K hQ hX hK0 _ _ _ _ _ _ g1 g2 gu1 h hGσ hS _ _ _ hH (lv_sub (l' := [(0, .ref rm), (1, .int (i32 v1)), (2, .int (i32 v2))]) hl [0, 1, 2] rfl) hc
set_option maxRecDepth 20000 in
theorem a_X16_flush_92 {Q : Sg → Int → Prop} {X : Sg → String → Prop} (K : MC R p s m args c cX16_flush 4 RX16 D cA tys A n0 s0 0 0 []) (hQ : HQZ p l e R s m args below meth c cX16_flush D cA A n0 s0 QM dm ra jx rm Q) (hX : HX p l e R s m args below meth c 4 D cA A n0 s0 QM dm ra jx rm X) {K0 : Sg → Int → Prop} (hK0 : ∀ (σ : Sg) (v1 : Int) (g1 : rng v1), K0 σ v1 → RG σ → Shp dm ra jx rm σ → JJ p l e R s m args below meth c 4 D cA A n0 s0 QM σ 0 [(0, .ref rm), (1, .int (i32 v1))] []) : ∀ (σ : Sg) (v1 : Int) (v2 : Int) (u0 : Int64) (u1 : Int) (g1 : rng v1) (g2 : rng v2) (gu1 : rng u1), w_X16_flush_92 ra jx rm K0 Q X σ v1 v2 u0 u1 → RG σ → Shp dm ra jx rm σ → JJ p l e R s m args below meth c 4 D cA A n0 s0 QM σ 92 [(0, .ref rm), (1, .int (i32 v1)), (2, .int (i32 v2))] [.long u0, .int (i32 u1), .ref (ra 58)] := by
  intro σ v1 v2 u0 u1 g1 g2 gu1 h hGσ hS H locs ls hH hl hc
  have B := K.1
  unfold w_X16_flush_92 at h
  refine lv_lconst (v := 1) B.1 B.2.1 dX16_flush_92 (by decide) ?_
  refine lv_goto (tgt := 97) B.1 B.2.1 dX16_flush_93 (by decide) ?_
  exact a_X16_flush_97 K hQ hX hK0 _ _ _ _ _ _ g1 g2 gu1 h hGσ hS _ _ _ hH (lv_sub (l' := [(0, .ref rm), (1, .int (i32 v1)), (2, .int (i32 v2))]) hl [0, 1, 2] rfl) hc
set_option maxRecDepth 20000 in
theorem a_X16_flush_39 {Q : Sg → Int → Prop} {X : Sg → String → Prop} (K : MC R p s m args c cX16_flush 4 RX16 D cA tys A n0 s0 0 0 []) (hQ : HQZ p l e R s m args below meth c cX16_flush D cA A n0 s0 QM dm ra jx rm Q) (hX : HX p l e R s m args below meth c 4 D cA A n0 s0 QM dm ra jx rm X) {K0 : Sg → Int → Prop} (hK0 : ∀ (σ : Sg) (v1 : Int) (g1 : rng v1), K0 σ v1 → RG σ → Shp dm ra jx rm σ → JJ p l e R s m args below meth c 4 D cA A n0 s0 QM σ 0 [(0, .ref rm), (1, .int (i32 v1))] []) : ∀ (σ : Sg) (v1 : Int) (v2 : Int) (v3 : Int) (g1 : rng v1) (g2 : rng v2) (g3 : rng v3), w_X16_flush_39 ra jx rm K0 Q X σ v1 v2 v3 → RG σ → Shp dm ra jx rm σ → JJ p l e R s m args below meth c 4 D cA A n0 s0 QM σ 39 [(0, .ref rm), (1, .int (i32 v1)), (2, .int (i32 v2)), (3, .int (i32 v3))] [] := by
  intro σ v1 v2 v3 g1 g2 g3 h hGσ hS H locs ls hH hl hc
  have B := K.1
  unfold w_X16_flush_39 at h
  refine lv_aload_n B.1 B.2.1 dX16_flush_39 rfl (lv_at hl 0 rfl) ?_
  refine r_arr B hH hS 59 (kd := 100) (n := 8800) (by decide) (by decide) wf_X16_492 rfl rfl dX16_flush_40 ?_
  refine lv_bipush (v := i32 8) B.1 B.2.1 dX16_flush_43 (by decide) ?_
  refine lv_iload_n B.1 B.2.1 dX16_flush_45 rfl (lv_at hl 3 rfl) ?_
  obtain ⟨q1, h⟩ := h
  refine lv_imul B.1 B.2.1 dX16_flush_46 ?_
  rw [i32_mul]
  refine lv_aload_n B.1 B.2.1 dX16_flush_47 rfl (lv_at hl 0 rfl) ?_
  refine r_arr B hH hS 55 (kd := 100) (n := 1100) (by decide) (by decide) wf_X16_450 rfl rfl dX16_flush_48 ?_
  refine lv_iload_n B.1 B.2.1 dX16_flush_51 rfl (lv_at hl 3 rfl) ?_
  obtain ⟨q2, h⟩ := h
  refine x_iald B K.2.1 hH (hS.ar (k := 55) (kd := 100) (n := 1100) (by decide)) (by decide) q2 dX16_flush_52 ?_
  refine lv_aload_n B.1 B.2.1 dX16_flush_53 rfl (lv_at hl 0 rfl) ?_
  refine r_arr B hH hS 54 (kd := 100) (n := 1100) (by decide) (by decide) wf_X16_447 rfl rfl dX16_flush_54 ?_
  refine lv_iload_n B.1 B.2.1 dX16_flush_57 rfl (lv_at hl 3 rfl) ?_
  obtain ⟨q3, h⟩ := h
  refine x_iald B K.2.1 hH (hS.ar (k := 54) (kd := 100) (n := 1100) (by decide)) (by decide) q3 dX16_flush_58 ?_
  obtain ⟨q4, h⟩ := h
  refine lv_iadd B.1 B.2.1 dX16_flush_59 ?_
  rw [i32_add]
  refine lv_bipush (v := i32 8) B.1 B.2.1 dX16_flush_60 (by decide) ?_
  refine lv_irem B.1 B.2.1 dX16_flush_62 (i32_ne0 (by unfold rng; omega) (by decide)) ?_
  refine W.eq (g2 := F0 m 63 ls [.int (i32 (remI ((gI σ (ra 55) v3.toNat) + (gI σ (ra 54) v3.toNat)) 8)), .int (i32 (8 * v3)), .ref (ra 59)]) (by unfold remI; rw [i32_self]) ?_
  obtain ⟨q5, h⟩ := h
  refine lv_iadd B.1 B.2.1 dX16_flush_63 ?_
  rw [i32_add]
  refine lv_iload_n B.1 B.2.1 dX16_flush_64 rfl (lv_at hl 2 rfl) ?_
  obtain ⟨q6, h⟩ := h
  obtain ⟨σ20, eσ20⟩ : ∃ z, z = pI σ (ra 59) ((8 * v3) + (remI ((gI σ (ra 55) v3.toNat) + (gI σ (ra 54) v3.toNat)) 8)).toNat v2 := ⟨_, rfl⟩
  have h := h σ20 eσ20
  refine x_iast B K.2.1 hH (hS.ar (k := 59) (kd := 100) (n := 8800) (by decide)) (by decide) q6 dX16_flush_65 (fun H locs hH => ?_)
  have hH : Hd D cA A s (pI σ (ra 59) ((8 * v3) + (remI ((gI σ (ra 55) v3.toNat) + (gI σ (ra 54) v3.toNat)) 8)).toNat v2) H locs := hH
  rw [← eσ20] at hH
  have hGσ20 : RG σ20 := by rw [eσ20]; exact hGσ.pI g2
  have hS : Shp dm ra jx rm σ20 := by rw [eσ20]; exact hS
  have hc : CB n0 s0 σ20 := by rw [eσ20]; exact hc
  rw [show gc σ = gc σ20 by rw [eσ20], show gs σ = gs σ20 by rw [eσ20]]
  refine lv_aload_n B.1 B.2.1 dX16_flush_66 rfl (lv_at hl 0 rfl) ?_
  refine r_arr B hH hS 54 (kd := 100) (n := 1100) (by decide) (by decide) wf_X16_447 rfl rfl dX16_flush_67 ?_
  refine lv_iload_n B.1 B.2.1 dX16_flush_70 rfl (lv_at hl 3 rfl) ?_
  refine lv_dup2_11 B.1 B.2.1 dX16_flush_71 rfl rfl ?_
  obtain ⟨q8, h⟩ := h
  refine x_iald B K.2.1 hH (hS.ar (k := 54) (kd := 100) (n := 1100) (by decide)) (by decide) q8 dX16_flush_72 ?_
  refine lv_iconst (v := i32 1) B.1 B.2.1 dX16_flush_73 (by decide) ?_
  obtain ⟨q9, h⟩ := h
  refine lv_iadd B.1 B.2.1 dX16_flush_74 ?_
  rw [i32_add]
  obtain ⟨q10, h⟩ := h
  obtain ⟨σ21, eσ21⟩ : ∃ z, z = pI σ20 (ra 54) v3.toNat ((gI σ20 (ra 54) v3.toNat) + 1) := ⟨_, rfl⟩
  have h := h σ21 eσ21
  refine x_iast B K.2.1 hH (hS.ar (k := 54) (kd := 100) (n := 1100) (by decide)) (by decide) q10 dX16_flush_75 (fun H locs hH => ?_)
  have hH : Hd D cA A s (pI σ20 (ra 54) v3.toNat ((gI σ20 (ra 54) v3.toNat) + 1)) H locs := hH
  rw [← eσ21] at hH
  have hGσ21 : RG σ21 := by rw [eσ21]; exact hGσ20.pI q9
  have hS : Shp dm ra jx rm σ21 := by rw [eσ21]; exact hS
  have hc : CB n0 s0 σ21 := by rw [eσ21]; exact hc
  rw [show gc σ20 = gc σ21 by rw [eσ21], show gs σ20 = gs σ21 by rw [eσ21]]
  refine lv_aload_n B.1 B.2.1 dX16_flush_76 rfl (lv_at hl 0 rfl) ?_
  refine r_arr B hH hS 58 (kd := 101) (n := 1100) (by decide) (by decide) wf_X16_459 rfl rfl dX16_flush_77 ?_
  refine lv_iload_n B.1 B.2.1 dX16_flush_80 rfl (lv_at hl 3 rfl) ?_
  refine lv_dup2_11 B.1 B.2.1 dX16_flush_81 rfl rfl ?_
  obtain ⟨q12, h⟩ := h
  refine x_lald B K.2.1 hH (hS.ar (k := 58) (kd := 101) (n := 1100) (by decide)) (by decide) q12 dX16_flush_82 ?_
  refine lv_aload_n B.1 B.2.1 dX16_flush_83 rfl (lv_at hl 0 rfl) ?_
  refine r_arr B hH hS 60 (kd := 100) (n := 12802) (by decide) (by decide) wf_X16_467 rfl rfl dX16_flush_84 ?_
  refine lv_iload_n B.1 B.2.1 dX16_flush_87 rfl (lv_at hl 2 rfl) ?_
  obtain ⟨q13, h⟩ := h
  refine x_iald B K.2.1 hH (hS.ar (k := 60) (kd := 100) (n := 12802) (by decide)) (by decide) q13 dX16_flush_88 ?_
  refine lv_if_ne (tgt := 96) B.1 B.2.1 dX16_flush_89 (by decide) (fun h9 => ?_) (fun h9 => ?_)
  · rw [if_pos (fun q => h9 ((z_eq (hGσ21 _ _)).mpr q))] at h
    exact a_X16_flush_96 K hQ hX hK0 _ _ _ _ _ g1 g2 g3 h hGσ21 hS _ _ _ hH (lv_sub (l' := [(0, .ref rm), (1, .int (i32 v1)), (2, .int (i32 v2))]) hl [0, 1, 2] rfl) hc
  · rw [if_neg (fun q => q ((z_eq (hGσ21 _ _)).mp h9))] at h
    exact a_X16_flush_92 K hQ hX hK0 _ _ _ _ _ g1 g2 g3 h hGσ21 hS _ _ _ hH (lv_sub (l' := [(0, .ref rm), (1, .int (i32 v1)), (2, .int (i32 v2))]) hl [0, 1, 2] rfl) hc
set_option maxRecDepth 20000 in
theorem a_X16_flush_37 {Q : Sg → Int → Prop} {X : Sg → String → Prop} (K : MC R p s m args c cX16_flush 4 RX16 D cA tys A n0 s0 0 0 []) (hQ : HQZ p l e R s m args below meth c cX16_flush D cA A n0 s0 QM dm ra jx rm Q) (hX : HX p l e R s m args below meth c 4 D cA A n0 s0 QM dm ra jx rm X) : ∀ (σ : Sg), w_X16_flush_37 ra jx rm Q X σ → RG σ → Shp dm ra jx rm σ → JJ p l e R s m args below meth c 4 D cA A n0 s0 QM σ 37 [(0, .ref rm)] [] := by
  intro σ h hGσ hS H locs ls hH hl hc
  have B := K.1
  unfold w_X16_flush_37 at h
  refine lv_iconst (v := i32 1) B.1 B.2.1 dX16_flush_37 (by decide) ?_
  exact hQ _ _ _ _ _ _ (by unfold rng; omega) (Or.inr rfl) dX16_flush_38 hH hc h hGσ hS
set_option maxRecDepth 20000 in
theorem a_X16_flush_10 {Q : Sg → Int → Prop} {X : Sg → String → Prop} (K : MC R p s m args c cX16_flush 4 RX16 D cA tys A n0 s0 0 0 []) (hQ : HQZ p l e R s m args below meth c cX16_flush D cA A n0 s0 QM dm ra jx rm Q) (hX : HX p l e R s m args below meth c 4 D cA A n0 s0 QM dm ra jx rm X) {K0 : Sg → Int → Prop} (hK0 : ∀ (σ : Sg) (v1 : Int) (g1 : rng v1), K0 σ v1 → RG σ → Shp dm ra jx rm σ → JJ p l e R s m args below meth c 4 D cA A n0 s0 QM σ 0 [(0, .ref rm), (1, .int (i32 v1))] []) : ∀ (σ : Sg) (v1 : Int) (g1 : rng v1), w_X16_flush_10 ra jx rm K0 Q X σ v1 → RG σ → Shp dm ra jx rm σ → JJ p l e R s m args below meth c 4 D cA A n0 s0 QM σ 10 [(0, .ref rm), (1, .int (i32 v1))] [] := by
  intro σ v1 g1 h hGσ hS H locs ls hH hl hc
  have B := K.1
  unfold w_X16_flush_10 at h
  refine lv_aload_n B.1 B.2.1 dX16_flush_10 rfl (lv_at hl 0 rfl) ?_
  refine r_arr B hH hS 46 (kd := 100) (n := 64) (by decide) (by decide) wf_X16_435 rfl rfl dX16_flush_11 ?_
  refine lv_iload_n B.1 B.2.1 dX16_flush_14 rfl (lv_at hl 1 rfl) ?_
  obtain ⟨q1, h⟩ := h
  refine x_iald B K.2.1 hH (hS.ar (k := 46) (kd := 100) (n := 64) (by decide)) (by decide) q1 dX16_flush_15 ?_
  refine lv_istore_n (lv' := [(2, .int (i32 (gI σ (ra 46) v1.toNat))), (0, .ref rm), (1, .int (i32 v1))]) B.1 B.2.1 dX16_flush_16 rfl hl (by decide) rfl (fun ls hl => ?_)
  refine lv_aload_n B.1 B.2.1 dX16_flush_17 rfl (lv_at hl 1 rfl) ?_
  refine r_arr B hH hS 64 (kd := 100) (n := 12802) (by decide) (by decide) wf_X16_479 rfl rfl dX16_flush_18 ?_
  refine lv_iload_n B.1 B.2.1 dX16_flush_21 rfl (lv_at hl 0 rfl) ?_
  obtain ⟨q2, h⟩ := h
  refine x_iald B K.2.1 hH (hS.ar (k := 64) (kd := 100) (n := 12802) (by decide)) (by decide) q2 dX16_flush_22 ?_
  refine lv_istore_n (lv' := [(3, .int (i32 (gI σ (ra 64) (gI σ (ra 46) v1.toNat).toNat))), (2, .int (i32 (gI σ (ra 46) v1.toNat))), (0, .ref rm), (1, .int (i32 v1))]) B.1 B.2.1 dX16_flush_23 rfl hl (by decide) rfl (fun ls hl => ?_)
  refine lv_aload_n B.1 B.2.1 dX16_flush_24 rfl (lv_at hl 2 rfl) ?_
  refine r_arr B hH hS 54 (kd := 100) (n := 1100) (by decide) (by decide) wf_X16_447 rfl rfl dX16_flush_25 ?_
  refine lv_iload_n B.1 B.2.1 dX16_flush_28 rfl (lv_at hl 0 rfl) ?_
  obtain ⟨q3, h⟩ := h
  refine x_iald B K.2.1 hH (hS.ar (k := 54) (kd := 100) (n := 1100) (by decide)) (by decide) q3 dX16_flush_29 ?_
  refine lv_aload_n B.1 B.2.1 dX16_flush_30 rfl (lv_at hl 2 rfl) ?_
  refine r_geti B hH hS 34 (by decide) wf_X16_489 rfl rfl dX16_flush_31 ?_
  refine lv_icmp_ne (tgt := 39) B.1 B.2.1 dX16_flush_34 (by decide) (fun h9 => ?_) (fun h9 => ?_)
  · rw [if_pos (fun q => h9 ((i32_eq (hGσ _ _) (hGσ _ _)).mpr q))] at h
    exact a_X16_flush_39 K hQ hX hK0 _ _ _ _ g1 (hGσ _ _) (hGσ _ _) h hGσ hS _ _ _ hH (lv_sub (l' := [(0, .ref rm), (1, .int (i32 v1)), (2, .int (i32 (gI σ (ra 46) v1.toNat))), (3, .int (i32 (gI σ (ra 64) (gI σ (ra 46) v1.toNat).toNat)))]) hl [2, 3, 1, 0] rfl) hc
  · rw [if_neg (fun q => q ((i32_eq (hGσ _ _) (hGσ _ _)).mp h9))] at h
    exact a_X16_flush_37 K hQ hX _ h hGσ hS _ _ _ hH (lv_sub (l' := [(0, .ref rm)]) hl [2] rfl) hc
set_option maxRecDepth 20000 in
theorem a_X16_flush_0 {Q : Sg → Int → Prop} {X : Sg → String → Prop} (K : MC R p s m args c cX16_flush 4 RX16 D cA tys A n0 s0 0 0 []) (hQ : HQZ p l e R s m args below meth c cX16_flush D cA A n0 s0 QM dm ra jx rm Q) (hX : HX p l e R s m args below meth c 4 D cA A n0 s0 QM dm ra jx rm X) {K0 : Sg → Int → Prop} (hK0 : ∀ (σ : Sg) (v1 : Int) (g1 : rng v1), K0 σ v1 → RG σ → Shp dm ra jx rm σ → JJ p l e R s m args below meth c 4 D cA A n0 s0 QM σ 0 [(0, .ref rm), (1, .int (i32 v1))] []) : ∀ (σ : Sg) (v1 : Int) (g1 : rng v1), w_X16_flush_0 ra jx rm K0 Q X σ v1 → RG σ → Shp dm ra jx rm σ → JJ p l e R s m args below meth c 4 D cA A n0 s0 QM σ 0 [(0, .ref rm), (1, .int (i32 v1))] [] := by
  intro σ v1 g1 h hGσ hS H locs ls hH hl hc
  have B := K.1
  unfold w_X16_flush_0 at h
  refine lv_aload_n B.1 B.2.1 dX16_flush_0 rfl (lv_at hl 0 rfl) ?_
  refine r_arr B hH hS 46 (kd := 100) (n := 64) (by decide) (by decide) wf_X16_435 rfl rfl dX16_flush_1 ?_
  refine lv_iload_n B.1 B.2.1 dX16_flush_4 rfl (lv_at hl 1 rfl) ?_
  obtain ⟨q1, h⟩ := h
  refine x_iald B K.2.1 hH (hS.ar (k := 46) (kd := 100) (n := 64) (by decide)) (by decide) q1 dX16_flush_5 ?_
  refine lv_iconst (v := i32 (-1)) B.1 B.2.1 dX16_flush_6 (by decide) ?_
  refine lv_icmp_eq (tgt := 160) B.1 B.2.1 dX16_flush_7 (by decide) (fun h9 => ?_) (fun h9 => ?_)
  · rw [if_pos ((i32_eq (hGσ _ _) (by unfold rng; omega)).mp h9)] at h
    exact a_X16_flush_160 K hQ hX _ h hGσ hS _ _ _ hH (lv_sub (l' := [(0, .ref rm)]) hl [0] rfl) hc
  · rw [if_neg (fun q => h9 ((i32_eq (hGσ _ _) (by unfold rng; omega)).mpr q))] at h
    exact a_X16_flush_10 K hQ hX hK0 _ _ g1 h hGσ hS _ _ _ hH (lv_sub (l' := [(0, .ref rm), (1, .int (i32 v1))]) hl [0, 1] rfl) hc
theorem al_X16_flush_0 {Q : Sg → Int → Prop} {X : Sg → String → Prop} (K : MC R p s m args c cX16_flush 4 RX16 D cA tys A n0 s0 0 0 []) (hQ : HQZ p l e R s m args below meth c cX16_flush D cA A n0 s0 QM dm ra jx rm Q) (hX : HX p l e R s m args below meth c 4 D cA A n0 s0 QM dm ra jx rm X) : ∀ (n : Nat), ∀ (σ : Sg) (v1 : Int) (g1 : rng v1), wl_X16_flush_0 ra jx rm Q X n σ v1 → RG σ → Shp dm ra jx rm σ → JJ p l e R s m args below meth c 4 D cA A n0 s0 QM σ 0 [(0, .ref rm), (1, .int (i32 v1))] [] := by
  intro n
  induction n with
  | zero => intro σ v1 g1 h; exact h.elim
  | succ n ih => exact fun σ v1 g1 h => a_X16_flush_0 K hQ hX ih σ v1 g1 h
theorem ok_X16_flush (hT : Tys cA tys) {Q : Sg → Int → Prop} {X : Sg → String → Prop} (σ : Sg) (v1 : Int) (g1 : rng v1) (hG : RG σ) (hS : Shp dm ra jx rm σ) (h : wp_X16_flush ra jx rm v1 σ Q X) : Ok l D cA tys A yX16_flush (.code yX16_flush cX16_flush 4 (some .boolean)) 0 0 [.ref rm, .int (i32 v1)] σ (QnZ dm ra jx rm Q) (QxR dm ra jx rm X) := by
  unfold wp_X16_flush at h
  obtain ⟨n9, h⟩ := h
  exact ok_Z (plainFor_of_name (by decide)) (by exact Nat.le_of_ble_eq_true rfl) hT (fun p e R s m args below meth c K hQ hX H locs ls hH hl hc => al_X16_flush_0 K hQ hX n9 σ v1 g1 h hG hS H locs ls hH (lv_sub (l' := [(0, .ref rm), (1, .int (i32 v1))]) hl [0, 1] rfl) hc)
end M57

section M56
variable {p : Program} {l : Launch} {e : Env} {R : Room} {s : State} {m : MethodId} {args : Array Value} {below : List Frame} {meth : Method} {c : Code} {D : va_G} {cA : Nat → ClassId} {tys : List (ClassId × FieldType)} {A : Nat → Prop} {n0 s0 : Nat} {QM : State → Prop} {dm : List Nat × Nat × Nat} {ra : Nat → Nat} {jx : Nat → Nat → Nat} {rm : Nat}
theorem dX16_groupOf_0 : decode cX16_groupOf 0 = .ok (.lload_n 0, 1) := by decide +kernel
theorem dX16_groupOf_1 : decode cX16_groupOf 1 = .ok (.ldc2_w 462, 3) := by decide +kernel
theorem dX16_groupOf_4 : decode cX16_groupOf 4 = .ok (.lmul, 1) := by decide +kernel
theorem dX16_groupOf_5 : decode cX16_groupOf 5 = .ok (.bipush 60, 2) := by decide +kernel
theorem dX16_groupOf_7 : decode cX16_groupOf 7 = .ok (.lushr, 1) := by decide +kernel
theorem dX16_groupOf_8 : decode cX16_groupOf 8 = .ok (.l2i, 1) := by decide +kernel
theorem dX16_groupOf_9 : decode cX16_groupOf 9 = .ok (.ireturn, 1) := by decide +kernel
set_option maxRecDepth 20000 in
theorem a_X16_groupOf_0 {Q : Sg → Int → Prop} {X : Sg → String → Prop} (K : MC R p s m args c cX16_groupOf 2 RX16 D cA tys A n0 s0 0 0 []) (hQ : HQI p l e R s m args below meth c cX16_groupOf D cA A n0 s0 QM dm ra jx rm Q) (hX : HX p l e R s m args below meth c 2 D cA A n0 s0 QM dm ra jx rm X) : ∀ (σ : Sg) (v0 : Int64), w_X16_groupOf_0 ra jx rm Q X σ v0 → RG σ → Shp dm ra jx rm σ → JJ p l e R s m args below meth c 2 D cA A n0 s0 QM σ 0 [(0, .long v0)] [] := by
  intro σ v0 h hGσ hS H locs ls hH hl hc
  have B := K.1
  unfold w_X16_groupOf_0 at h
  refine lv_lload_n B.1 B.2.1 dX16_groupOf_0 rfl (lv_at hl 0 rfl) ?_
  refine lv_ldc2 B.1 B.2.1 B.2.2.1 (B.2.2.2.1 _ (wk_X16_462)) dX16_groupOf_1 ?_
  refine lv_lmul B.1 B.2.1 dX16_groupOf_4 ?_
  refine lv_bipush (v := i32 60) B.1 B.2.1 dX16_groupOf_5 (by decide) ?_
  refine lv_lushr B.1 B.2.1 dX16_groupOf_7 rfl ?_
  refine lv_l2i B.1 B.2.1 dX16_groupOf_8 rfl ?_
  refine W.eq (g2 := F0 m 9 ls [.int (i32 (((((v0 * (-7046029254386353131))).toUInt64 >>> ((i32 60).toInt64.toUInt64 &&& Int64.toUInt64 63)).toInt64).toInt32.toInt))]) (by simp only [i32_self]) ?_
  exact hQ _ _ _ _ _ _ (rng_toInt _) dX16_groupOf_9 hH hc h hGσ hS
theorem ok_X16_groupOf (hT : Tys cA tys) {Q : Sg → Int → Prop} {X : Sg → String → Prop} (σ : Sg) (v0 : Int64) (hG : RG σ) (hS : Shp dm ra jx rm σ) (h : wp_X16_groupOf ra jx rm v0 σ Q X) : Ok l D cA tys A yX16_groupOf (.code yX16_groupOf cX16_groupOf 2 (some .int)) 0 0 [.long v0] σ (QnI dm ra jx rm Q) (QxR dm ra jx rm X) := by
  unfold wp_X16_groupOf at h
  exact ok_I (plainFor_of_name (by decide)) (by exact Nat.le_of_ble_eq_true rfl) hT (fun p e R s m args below meth c K hQ hX H locs ls hH hl hc => a_X16_groupOf_0 K hQ hX σ v0 h hG hS H locs ls hH (lv_sub (l' := [(0, .long v0)]) hl [0] rfl) hc)
theorem dX16_partOf_0 : decode cX16_partOf 0 = .ok (.lload_n 1, 1) := by decide +kernel
theorem dX16_partOf_1 : decode cX16_partOf 1 = .ok (.invokestatic 464, 3) := by decide +kernel
theorem dX16_partOf_4 : decode cX16_partOf 4 = .ok (.aload_n 0, 1) := by decide +kernel
theorem dX16_partOf_5 : decode cX16_partOf 5 = .ok (.getfield 365, 3) := by decide +kernel
theorem dX16_partOf_8 : decode cX16_partOf 8 = .ok (.imul, 1) := by decide +kernel
theorem dX16_partOf_9 : decode cX16_partOf 9 = .ok (.bipush 16, 2) := by decide +kernel
theorem dX16_partOf_11 : decode cX16_partOf 11 = .ok (.idiv, 1) := by decide +kernel
theorem dX16_partOf_12 : decode cX16_partOf 12 = .ok (.ireturn, 1) := by decide +kernel
set_option maxRecDepth 20000 in
theorem a_X16_partOf_0 {Q : Sg → Int → Prop} {X : Sg → String → Prop} (K : MC R p s m args c cX16_partOf 3 RX16 D cA tys A n0 s0 1 21 []) (hQ : HQI p l e R s m args below meth c cX16_partOf D cA A n0 s0 QM dm ra jx rm Q) (hX : HX p l e R s m args below meth c 3 D cA A n0 s0 QM dm ra jx rm X) : ∀ (σ : Sg) (v1 : Int64), w_X16_partOf_0 ra jx rm Q X σ v1 → RG σ → Shp dm ra jx rm σ → JJ p l e R s m args below meth c 3 D cA A n0 s0 QM σ 0 [(0, .ref rm), (1, .long v1)] [] := by
  intro σ v1 h hGσ hS H locs ls hH hl hc
  have B := K.1
  unfold w_X16_partOf_0 at h
  refine lv_lload_n B.1 B.2.1 dX16_partOf_0 rfl (lv_at hl 1 rfl) ?_
  refine c_S B hH hl hc K.2.2.1 (As := [.long v1]) (ok_X16_groupOf K.2.1 σ v1 hGσ hS h) wc_X16_464 1 hd_X16_groupOf ⟨Nat.le_trans (Nat.le_of_ble_eq_true rfl) K.2.2.2.1, Nat.le_trans (Nat.le_of_ble_eq_true rfl) K.2.2.2.2.1⟩ rfl (rest := []) rfl (Nat.le_of_ble_eq_true rfl) dX16_partOf_1 (fun σ5 w hq => ?_) (fun σ9 E9 hx9 => hX σ9 E9 _ _ _ (tb_out K.2.2.2.2.2 rfl) hx9.1 hx9.2.1 hx9.2.2)
  obtain ⟨r6, rfl, gr6, h, hGσ5, hS⟩ := hq
  intro H locs ls hH hl hc
  refine W.eq (g2 := F0 m 4 ls [.int (i32 r6)]) (rfl) ?_
  try dsimp only at h
  refine lv_aload_n B.1 B.2.1 dX16_partOf_4 rfl (lv_at hl 0 rfl) ?_
  refine r_geti B hH hS 33 (by decide) wf_X16_365 rfl rfl dX16_partOf_5 ?_
  obtain ⟨q1, h⟩ := h
  refine lv_imul B.1 B.2.1 dX16_partOf_8 ?_
  rw [i32_mul]
  refine lv_bipush (v := i32 16) B.1 B.2.1 dX16_partOf_9 (by decide) ?_
  refine lv_idiv B.1 B.2.1 dX16_partOf_11 (i32_ne0 (by unfold rng; omega) (by decide)) ?_
  refine W.eq (g2 := F0 m 12 ls [.int (i32 (divI (r6 * gI σ5 rm 33) 16))]) (by unfold divI; rw [i32_self]) ?_
  exact hQ _ _ _ _ _ _ (rng_divI _ _) dX16_partOf_12 hH hc h hGσ5 hS
theorem ok_X16_partOf (hT : Tys cA tys) {Q : Sg → Int → Prop} {X : Sg → String → Prop} (σ : Sg) (v1 : Int64) (hG : RG σ) (hS : Shp dm ra jx rm σ) (h : wp_X16_partOf ra jx rm v1 σ Q X) : Ok l D cA tys A yX16_partOf (.code yX16_partOf cX16_partOf 3 (some .int)) 1 21 [.ref rm, .long v1] σ (QnI dm ra jx rm Q) (QxR dm ra jx rm X) := by
  unfold wp_X16_partOf at h
  exact ok_I (plainFor_of_name (by decide)) (by exact Nat.le_of_ble_eq_true rfl) hT (fun p e R s m args below meth c K hQ hX H locs ls hH hl hc => a_X16_partOf_0 K hQ hX σ v1 h hG hS H locs ls hH (lv_sub (l' := [(0, .ref rm), (1, .long v1)]) hl [0, 1] rfl) hc)
theorem dX16_record_0 : decode cX16_record 0 = .ok (.aload_n 0, 1) := by decide +kernel
theorem dX16_record_1 : decode cX16_record 1 = .ok (.getfield 501, 3) := by decide +kernel
theorem dX16_record_4 : decode cX16_record 4 = .ok (.sipush 4000, 3) := by decide +kernel
theorem dX16_record_7 : decode cX16_record 7 = .ok (.if_icmp .ne 8, 3) := by decide +kernel
theorem dX16_record_10 : decode cX16_record 10 = .ok (.aload_n 0, 1) := by decide +kernel
theorem dX16_record_11 : decode cX16_record 11 = .ok (.getfield 346, 3) := by decide +kernel
theorem dX16_record_14 : decode cX16_record 14 = .ok (.athrow, 1) := by decide +kernel
theorem dX16_record_15 : decode cX16_record 15 = .ok (.aload_n 0, 1) := by decide +kernel
theorem dX16_record_16 : decode cX16_record 16 = .ok (.getfield 498, 3) := by decide +kernel
theorem dX16_record_19 : decode cX16_record 19 = .ok (.istore 12, 2) := by decide +kernel
theorem dX16_record_21 : decode cX16_record 21 = .ok (.aload_n 0, 1) := by decide +kernel
theorem dX16_record_22 : decode cX16_record 22 = .ok (.aload_n 0, 1) := by decide +kernel
theorem dX16_record_23 : decode cX16_record 23 = .ok (.getfield 495, 3) := by decide +kernel
theorem dX16_record_26 : decode cX16_record 26 = .ok (.iload 12, 2) := by decide +kernel
theorem dX16_record_28 : decode cX16_record 28 = .ok (.iaload, 1) := by decide +kernel
theorem dX16_record_29 : decode cX16_record 29 = .ok (.putfield 498, 3) := by decide +kernel
theorem dX16_record_32 : decode cX16_record 32 = .ok (.aload_n 0, 1) := by decide +kernel
theorem dX16_record_33 : decode cX16_record 33 = .ok (.getfield 513, 3) := by decide +kernel
theorem dX16_record_36 : decode cX16_record 36 = .ok (.iload 12, 2) := by decide +kernel
theorem dX16_record_38 : decode cX16_record 38 = .ok (.iload_n 2, 1) := by decide +kernel
theorem dX16_record_39 : decode cX16_record 39 = .ok (.iastore, 1) := by decide +kernel
theorem dX16_record_40 : decode cX16_record 40 = .ok (.aload_n 0, 1) := by decide +kernel
theorem dX16_record_41 : decode cX16_record 41 = .ok (.getfield 516, 3) := by decide +kernel
theorem dX16_record_44 : decode cX16_record 44 = .ok (.iload 12, 2) := by decide +kernel
theorem dX16_record_46 : decode cX16_record 46 = .ok (.iload_n 1, 1) := by decide +kernel
theorem dX16_record_47 : decode cX16_record 47 = .ok (.iastore, 1) := by decide +kernel
theorem dX16_record_48 : decode cX16_record 48 = .ok (.aload_n 0, 1) := by decide +kernel
theorem dX16_record_49 : decode cX16_record 49 = .ok (.getfield 519, 3) := by decide +kernel
theorem dX16_record_52 : decode cX16_record 52 = .ok (.iload 12, 2) := by decide +kernel
theorem dX16_record_54 : decode cX16_record 54 = .ok (.lload_n 3, 1) := by decide +kernel
theorem dX16_record_55 : decode cX16_record 55 = .ok (.lastore, 1) := by decide +kernel
theorem dX16_record_56 : decode cX16_record 56 = .ok (.aload_n 0, 1) := by decide +kernel
theorem dX16_record_57 : decode cX16_record 57 = .ok (.getfield 522, 3) := by decide +kernel
theorem dX16_record_60 : decode cX16_record 60 = .ok (.iload 12, 2) := by decide +kernel
theorem dX16_record_62 : decode cX16_record 62 = .ok (.lload 5, 2) := by decide +kernel
theorem dX16_record_64 : decode cX16_record 64 = .ok (.lastore, 1) := by decide +kernel
theorem dX16_record_65 : decode cX16_record 65 = .ok (.aload_n 0, 1) := by decide +kernel
theorem dX16_record_66 : decode cX16_record 66 = .ok (.getfield 525, 3) := by decide +kernel
theorem dX16_record_69 : decode cX16_record 69 = .ok (.iload 12, 2) := by decide +kernel
theorem dX16_record_71 : decode cX16_record 71 = .ok (.lload 7, 2) := by decide +kernel
theorem dX16_record_73 : decode cX16_record 73 = .ok (.lastore, 1) := by decide +kernel
theorem dX16_record_74 : decode cX16_record 74 = .ok (.iconst 0, 1) := by decide +kernel
theorem dX16_record_75 : decode cX16_record 75 = .ok (.istore 13, 2) := by decide +kernel
theorem dX16_record_77 : decode cX16_record 77 = .ok (.iload 13, 2) := by decide +kernel
theorem dX16_record_79 : decode cX16_record 79 = .ok (.bipush 8, 2) := by decide +kernel
theorem dX16_record_81 : decode cX16_record 81 = .ok (.if_icmp .ge 30, 3) := by decide +kernel
theorem dX16_record_84 : decode cX16_record 84 = .ok (.aload_n 0, 1) := by decide +kernel
theorem dX16_record_85 : decode cX16_record 85 = .ok (.getfield 528, 3) := by decide +kernel
theorem dX16_record_88 : decode cX16_record 88 = .ok (.bipush 8, 2) := by decide +kernel
theorem dX16_record_90 : decode cX16_record 90 = .ok (.iload 12, 2) := by decide +kernel
theorem dX16_record_92 : decode cX16_record 92 = .ok (.imul, 1) := by decide +kernel
theorem dX16_record_93 : decode cX16_record 93 = .ok (.iload 13, 2) := by decide +kernel
theorem dX16_record_95 : decode cX16_record 95 = .ok (.iadd, 1) := by decide +kernel
theorem dX16_record_96 : decode cX16_record 96 = .ok (.aload 9, 2) := by decide +kernel
theorem dX16_record_98 : decode cX16_record 98 = .ok (.iload 10, 2) := by decide +kernel
theorem dX16_record_100 : decode cX16_record 100 = .ok (.iload 13, 2) := by decide +kernel
theorem dX16_record_102 : decode cX16_record 102 = .ok (.iadd, 1) := by decide +kernel
theorem dX16_record_103 : decode cX16_record 103 = .ok (.laload, 1) := by decide +kernel
theorem dX16_record_104 : decode cX16_record 104 = .ok (.lastore, 1) := by decide +kernel
theorem dX16_record_105 : decode cX16_record 105 = .ok (.iinc 13 1, 3) := by decide +kernel
theorem dX16_record_108 : decode cX16_record 108 = .ok (.goto (-31), 3) := by decide +kernel
theorem dX16_record_111 : decode cX16_record 111 = .ok (.aload_n 0, 1) := by decide +kernel
theorem dX16_record_112 : decode cX16_record 112 = .ok (.getfield 531, 3) := by decide +kernel
theorem dX16_record_115 : decode cX16_record 115 = .ok (.iload 12, 2) := by decide +kernel
theorem dX16_record_117 : decode cX16_record 117 = .ok (.iload 11, 2) := by decide +kernel
theorem dX16_record_119 : decode cX16_record 119 = .ok (.iastore, 1) := by decide +kernel
theorem dX16_record_120 : decode cX16_record 120 = .ok (.aload_n 0, 1) := by decide +kernel
theorem dX16_record_121 : decode cX16_record 121 = .ok (.getfield 495, 3) := by decide +kernel
theorem dX16_record_124 : decode cX16_record 124 = .ok (.iload 12, 2) := by decide +kernel
theorem dX16_record_126 : decode cX16_record 126 = .ok (.iconst (-1), 1) := by decide +kernel
theorem dX16_record_127 : decode cX16_record 127 = .ok (.iastore, 1) := by decide +kernel
theorem dX16_record_128 : decode cX16_record 128 = .ok (.aload_n 0, 1) := by decide +kernel
theorem dX16_record_129 : decode cX16_record 129 = .ok (.getfield 507, 3) := by decide +kernel
theorem dX16_record_132 : decode cX16_record 132 = .ok (.iload_n 1, 1) := by decide +kernel
theorem dX16_record_133 : decode cX16_record 133 = .ok (.iaload, 1) := by decide +kernel
theorem dX16_record_134 : decode cX16_record 134 = .ok (.iconst (-1), 1) := by decide +kernel
theorem dX16_record_135 : decode cX16_record 135 = .ok (.if_icmp .ne 14, 3) := by decide +kernel
theorem dX16_record_138 : decode cX16_record 138 = .ok (.aload_n 0, 1) := by decide +kernel
theorem dX16_record_139 : decode cX16_record 139 = .ok (.getfield 504, 3) := by decide +kernel
theorem dX16_record_142 : decode cX16_record 142 = .ok (.iload_n 1, 1) := by decide +kernel
theorem dX16_record_143 : decode cX16_record 143 = .ok (.iload 12, 2) := by decide +kernel
theorem dX16_record_145 : decode cX16_record 145 = .ok (.iastore, 1) := by decide +kernel
theorem dX16_record_146 : decode cX16_record 146 = .ok (.goto 16, 3) := by decide +kernel
theorem dX16_record_149 : decode cX16_record 149 = .ok (.aload_n 0, 1) := by decide +kernel
theorem dX16_record_150 : decode cX16_record 150 = .ok (.getfield 495, 3) := by decide +kernel
theorem dX16_record_153 : decode cX16_record 153 = .ok (.aload_n 0, 1) := by decide +kernel
theorem dX16_record_154 : decode cX16_record 154 = .ok (.getfield 507, 3) := by decide +kernel
theorem dX16_record_157 : decode cX16_record 157 = .ok (.iload_n 1, 1) := by decide +kernel
theorem dX16_record_158 : decode cX16_record 158 = .ok (.iaload, 1) := by decide +kernel
theorem dX16_record_159 : decode cX16_record 159 = .ok (.iload 12, 2) := by decide +kernel
theorem dX16_record_161 : decode cX16_record 161 = .ok (.iastore, 1) := by decide +kernel
theorem dX16_record_162 : decode cX16_record 162 = .ok (.aload_n 0, 1) := by decide +kernel
theorem dX16_record_163 : decode cX16_record 163 = .ok (.getfield 507, 3) := by decide +kernel
theorem dX16_record_166 : decode cX16_record 166 = .ok (.iload_n 1, 1) := by decide +kernel
theorem dX16_record_167 : decode cX16_record 167 = .ok (.iload 12, 2) := by decide +kernel
theorem dX16_record_169 : decode cX16_record 169 = .ok (.iastore, 1) := by decide +kernel
theorem dX16_record_170 : decode cX16_record 170 = .ok (.aload_n 0, 1) := by decide +kernel
theorem dX16_record_171 : decode cX16_record 171 = .ok (.getfield 510, 3) := by decide +kernel
theorem dX16_record_174 : decode cX16_record 174 = .ok (.iload_n 1, 1) := by decide +kernel
theorem dX16_record_175 : decode cX16_record 175 = .ok (.dup2, 1) := by decide +kernel
theorem dX16_record_176 : decode cX16_record 176 = .ok (.iaload, 1) := by decide +kernel
theorem dX16_record_177 : decode cX16_record 177 = .ok (.iconst 1, 1) := by decide +kernel
theorem dX16_record_178 : decode cX16_record 178 = .ok (.iadd, 1) := by decide +kernel
theorem dX16_record_179 : decode cX16_record 179 = .ok (.iastore, 1) := by decide +kernel
theorem dX16_record_180 : decode cX16_record 180 = .ok (.aload_n 0, 1) := by decide +kernel
theorem dX16_record_181 : decode cX16_record 181 = .ok (.dup, 1) := by decide +kernel
theorem dX16_record_182 : decode cX16_record 182 = .ok (.getfield 501, 3) := by decide +kernel
theorem dX16_record_185 : decode cX16_record 185 = .ok (.iconst 1, 1) := by decide +kernel
theorem dX16_record_186 : decode cX16_record 186 = .ok (.iadd, 1) := by decide +kernel
theorem dX16_record_187 : decode cX16_record 187 = .ok (.putfield 501, 3) := by decide +kernel
theorem dX16_record_190 : decode cX16_record 190 = .ok (.iload 12, 2) := by decide +kernel
theorem dX16_record_192 : decode cX16_record 192 = .ok (.ireturn, 1) := by decide +kernel
set_option maxRecDepth 20000 in
theorem a_X16_record_162 {Q : Sg → Int → Prop} {X : Sg → String → Prop} (K : MC R p s m args c cX16_record 14 RX16 D cA tys A n0 s0 0 0 []) (hQ : HQI p l e R s m args below meth c cX16_record D cA A n0 s0 QM dm ra jx rm Q) (hX : HX p l e R s m args below meth c 14 D cA A n0 s0 QM dm ra jx rm X) : ∀ (σ : Sg) (v1 : Int) (v12 : Int) (g1 : rng v1) (g12 : rng v12), w_X16_record_162 ra jx rm Q X σ v1 v12 → RG σ → Shp dm ra jx rm σ → JJ p l e R s m args below meth c 14 D cA A n0 s0 QM σ 162 [(0, .ref rm), (1, .int (i32 v1)), (12, .int (i32 v12))] [] := by
  intro σ v1 v12 g1 g12 h hGσ hS H locs ls hH hl hc
  have B := K.1
  unfold w_X16_record_162 at h
  refine lv_aload_n B.1 B.2.1 dX16_record_162 rfl (lv_at hl 0 rfl) ?_
  refine r_arr B hH hS 77 (kd := 100) (n := 64) (by decide) (by decide) wf_X16_507 rfl rfl dX16_record_163 ?_
  refine lv_iload_n B.1 B.2.1 dX16_record_166 rfl (lv_at hl 1 rfl) ?_
  refine lv_iload B.1 B.2.1 dX16_record_167 (lv_at hl 2 rfl) ?_
  obtain ⟨q1, h⟩ := h
  obtain ⟨σ33, eσ33⟩ : ∃ z, z = pI σ (ra 77) v1.toNat v12 := ⟨_, rfl⟩
  have h := h σ33 eσ33
  refine x_iast B K.2.1 hH (hS.ar (k := 77) (kd := 100) (n := 64) (by decide)) (by decide) q1 dX16_record_169 (fun H locs hH => ?_)
  have hH : Hd D cA A s (pI σ (ra 77) v1.toNat v12) H locs := hH
  rw [← eσ33] at hH
  have hGσ33 : RG σ33 := by rw [eσ33]; exact hGσ.pI g12
  have hS : Shp dm ra jx rm σ33 := by rw [eσ33]; exact hS
  have hc : CB n0 s0 σ33 := by rw [eσ33]; exact hc
  rw [show gc σ = gc σ33 by rw [eσ33], show gs σ = gs σ33 by rw [eσ33]]
  refine lv_aload_n B.1 B.2.1 dX16_record_170 rfl (lv_at hl 0 rfl) ?_
  refine r_arr B hH hS 78 (kd := 100) (n := 64) (by decide) (by decide) wf_X16_510 rfl rfl dX16_record_171 ?_
  refine lv_iload_n B.1 B.2.1 dX16_record_174 rfl (lv_at hl 1 rfl) ?_
  refine lv_dup2_11 B.1 B.2.1 dX16_record_175 rfl rfl ?_
  obtain ⟨q3, h⟩ := h
  refine x_iald B K.2.1 hH (hS.ar (k := 78) (kd := 100) (n := 64) (by decide)) (by decide) q3 dX16_record_176 ?_
  refine lv_iconst (v := i32 1) B.1 B.2.1 dX16_record_177 (by decide) ?_
  obtain ⟨q4, h⟩ := h
  refine lv_iadd B.1 B.2.1 dX16_record_178 ?_
  rw [i32_add]
  obtain ⟨q5, h⟩ := h
  obtain ⟨σ34, eσ34⟩ : ∃ z, z = pI σ33 (ra 78) v1.toNat ((gI σ33 (ra 78) v1.toNat) + 1) := ⟨_, rfl⟩
  have h := h σ34 eσ34
  refine x_iast B K.2.1 hH (hS.ar (k := 78) (kd := 100) (n := 64) (by decide)) (by decide) q5 dX16_record_179 (fun H locs hH => ?_)
  have hH : Hd D cA A s (pI σ33 (ra 78) v1.toNat ((gI σ33 (ra 78) v1.toNat) + 1)) H locs := hH
  rw [← eσ34] at hH
  have hGσ34 : RG σ34 := by rw [eσ34]; exact hGσ33.pI q4
  have hS : Shp dm ra jx rm σ34 := by rw [eσ34]; exact hS
  have hc : CB n0 s0 σ34 := by rw [eσ34]; exact hc
  rw [show gc σ33 = gc σ34 by rw [eσ34], show gs σ33 = gs σ34 by rw [eσ34]]
  refine lv_aload_n B.1 B.2.1 dX16_record_180 rfl (lv_at hl 0 rfl) ?_
  refine lv_dup B.1 B.2.1 dX16_record_181 rfl ?_
  refine r_geti B hH hS 80 (by decide) wf_X16_501 rfl rfl dX16_record_182 ?_
  refine lv_iconst (v := i32 1) B.1 B.2.1 dX16_record_185 (by decide) ?_
  obtain ⟨q7, h⟩ := h
  refine lv_iadd B.1 B.2.1 dX16_record_186 ?_
  rw [i32_add]
  obtain ⟨σ35, eσ35⟩ : ∃ z, z = pI σ34 rm 80 (gI σ34 rm 80 + 1) := ⟨_, rfl⟩
  have h := h σ35 eσ35
  refine r_puti B hH hS 80 (ty := .int) (by decide) wf_X16_501 rfl rfl rfl rfl rfl rfl dX16_record_187 (fun H locs hH => ?_)
  have hH : Hd D cA A s (pI σ34 rm 80 (gI σ34 rm 80 + 1)) H locs := hH
  rw [← eσ35] at hH
  have hGσ35 : RG σ35 := by rw [eσ35]; exact hGσ34.pI q7
  have hS : Shp dm ra jx rm σ35 := by rw [eσ35]; exact hS
  have hc : CB n0 s0 σ35 := by rw [eσ35]; exact hc
  rw [show gc σ34 = gc σ35 by rw [eσ35], show gs σ34 = gs σ35 by rw [eσ35]]
  refine lv_iload B.1 B.2.1 dX16_record_190 (lv_at hl 2 rfl) ?_
  exact hQ _ _ _ _ _ _ g12 dX16_record_192 hH hc h hGσ35 hS
set_option maxRecDepth 20000 in
theorem a_X16_record_149 {Q : Sg → Int → Prop} {X : Sg → String → Prop} (K : MC R p s m args c cX16_record 14 RX16 D cA tys A n0 s0 0 0 []) (hQ : HQI p l e R s m args below meth c cX16_record D cA A n0 s0 QM dm ra jx rm Q) (hX : HX p l e R s m args below meth c 14 D cA A n0 s0 QM dm ra jx rm X) : ∀ (σ : Sg) (v1 : Int) (v12 : Int) (g1 : rng v1) (g12 : rng v12), w_X16_record_149 ra jx rm Q X σ v1 v12 → RG σ → Shp dm ra jx rm σ → JJ p l e R s m args below meth c 14 D cA A n0 s0 QM σ 149 [(0, .ref rm), (1, .int (i32 v1)), (12, .int (i32 v12))] [] := by
  intro σ v1 v12 g1 g12 h hGσ hS H locs ls hH hl hc
  have B := K.1
  unfold w_X16_record_149 at h
  refine lv_aload_n B.1 B.2.1 dX16_record_149 rfl (lv_at hl 0 rfl) ?_
  refine r_arr B hH hS 75 (kd := 100) (n := 4000) (by decide) (by decide) wf_X16_495 rfl rfl dX16_record_150 ?_
  refine lv_aload_n B.1 B.2.1 dX16_record_153 rfl (lv_at hl 0 rfl) ?_
  refine r_arr B hH hS 77 (kd := 100) (n := 64) (by decide) (by decide) wf_X16_507 rfl rfl dX16_record_154 ?_
  refine lv_iload_n B.1 B.2.1 dX16_record_157 rfl (lv_at hl 1 rfl) ?_
  obtain ⟨q1, h⟩ := h
  refine x_iald B K.2.1 hH (hS.ar (k := 77) (kd := 100) (n := 64) (by decide)) (by decide) q1 dX16_record_158 ?_
  refine lv_iload B.1 B.2.1 dX16_record_159 (lv_at hl 2 rfl) ?_
  obtain ⟨q2, h⟩ := h
  obtain ⟨σ36, eσ36⟩ : ∃ z, z = pI σ (ra 75) (gI σ (ra 77) v1.toNat).toNat v12 := ⟨_, rfl⟩
  have h := h σ36 eσ36
  refine x_iast B K.2.1 hH (hS.ar (k := 75) (kd := 100) (n := 4000) (by decide)) (by decide) q2 dX16_record_161 (fun H locs hH => ?_)
  have hH : Hd D cA A s (pI σ (ra 75) (gI σ (ra 77) v1.toNat).toNat v12) H locs := hH
  rw [← eσ36] at hH
  have hGσ36 : RG σ36 := by rw [eσ36]; exact hGσ.pI g12
  have hS : Shp dm ra jx rm σ36 := by rw [eσ36]; exact hS
  have hc : CB n0 s0 σ36 := by rw [eσ36]; exact hc
  rw [show gc σ = gc σ36 by rw [eσ36], show gs σ = gs σ36 by rw [eσ36]]
  exact a_X16_record_162 K hQ hX _ _ _ g1 g12 h hGσ36 hS _ _ _ hH (lv_sub (l' := [(0, .ref rm), (1, .int (i32 v1)), (12, .int (i32 v12))]) hl [0, 1, 2] rfl) hc
set_option maxRecDepth 20000 in
theorem a_X16_record_138 {Q : Sg → Int → Prop} {X : Sg → String → Prop} (K : MC R p s m args c cX16_record 14 RX16 D cA tys A n0 s0 0 0 []) (hQ : HQI p l e R s m args below meth c cX16_record D cA A n0 s0 QM dm ra jx rm Q) (hX : HX p l e R s m args below meth c 14 D cA A n0 s0 QM dm ra jx rm X) : ∀ (σ : Sg) (v1 : Int) (v12 : Int) (g1 : rng v1) (g12 : rng v12), w_X16_record_138 ra jx rm Q X σ v1 v12 → RG σ → Shp dm ra jx rm σ → JJ p l e R s m args below meth c 14 D cA A n0 s0 QM σ 138 [(0, .ref rm), (1, .int (i32 v1)), (12, .int (i32 v12))] [] := by
  intro σ v1 v12 g1 g12 h hGσ hS H locs ls hH hl hc
  have B := K.1
  unfold w_X16_record_138 at h
  refine lv_aload_n B.1 B.2.1 dX16_record_138 rfl (lv_at hl 0 rfl) ?_
  refine r_arr B hH hS 76 (kd := 100) (n := 64) (by decide) (by decide) wf_X16_504 rfl rfl dX16_record_139 ?_
  refine lv_iload_n B.1 B.2.1 dX16_record_142 rfl (lv_at hl 1 rfl) ?_
  refine lv_iload B.1 B.2.1 dX16_record_143 (lv_at hl 2 rfl) ?_
  obtain ⟨q1, h⟩ := h
  obtain ⟨σ37, eσ37⟩ : ∃ z, z = pI σ (ra 76) v1.toNat v12 := ⟨_, rfl⟩
  have h := h σ37 eσ37
  refine x_iast B K.2.1 hH (hS.ar (k := 76) (kd := 100) (n := 64) (by decide)) (by decide) q1 dX16_record_145 (fun H locs hH => ?_)
  have hH : Hd D cA A s (pI σ (ra 76) v1.toNat v12) H locs := hH
  rw [← eσ37] at hH
  have hGσ37 : RG σ37 := by rw [eσ37]; exact hGσ.pI g12
  have hS : Shp dm ra jx rm σ37 := by rw [eσ37]; exact hS
  have hc : CB n0 s0 σ37 := by rw [eσ37]; exact hc
  rw [show gc σ = gc σ37 by rw [eσ37], show gs σ = gs σ37 by rw [eσ37]]
  refine lv_goto (tgt := 162) B.1 B.2.1 dX16_record_146 (by decide) ?_
  exact a_X16_record_162 K hQ hX _ _ _ g1 g12 h hGσ37 hS _ _ _ hH (lv_sub (l' := [(0, .ref rm), (1, .int (i32 v1)), (12, .int (i32 v12))]) hl [0, 1, 2] rfl) hc
set_option maxRecDepth 20000 in
theorem a_X16_record_111 {Q : Sg → Int → Prop} {X : Sg → String → Prop} (K : MC R p s m args c cX16_record 14 RX16 D cA tys A n0 s0 0 0 []) (hQ : HQI p l e R s m args below meth c cX16_record D cA A n0 s0 QM dm ra jx rm Q) (hX : HX p l e R s m args below meth c 14 D cA A n0 s0 QM dm ra jx rm X) : ∀ (σ : Sg) (v1 : Int) (v11 : Int) (v12 : Int) (g1 : rng v1) (g11 : rng v11) (g12 : rng v12), w_X16_record_111 ra jx rm Q X σ v1 v11 v12 → RG σ → Shp dm ra jx rm σ → JJ p l e R s m args below meth c 14 D cA A n0 s0 QM σ 111 [(0, .ref rm), (1, .int (i32 v1)), (11, .int (i32 v11)), (12, .int (i32 v12))] [] := by
  intro σ v1 v11 v12 g1 g11 g12 h hGσ hS H locs ls hH hl hc
  have B := K.1
  unfold w_X16_record_111 at h
  refine lv_aload_n B.1 B.2.1 dX16_record_111 rfl (lv_at hl 0 rfl) ?_
  refine r_arr B hH hS 74 (kd := 100) (n := 4000) (by decide) (by decide) wf_X16_531 rfl rfl dX16_record_112 ?_
  refine lv_iload B.1 B.2.1 dX16_record_115 (lv_at hl 3 rfl) ?_
  refine lv_iload B.1 B.2.1 dX16_record_117 (lv_at hl 2 rfl) ?_
  obtain ⟨q1, h⟩ := h
  obtain ⟨σ38, eσ38⟩ : ∃ z, z = pI σ (ra 74) v12.toNat v11 := ⟨_, rfl⟩
  have h := h σ38 eσ38
  refine x_iast B K.2.1 hH (hS.ar (k := 74) (kd := 100) (n := 4000) (by decide)) (by decide) q1 dX16_record_119 (fun H locs hH => ?_)
  have hH : Hd D cA A s (pI σ (ra 74) v12.toNat v11) H locs := hH
  rw [← eσ38] at hH
  have hGσ38 : RG σ38 := by rw [eσ38]; exact hGσ.pI g11
  have hS : Shp dm ra jx rm σ38 := by rw [eσ38]; exact hS
  have hc : CB n0 s0 σ38 := by rw [eσ38]; exact hc
  rw [show gc σ = gc σ38 by rw [eσ38], show gs σ = gs σ38 by rw [eσ38]]
  refine lv_aload_n B.1 B.2.1 dX16_record_120 rfl (lv_at hl 0 rfl) ?_
  refine r_arr B hH hS 75 (kd := 100) (n := 4000) (by decide) (by decide) wf_X16_495 rfl rfl dX16_record_121 ?_
  refine lv_iload B.1 B.2.1 dX16_record_124 (lv_at hl 3 rfl) ?_
  refine lv_iconst (v := i32 (-1)) B.1 B.2.1 dX16_record_126 (by decide) ?_
  obtain ⟨q3, h⟩ := h
  obtain ⟨σ39, eσ39⟩ : ∃ z, z = pI σ38 (ra 75) v12.toNat (-1) := ⟨_, rfl⟩
  have h := h σ39 eσ39
  refine x_iast B K.2.1 hH (hS.ar (k := 75) (kd := 100) (n := 4000) (by decide)) (by decide) q3 dX16_record_127 (fun H locs hH => ?_)
  have hH : Hd D cA A s (pI σ38 (ra 75) v12.toNat (-1)) H locs := hH
  rw [← eσ39] at hH
  have hGσ39 : RG σ39 := by rw [eσ39]; exact hGσ38.pI (by unfold rng; omega)
  have hS : Shp dm ra jx rm σ39 := by rw [eσ39]; exact hS
  have hc : CB n0 s0 σ39 := by rw [eσ39]; exact hc
  rw [show gc σ38 = gc σ39 by rw [eσ39], show gs σ38 = gs σ39 by rw [eσ39]]
  refine lv_aload_n B.1 B.2.1 dX16_record_128 rfl (lv_at hl 0 rfl) ?_
  refine r_arr B hH hS 77 (kd := 100) (n := 64) (by decide) (by decide) wf_X16_507 rfl rfl dX16_record_129 ?_
  refine lv_iload_n B.1 B.2.1 dX16_record_132 rfl (lv_at hl 1 rfl) ?_
  obtain ⟨q5, h⟩ := h
  refine x_iald B K.2.1 hH (hS.ar (k := 77) (kd := 100) (n := 64) (by decide)) (by decide) q5 dX16_record_133 ?_
  refine lv_iconst (v := i32 (-1)) B.1 B.2.1 dX16_record_134 (by decide) ?_
  refine lv_icmp_ne (tgt := 149) B.1 B.2.1 dX16_record_135 (by decide) (fun h9 => ?_) (fun h9 => ?_)
  · rw [if_pos (fun q => h9 ((i32_eq (hGσ39 _ _) (by unfold rng; omega)).mpr q))] at h
    exact a_X16_record_149 K hQ hX _ _ _ g1 g12 h hGσ39 hS _ _ _ hH (lv_sub (l' := [(0, .ref rm), (1, .int (i32 v1)), (12, .int (i32 v12))]) hl [0, 1, 3] rfl) hc
  · rw [if_neg (fun q => q ((i32_eq (hGσ39 _ _) (by unfold rng; omega)).mp h9))] at h
    exact a_X16_record_138 K hQ hX _ _ _ g1 g12 h hGσ39 hS _ _ _ hH (lv_sub (l' := [(0, .ref rm), (1, .int (i32 v1)), (12, .int (i32 v12))]) hl [0, 1, 3] rfl) hc
set_option maxRecDepth 20000 in
theorem a_X16_record_84 {Q : Sg → Int → Prop} {X : Sg → String → Prop} (K : MC R p s m args c cX16_record 14 RX16 D cA tys A n0 s0 0 0 []) (hQ : HQI p l e R s m args below meth c cX16_record D cA A n0 s0 QM dm ra jx rm Q) (hX : HX p l e R s m args below meth c 14 D cA A n0 s0 QM dm ra jx rm X) {K77 : Sg → Int → Option Nat → Int → Int → Int → Int → Prop} (hK77 : ∀ (σ : Sg) (v1 : Int) (v9 : Option Nat) (v10 : Int) (v11 : Int) (v12 : Int) (v13 : Int) (g1 : rng v1) (g10 : rng v10) (g11 : rng v11) (g12 : rng v12) (g13 : rng v13), K77 σ v1 v9 v10 v11 v12 v13 → RG σ → Shp dm ra jx rm σ → JJ p l e R s m args below meth c 14 D cA A n0 s0 QM σ 77 [(0, .ref rm), (1, .int (i32 v1)), (9, va_rf v9), (10, .int (i32 v10)), (11, .int (i32 v11)), (12, .int (i32 v12)), (13, .int (i32 v13))] []) : ∀ (σ : Sg) (v1 : Int) (v9 : Option Nat) (v10 : Int) (v11 : Int) (v12 : Int) (v13 : Int) (g1 : rng v1) (g10 : rng v10) (g11 : rng v11) (g12 : rng v12) (g13 : rng v13), w_X16_record_84 ra jx rm K77 Q X σ v1 v9 v10 v11 v12 v13 → RG σ → Shp dm ra jx rm σ → JJ p l e R s m args below meth c 14 D cA A n0 s0 QM σ 84 [(0, .ref rm), (1, .int (i32 v1)), (9, va_rf v9), (10, .int (i32 v10)), (11, .int (i32 v11)), (12, .int (i32 v12)), (13, .int (i32 v13))] [] := by
  intro σ v1 v9 v10 v11 v12 v13 g1 g10 g11 g12 g13 h hGσ hS H locs ls hH hl hc
  have B := K.1
  unfold w_X16_record_84 at h
  refine lv_aload_n B.1 B.2.1 dX16_record_84 rfl (lv_at hl 0 rfl) ?_
  refine r_arr B hH hS 73 (kd := 101) (n := 32000) (by decide) (by decide) wf_X16_528 rfl rfl dX16_record_85 ?_
  refine lv_bipush (v := i32 8) B.1 B.2.1 dX16_record_88 (by decide) ?_
  refine lv_iload B.1 B.2.1 dX16_record_90 (lv_at hl 5 rfl) ?_
  obtain ⟨q1, h⟩ := h
  refine lv_imul B.1 B.2.1 dX16_record_92 ?_
  rw [i32_mul]
  refine lv_iload B.1 B.2.1 dX16_record_93 (lv_at hl 6 rfl) ?_
  obtain ⟨q2, h⟩ := h
  refine lv_iadd B.1 B.2.1 dX16_record_95 ?_
  rw [i32_add]
  refine lv_aloadQ B.1 B.2.1 dX16_record_96 (lv_at hl 2 rfl) ?_
  refine lv_iload B.1 B.2.1 dX16_record_98 (lv_at hl 3 rfl) ?_
  refine lv_iload B.1 B.2.1 dX16_record_100 (lv_at hl 6 rfl) ?_
  obtain ⟨q3, h⟩ := h
  refine lv_iadd B.1 B.2.1 dX16_record_102 ?_
  rw [i32_add]
  obtain ⟨b40, n41, eb40, jb40, ib40, h⟩ := h
  refine W.eq (g2 := F0 m 103 ls [.int (i32 (v10 + v13)), .ref b40, .int (i32 ((8 * v12) + v13)), .ref (ra 73)]) (by rw [eb40]; rfl) ?_
  refine x_lald B K.2.1 hH (hS.any jb40) (rAr_lt jb40) ib40 dX16_record_103 ?_
  obtain ⟨q5, h⟩ := h
  obtain ⟨σ42, eσ42⟩ : ∃ z, z = pJ σ (ra 73) ((8 * v12) + v13).toNat (gJ σ b40 (v10 + v13).toNat) := ⟨_, rfl⟩
  have h := h σ42 eσ42
  refine x_last B K.2.1 hH (hS.ar (k := 73) (kd := 101) (n := 32000) (by decide)) (by decide) q5 dX16_record_104 (fun H locs hH => ?_)
  have hH : Hd D cA A s (pJ σ (ra 73) ((8 * v12) + v13).toNat (gJ σ b40 (v10 + v13).toNat)) H locs := hH
  rw [← eσ42] at hH
  have hGσ42 : RG σ42 := by rw [eσ42]; exact hGσ.pJ
  have hS : Shp dm ra jx rm σ42 := by rw [eσ42]; exact hS
  have hc : CB n0 s0 σ42 := by rw [eσ42]; exact hc
  rw [show gc σ = gc σ42 by rw [eσ42], show gs σ = gs σ42 by rw [eσ42]]
  obtain ⟨q7, h⟩ := h
  refine lv_iinc (k := 6) (v := i32 (v13 + 1)) (lv' := [(13, .int (i32 (v13 + 1))), (0, .ref rm), (1, .int (i32 v1)), (9, va_rf v9), (10, .int (i32 v10)), (11, .int (i32 v11)), (12, .int (i32 v12))]) B.1 B.2.1 dX16_record_105 hl rfl (i32_add _ _) (by decide) rfl (fun ls hl => ?_)
  refine lv_goto (tgt := 77) B.1 B.2.1 dX16_record_108 (by decide) ?_
  exact hK77 _ _ _ _ _ _ _ g1 g10 g11 g12 q7 h hGσ42 hS _ _ _ hH (lv_sub (l' := [(0, .ref rm), (1, .int (i32 v1)), (9, va_rf v9), (10, .int (i32 v10)), (11, .int (i32 v11)), (12, .int (i32 v12)), (13, .int (i32 (v13 + 1)))]) hl [1, 2, 3, 4, 5, 6, 0] rfl) hc
set_option maxRecDepth 20000 in
theorem a_X16_record_77 {Q : Sg → Int → Prop} {X : Sg → String → Prop} (K : MC R p s m args c cX16_record 14 RX16 D cA tys A n0 s0 0 0 []) (hQ : HQI p l e R s m args below meth c cX16_record D cA A n0 s0 QM dm ra jx rm Q) (hX : HX p l e R s m args below meth c 14 D cA A n0 s0 QM dm ra jx rm X) {K77 : Sg → Int → Option Nat → Int → Int → Int → Int → Prop} (hK77 : ∀ (σ : Sg) (v1 : Int) (v9 : Option Nat) (v10 : Int) (v11 : Int) (v12 : Int) (v13 : Int) (g1 : rng v1) (g10 : rng v10) (g11 : rng v11) (g12 : rng v12) (g13 : rng v13), K77 σ v1 v9 v10 v11 v12 v13 → RG σ → Shp dm ra jx rm σ → JJ p l e R s m args below meth c 14 D cA A n0 s0 QM σ 77 [(0, .ref rm), (1, .int (i32 v1)), (9, va_rf v9), (10, .int (i32 v10)), (11, .int (i32 v11)), (12, .int (i32 v12)), (13, .int (i32 v13))] []) : ∀ (σ : Sg) (v1 : Int) (v9 : Option Nat) (v10 : Int) (v11 : Int) (v12 : Int) (v13 : Int) (g1 : rng v1) (g10 : rng v10) (g11 : rng v11) (g12 : rng v12) (g13 : rng v13), w_X16_record_77 ra jx rm K77 Q X σ v1 v9 v10 v11 v12 v13 → RG σ → Shp dm ra jx rm σ → JJ p l e R s m args below meth c 14 D cA A n0 s0 QM σ 77 [(0, .ref rm), (1, .int (i32 v1)), (9, va_rf v9), (10, .int (i32 v10)), (11, .int (i32 v11)), (12, .int (i32 v12)), (13, .int (i32 v13))] [] := by
  intro σ v1 v9 v10 v11 v12 v13 g1 g10 g11 g12 g13 h hGσ hS H locs ls hH hl hc
  have B := K.1
  unfold w_X16_record_77 at h
  refine lv_iload B.1 B.2.1 dX16_record_77 (lv_at hl 6 rfl) ?_
  refine lv_bipush (v := i32 8) B.1 B.2.1 dX16_record_79 (by decide) ?_
  refine lv_icmp_ge (tgt := 111) B.1 B.2.1 dX16_record_81 (by decide) (fun h9 => ?_) (fun h9 => ?_)
  · rw [if_pos ((i32_le (by unfold rng; omega) g13).mp h9)] at h
    exact a_X16_record_111 K hQ hX _ _ _ _ g1 g11 g12 h hGσ hS _ _ _ hH (lv_sub (l' := [(0, .ref rm), (1, .int (i32 v1)), (11, .int (i32 v11)), (12, .int (i32 v12))]) hl [0, 1, 4, 5] rfl) hc
  · rw [if_neg (fun q => h9 ((i32_le (by unfold rng; omega) g13).mpr q))] at h
    exact a_X16_record_84 K hQ hX hK77 _ _ _ _ _ _ _ g1 g10 g11 g12 g13 h hGσ hS _ _ _ hH (lv_sub (l' := [(0, .ref rm), (1, .int (i32 v1)), (9, va_rf v9), (10, .int (i32 v10)), (11, .int (i32 v11)), (12, .int (i32 v12)), (13, .int (i32 v13))]) hl [0, 1, 2, 3, 4, 5, 6] rfl) hc
theorem al_X16_record_77 {Q : Sg → Int → Prop} {X : Sg → String → Prop} (K : MC R p s m args c cX16_record 14 RX16 D cA tys A n0 s0 0 0 []) (hQ : HQI p l e R s m args below meth c cX16_record D cA A n0 s0 QM dm ra jx rm Q) (hX : HX p l e R s m args below meth c 14 D cA A n0 s0 QM dm ra jx rm X) : ∀ (n : Nat), ∀ (σ : Sg) (v1 : Int) (v9 : Option Nat) (v10 : Int) (v11 : Int) (v12 : Int) (v13 : Int) (g1 : rng v1) (g10 : rng v10) (g11 : rng v11) (g12 : rng v12) (g13 : rng v13), wl_X16_record_77 ra jx rm Q X n σ v1 v9 v10 v11 v12 v13 → RG σ → Shp dm ra jx rm σ → JJ p l e R s m args below meth c 14 D cA A n0 s0 QM σ 77 [(0, .ref rm), (1, .int (i32 v1)), (9, va_rf v9), (10, .int (i32 v10)), (11, .int (i32 v11)), (12, .int (i32 v12)), (13, .int (i32 v13))] [] := by
  intro n
  induction n with
  | zero => intro σ v1 v9 v10 v11 v12 v13 g1 g10 g11 g12 g13 h; exact h.elim
  | succ n ih => exact fun σ v1 v9 v10 v11 v12 v13 g1 g10 g11 g12 g13 h => a_X16_record_77 K hQ hX ih σ v1 v9 v10 v11 v12 v13 g1 g10 g11 g12 g13 h
set_option maxRecDepth 20000 in
theorem a_X16_record_15 {Q : Sg → Int → Prop} {X : Sg → String → Prop} (K : MC R p s m args c cX16_record 14 RX16 D cA tys A n0 s0 0 0 []) (hQ : HQI p l e R s m args below meth c cX16_record D cA A n0 s0 QM dm ra jx rm Q) (hX : HX p l e R s m args below meth c 14 D cA A n0 s0 QM dm ra jx rm X) : ∀ (σ : Sg) (v1 : Int) (v2 : Int) (v3 : Int64) (v5 : Int64) (v7 : Int64) (v9 : Option Nat) (v10 : Int) (v11 : Int) (g1 : rng v1) (g2 : rng v2) (g10 : rng v10) (g11 : rng v11), w_X16_record_15 ra jx rm Q X σ v1 v2 v3 v5 v7 v9 v10 v11 → RG σ → Shp dm ra jx rm σ → JJ p l e R s m args below meth c 14 D cA A n0 s0 QM σ 15 [(0, .ref rm), (1, .int (i32 v1)), (2, .int (i32 v2)), (3, .long v3), (5, .long v5), (7, .long v7), (9, va_rf v9), (10, .int (i32 v10)), (11, .int (i32 v11))] [] := by
  intro σ v1 v2 v3 v5 v7 v9 v10 v11 g1 g2 g10 g11 h hGσ hS H locs ls hH hl hc
  have B := K.1
  unfold w_X16_record_15 at h
  refine lv_aload_n B.1 B.2.1 dX16_record_15 rfl (lv_at hl 0 rfl) ?_
  refine r_geti B hH hS 79 (by decide) wf_X16_498 rfl rfl dX16_record_16 ?_
  refine lv_istore (lv' := [(12, .int (i32 (gI σ rm 79))), (0, .ref rm), (1, .int (i32 v1)), (2, .int (i32 v2)), (3, .long v3), (5, .long v5), (7, .long v7), (9, va_rf v9), (10, .int (i32 v10)), (11, .int (i32 v11))]) B.1 B.2.1 dX16_record_19 hl (by decide) rfl (fun ls hl => ?_)
  refine lv_aload_n B.1 B.2.1 dX16_record_21 rfl (lv_at hl 1 rfl) ?_
  refine lv_aload_n B.1 B.2.1 dX16_record_22 rfl (lv_at hl 1 rfl) ?_
  refine r_arr B hH hS 75 (kd := 100) (n := 4000) (by decide) (by decide) wf_X16_495 rfl rfl dX16_record_23 ?_
  refine lv_iload B.1 B.2.1 dX16_record_26 (lv_at hl 0 rfl) ?_
  obtain ⟨q1, h⟩ := h
  refine x_iald B K.2.1 hH (hS.ar (k := 75) (kd := 100) (n := 4000) (by decide)) (by decide) q1 dX16_record_28 ?_
  obtain ⟨σ43, eσ43⟩ : ∃ z, z = pI σ rm 79 (gI σ (ra 75) (gI σ rm 79).toNat) := ⟨_, rfl⟩
  have h := h σ43 eσ43
  refine r_puti B hH hS 79 (ty := .int) (by decide) wf_X16_498 rfl rfl rfl rfl rfl rfl dX16_record_29 (fun H locs hH => ?_)
  have hH : Hd D cA A s (pI σ rm 79 (gI σ (ra 75) (gI σ rm 79).toNat)) H locs := hH
  rw [← eσ43] at hH
  have hGσ43 : RG σ43 := by rw [eσ43]; exact hGσ.pI (hGσ _ _)
  have hS : Shp dm ra jx rm σ43 := by rw [eσ43]; exact hS
  have hc : CB n0 s0 σ43 := by rw [eσ43]; exact hc
  rw [show gc σ = gc σ43 by rw [eσ43], show gs σ = gs σ43 by rw [eσ43]]
  refine lv_aload_n B.1 B.2.1 dX16_record_32 rfl (lv_at hl 1 rfl) ?_
  refine r_arr B hH hS 68 (kd := 100) (n := 4000) (by decide) (by decide) wf_X16_513 rfl rfl dX16_record_33 ?_
  refine lv_iload B.1 B.2.1 dX16_record_36 (lv_at hl 0 rfl) ?_
  refine lv_iload_n B.1 B.2.1 dX16_record_38 rfl (lv_at hl 3 rfl) ?_
  obtain ⟨q3, h⟩ := h
  obtain ⟨σ44, eσ44⟩ : ∃ z, z = pI σ43 (ra 68) (gI σ rm 79).toNat v2 := ⟨_, rfl⟩
  have h := h σ44 eσ44
  refine x_iast B K.2.1 hH (hS.ar (k := 68) (kd := 100) (n := 4000) (by decide)) (by decide) q3 dX16_record_39 (fun H locs hH => ?_)
  have hH : Hd D cA A s (pI σ43 (ra 68) (gI σ rm 79).toNat v2) H locs := hH
  rw [← eσ44] at hH
  have hGσ44 : RG σ44 := by rw [eσ44]; exact hGσ43.pI g2
  have hS : Shp dm ra jx rm σ44 := by rw [eσ44]; exact hS
  have hc : CB n0 s0 σ44 := by rw [eσ44]; exact hc
  rw [show gc σ43 = gc σ44 by rw [eσ44], show gs σ43 = gs σ44 by rw [eσ44]]
  refine lv_aload_n B.1 B.2.1 dX16_record_40 rfl (lv_at hl 1 rfl) ?_
  refine r_arr B hH hS 69 (kd := 100) (n := 4000) (by decide) (by decide) wf_X16_516 rfl rfl dX16_record_41 ?_
  refine lv_iload B.1 B.2.1 dX16_record_44 (lv_at hl 0 rfl) ?_
  refine lv_iload_n B.1 B.2.1 dX16_record_46 rfl (lv_at hl 2 rfl) ?_
  obtain ⟨q5, h⟩ := h
  obtain ⟨σ45, eσ45⟩ : ∃ z, z = pI σ44 (ra 69) (gI σ rm 79).toNat v1 := ⟨_, rfl⟩
  have h := h σ45 eσ45
  refine x_iast B K.2.1 hH (hS.ar (k := 69) (kd := 100) (n := 4000) (by decide)) (by decide) q5 dX16_record_47 (fun H locs hH => ?_)
  have hH : Hd D cA A s (pI σ44 (ra 69) (gI σ rm 79).toNat v1) H locs := hH
  rw [← eσ45] at hH
  have hGσ45 : RG σ45 := by rw [eσ45]; exact hGσ44.pI g1
  have hS : Shp dm ra jx rm σ45 := by rw [eσ45]; exact hS
  have hc : CB n0 s0 σ45 := by rw [eσ45]; exact hc
  rw [show gc σ44 = gc σ45 by rw [eσ45], show gs σ44 = gs σ45 by rw [eσ45]]
  refine lv_aload_n B.1 B.2.1 dX16_record_48 rfl (lv_at hl 1 rfl) ?_
  refine r_arr B hH hS 70 (kd := 101) (n := 4000) (by decide) (by decide) wf_X16_519 rfl rfl dX16_record_49 ?_
  refine lv_iload B.1 B.2.1 dX16_record_52 (lv_at hl 0 rfl) ?_
  refine lv_lload_n B.1 B.2.1 dX16_record_54 rfl (lv_at hl 4 rfl) ?_
  obtain ⟨q7, h⟩ := h
  obtain ⟨σ46, eσ46⟩ : ∃ z, z = pJ σ45 (ra 70) (gI σ rm 79).toNat v3 := ⟨_, rfl⟩
  have h := h σ46 eσ46
  refine x_last B K.2.1 hH (hS.ar (k := 70) (kd := 101) (n := 4000) (by decide)) (by decide) q7 dX16_record_55 (fun H locs hH => ?_)
  have hH : Hd D cA A s (pJ σ45 (ra 70) (gI σ rm 79).toNat v3) H locs := hH
  rw [← eσ46] at hH
  have hGσ46 : RG σ46 := by rw [eσ46]; exact hGσ45.pJ
  have hS : Shp dm ra jx rm σ46 := by rw [eσ46]; exact hS
  have hc : CB n0 s0 σ46 := by rw [eσ46]; exact hc
  rw [show gc σ45 = gc σ46 by rw [eσ46], show gs σ45 = gs σ46 by rw [eσ46]]
  refine lv_aload_n B.1 B.2.1 dX16_record_56 rfl (lv_at hl 1 rfl) ?_
  refine r_arr B hH hS 71 (kd := 101) (n := 4000) (by decide) (by decide) wf_X16_522 rfl rfl dX16_record_57 ?_
  refine lv_iload B.1 B.2.1 dX16_record_60 (lv_at hl 0 rfl) ?_
  refine lv_lload B.1 B.2.1 dX16_record_62 (lv_at hl 5 rfl) ?_
  obtain ⟨q9, h⟩ := h
  obtain ⟨σ47, eσ47⟩ : ∃ z, z = pJ σ46 (ra 71) (gI σ rm 79).toNat v5 := ⟨_, rfl⟩
  have h := h σ47 eσ47
  refine x_last B K.2.1 hH (hS.ar (k := 71) (kd := 101) (n := 4000) (by decide)) (by decide) q9 dX16_record_64 (fun H locs hH => ?_)
  have hH : Hd D cA A s (pJ σ46 (ra 71) (gI σ rm 79).toNat v5) H locs := hH
  rw [← eσ47] at hH
  have hGσ47 : RG σ47 := by rw [eσ47]; exact hGσ46.pJ
  have hS : Shp dm ra jx rm σ47 := by rw [eσ47]; exact hS
  have hc : CB n0 s0 σ47 := by rw [eσ47]; exact hc
  rw [show gc σ46 = gc σ47 by rw [eσ47], show gs σ46 = gs σ47 by rw [eσ47]]
  refine lv_aload_n B.1 B.2.1 dX16_record_65 rfl (lv_at hl 1 rfl) ?_
  refine r_arr B hH hS 72 (kd := 101) (n := 4000) (by decide) (by decide) wf_X16_525 rfl rfl dX16_record_66 ?_
  refine lv_iload B.1 B.2.1 dX16_record_69 (lv_at hl 0 rfl) ?_
  refine lv_lload B.1 B.2.1 dX16_record_71 (lv_at hl 6 rfl) ?_
  obtain ⟨q11, h⟩ := h
  obtain ⟨σ48, eσ48⟩ : ∃ z, z = pJ σ47 (ra 72) (gI σ rm 79).toNat v7 := ⟨_, rfl⟩
  have h := h σ48 eσ48
  refine x_last B K.2.1 hH (hS.ar (k := 72) (kd := 101) (n := 4000) (by decide)) (by decide) q11 dX16_record_73 (fun H locs hH => ?_)
  have hH : Hd D cA A s (pJ σ47 (ra 72) (gI σ rm 79).toNat v7) H locs := hH
  rw [← eσ48] at hH
  have hGσ48 : RG σ48 := by rw [eσ48]; exact hGσ47.pJ
  have hS : Shp dm ra jx rm σ48 := by rw [eσ48]; exact hS
  have hc : CB n0 s0 σ48 := by rw [eσ48]; exact hc
  rw [show gc σ47 = gc σ48 by rw [eσ48], show gs σ47 = gs σ48 by rw [eσ48]]
  refine lv_iconst (v := i32 0) B.1 B.2.1 dX16_record_74 (by decide) ?_
  refine lv_istore (lv' := [(13, .int (i32 0)), (12, .int (i32 (gI σ rm 79))), (0, .ref rm), (1, .int (i32 v1)), (2, .int (i32 v2)), (3, .long v3), (5, .long v5), (7, .long v7), (9, va_rf v9), (10, .int (i32 v10)), (11, .int (i32 v11))]) B.1 B.2.1 dX16_record_75 hl (by decide) rfl (fun ls hl => ?_)
  obtain ⟨n9, h⟩ := h
  exact al_X16_record_77 K hQ hX n9 _ _ _ _ _ _ _ g1 g10 g11 (hGσ _ _) (by unfold rng; omega) h hGσ48 hS _ _ _ hH (lv_sub (l' := [(0, .ref rm), (1, .int (i32 v1)), (9, va_rf v9), (10, .int (i32 v10)), (11, .int (i32 v11)), (12, .int (i32 (gI σ rm 79))), (13, .int (i32 0))]) hl [2, 3, 8, 9, 10, 1, 0] rfl) hc
set_option maxRecDepth 20000 in
theorem a_X16_record_10 {Q : Sg → Int → Prop} {X : Sg → String → Prop} (K : MC R p s m args c cX16_record 14 RX16 D cA tys A n0 s0 0 0 []) (hQ : HQI p l e R s m args below meth c cX16_record D cA A n0 s0 QM dm ra jx rm Q) (hX : HX p l e R s m args below meth c 14 D cA A n0 s0 QM dm ra jx rm X) : ∀ (σ : Sg), w_X16_record_10 ra jx rm Q X σ → RG σ → Shp dm ra jx rm σ → JJ p l e R s m args below meth c 14 D cA A n0 s0 QM σ 10 [(0, .ref rm)] [] := by
  intro σ h hGσ hS H locs ls hH hl hc
  have B := K.1
  unfold w_X16_record_10 at h
  refine lv_aload_n B.1 B.2.1 dX16_record_10 rfl (lv_at hl 0 rfl) ?_
  refine r_obj B hH hS 28 (ci := 13) (by decide) (by decide) wf_X16_346 rfl rfl dX16_record_11 ?_
  refine W.eq (g2 := F0 m 14 ls [va_rf (some (ra 28))]) (rfl) ?_
  obtain ⟨qt, h⟩ := h
  rcases qt with qt | qt
  · refine W.eq (g2 := F0 m 14 ls [.ref (ra 28)]) (by rw [qt]; rfl) ?_
    have hx9 := And.intro h (And.intro hGσ hS)
    refine h_athrow B hH hl hc (ci := 13) (hS.ob (k := 28) (ci := 13) (by decide)).1 (hS.ob (k := 28) (ci := 13) (by decide)).2 (by decide) rfl dX16_record_14 ?_
    exact hX σ _ _ _ _ (tb_out K.2.2.2.2.2 rfl) hx9.1 hx9.2.1 hx9.2.2
  · refine W.eq (g2 := F0 m 14 ls [.ref (ra 29)]) (by rw [qt]; rfl) ?_
    have hx9 := And.intro h (And.intro hGσ hS)
    refine h_athrow B hH hl hc (ci := 13) (hS.ob (k := 29) (ci := 13) (by decide)).1 (hS.ob (k := 29) (ci := 13) (by decide)).2 (by decide) rfl dX16_record_14 ?_
    exact hX σ _ _ _ _ (tb_out K.2.2.2.2.2 rfl) hx9.1 hx9.2.1 hx9.2.2
set_option maxRecDepth 20000 in
theorem a_X16_record_0 {Q : Sg → Int → Prop} {X : Sg → String → Prop} (K : MC R p s m args c cX16_record 14 RX16 D cA tys A n0 s0 0 0 []) (hQ : HQI p l e R s m args below meth c cX16_record D cA A n0 s0 QM dm ra jx rm Q) (hX : HX p l e R s m args below meth c 14 D cA A n0 s0 QM dm ra jx rm X) : ∀ (σ : Sg) (v1 : Int) (v2 : Int) (v3 : Int64) (v5 : Int64) (v7 : Int64) (v9 : Option Nat) (v10 : Int) (v11 : Int) (g1 : rng v1) (g2 : rng v2) (g10 : rng v10) (g11 : rng v11), w_X16_record_0 ra jx rm Q X σ v1 v2 v3 v5 v7 v9 v10 v11 → RG σ → Shp dm ra jx rm σ → JJ p l e R s m args below meth c 14 D cA A n0 s0 QM σ 0 [(0, .ref rm), (1, .int (i32 v1)), (2, .int (i32 v2)), (3, .long v3), (5, .long v5), (7, .long v7), (9, va_rf v9), (10, .int (i32 v10)), (11, .int (i32 v11))] [] := by
  intro σ v1 v2 v3 v5 v7 v9 v10 v11 g1 g2 g10 g11 h hGσ hS H locs ls hH hl hc
  have B := K.1
  unfold w_X16_record_0 at h
  refine lv_aload_n B.1 B.2.1 dX16_record_0 rfl (lv_at hl 0 rfl) ?_
  refine r_geti B hH hS 80 (by decide) wf_X16_501 rfl rfl dX16_record_1 ?_
  refine lv_sipush (v := i32 4000) B.1 B.2.1 dX16_record_4 (by decide) ?_
  refine lv_icmp_ne (tgt := 15) B.1 B.2.1 dX16_record_7 (by decide) (fun h9 => ?_) (fun h9 => ?_)
  · rw [if_pos (fun q => h9 ((i32_eq (hGσ _ _) (by unfold rng; omega)).mpr q))] at h
    exact a_X16_record_15 K hQ hX _ _ _ _ _ _ _ _ _ g1 g2 g10 g11 h hGσ hS _ _ _ hH (lv_sub (l' := [(0, .ref rm), (1, .int (i32 v1)), (2, .int (i32 v2)), (3, .long v3), (5, .long v5), (7, .long v7), (9, va_rf v9), (10, .int (i32 v10)), (11, .int (i32 v11))]) hl [0, 1, 2, 3, 4, 5, 6, 7, 8] rfl) hc
  · rw [if_neg (fun q => q ((i32_eq (hGσ _ _) (by unfold rng; omega)).mp h9))] at h
    exact a_X16_record_10 K hQ hX _ h hGσ hS _ _ _ hH (lv_sub (l' := [(0, .ref rm)]) hl [0] rfl) hc
theorem ok_X16_record (hT : Tys cA tys) {Q : Sg → Int → Prop} {X : Sg → String → Prop} (σ : Sg) (v1 : Int) (v2 : Int) (v3 : Int64) (v5 : Int64) (v7 : Int64) (v9 : Option Nat) (v10 : Int) (v11 : Int) (g1 : rng v1) (g2 : rng v2) (g10 : rng v10) (g11 : rng v11) (hG : RG σ) (hS : Shp dm ra jx rm σ) (h : wp_X16_record ra jx rm v1 v2 v3 v5 v7 v9 v10 v11 σ Q X) : Ok l D cA tys A yX16_record (.code yX16_record cX16_record 14 (some .int)) 0 0 [.ref rm, .int (i32 v1), .int (i32 v2), .long v3, .long v5, .long v7, va_rf v9, .int (i32 v10), .int (i32 v11)] σ (QnI dm ra jx rm Q) (QxR dm ra jx rm X) := by
  unfold wp_X16_record at h
  exact ok_I (plainFor_of_name (by decide)) (by cases v9 <;> exact Nat.le_of_ble_eq_true rfl) hT (fun p e R s m args below meth c K hQ hX H locs ls hH hl hc => a_X16_record_0 K hQ hX σ v1 v2 v3 v5 v7 v9 v10 v11 g1 g2 g10 g11 h hG hS H locs ls hH (lv_sub (l' := [(0, .ref rm), (1, .int (i32 v1)), (2, .int (i32 v2)), (3, .long v3), (5, .long v5), (7, .long v7), (9, va_rf v9), (10, .int (i32 v10)), (11, .int (i32 v11))]) hl [0, 1, 2, 3, 4, 5, 6, 7, 8] (by cases v9 <;> rfl)) hc)
theorem dX16_box_0 : decode cX16_box 0 = .ok (.aload_n 0, 1) := by decide +kernel
theorem dX16_box_1 : decode cX16_box 1 = .ok (.getfield 411, 3) := by decide +kernel
theorem dX16_box_4 : decode cX16_box 4 = .ok (.sipush 4000, 3) := by decide +kernel
theorem dX16_box_7 : decode cX16_box 7 = .ok (.if_icmp .ne 8, 3) := by decide +kernel
theorem dX16_box_10 : decode cX16_box 10 = .ok (.aload_n 0, 1) := by decide +kernel
theorem dX16_box_11 : decode cX16_box 11 = .ok (.getfield 346, 3) := by decide +kernel
theorem dX16_box_14 : decode cX16_box 14 = .ok (.athrow, 1) := by decide +kernel
theorem dX16_box_15 : decode cX16_box 15 = .ok (.aload_n 0, 1) := by decide +kernel
theorem dX16_box_16 : decode cX16_box 16 = .ok (.getfield 408, 3) := by decide +kernel
theorem dX16_box_19 : decode cX16_box 19 = .ok (.istore 9, 2) := by decide +kernel
theorem dX16_box_21 : decode cX16_box 21 = .ok (.aload_n 0, 1) := by decide +kernel
theorem dX16_box_22 : decode cX16_box 22 = .ok (.aload_n 0, 1) := by decide +kernel
theorem dX16_box_23 : decode cX16_box 23 = .ok (.getfield 405, 3) := by decide +kernel
theorem dX16_box_26 : decode cX16_box 26 = .ok (.iload 9, 2) := by decide +kernel
theorem dX16_box_28 : decode cX16_box 28 = .ok (.iaload, 1) := by decide +kernel
theorem dX16_box_29 : decode cX16_box 29 = .ok (.putfield 408, 3) := by decide +kernel
theorem dX16_box_32 : decode cX16_box 32 = .ok (.aload_n 0, 1) := by decide +kernel
theorem dX16_box_33 : decode cX16_box 33 = .ok (.getfield 467, 3) := by decide +kernel
theorem dX16_box_36 : decode cX16_box 36 = .ok (.iload 9, 2) := by decide +kernel
theorem dX16_box_38 : decode cX16_box 38 = .ok (.iload_n 3, 1) := by decide +kernel
theorem dX16_box_39 : decode cX16_box 39 = .ok (.iastore, 1) := by decide +kernel
theorem dX16_box_40 : decode cX16_box 40 = .ok (.aload_n 0, 1) := by decide +kernel
theorem dX16_box_41 : decode cX16_box 41 = .ok (.getfield 470, 3) := by decide +kernel
theorem dX16_box_44 : decode cX16_box 44 = .ok (.iload 9, 2) := by decide +kernel
theorem dX16_box_46 : decode cX16_box 46 = .ok (.lload 4, 2) := by decide +kernel
theorem dX16_box_48 : decode cX16_box 48 = .ok (.lastore, 1) := by decide +kernel
theorem dX16_box_49 : decode cX16_box 49 = .ok (.iconst 0, 1) := by decide +kernel
theorem dX16_box_50 : decode cX16_box 50 = .ok (.istore 10, 2) := by decide +kernel
theorem dX16_box_52 : decode cX16_box 52 = .ok (.iload 10, 2) := by decide +kernel
theorem dX16_box_54 : decode cX16_box 54 = .ok (.bipush 8, 2) := by decide +kernel
theorem dX16_box_56 : decode cX16_box 56 = .ok (.if_icmp .ge 34, 3) := by decide +kernel
theorem dX16_box_59 : decode cX16_box 59 = .ok (.iload_n 3, 1) := by decide +kernel
theorem dX16_box_60 : decode cX16_box 60 = .ok (.ifCond .ne 30, 3) := by decide +kernel
theorem dX16_box_63 : decode cX16_box 63 = .ok (.aload_n 0, 1) := by decide +kernel
theorem dX16_box_64 : decode cX16_box 64 = .ok (.getfield 473, 3) := by decide +kernel
theorem dX16_box_67 : decode cX16_box 67 = .ok (.bipush 8, 2) := by decide +kernel
theorem dX16_box_69 : decode cX16_box 69 = .ok (.iload 9, 2) := by decide +kernel
theorem dX16_box_71 : decode cX16_box 71 = .ok (.imul, 1) := by decide +kernel
theorem dX16_box_72 : decode cX16_box 72 = .ok (.iload 10, 2) := by decide +kernel
theorem dX16_box_74 : decode cX16_box 74 = .ok (.iadd, 1) := by decide +kernel
theorem dX16_box_75 : decode cX16_box 75 = .ok (.aload 6, 2) := by decide +kernel
theorem dX16_box_77 : decode cX16_box 77 = .ok (.iload 7, 2) := by decide +kernel
theorem dX16_box_79 : decode cX16_box 79 = .ok (.iload 10, 2) := by decide +kernel
theorem dX16_box_81 : decode cX16_box 81 = .ok (.iadd, 1) := by decide +kernel
theorem dX16_box_82 : decode cX16_box 82 = .ok (.laload, 1) := by decide +kernel
theorem dX16_box_83 : decode cX16_box 83 = .ok (.lastore, 1) := by decide +kernel
theorem dX16_box_84 : decode cX16_box 84 = .ok (.iinc 10 1, 3) := by decide +kernel
theorem dX16_box_87 : decode cX16_box 87 = .ok (.goto (-35), 3) := by decide +kernel
theorem dX16_box_90 : decode cX16_box 90 = .ok (.aload_n 0, 1) := by decide +kernel
theorem dX16_box_91 : decode cX16_box 91 = .ok (.getfield 476, 3) := by decide +kernel
theorem dX16_box_94 : decode cX16_box 94 = .ok (.iload 9, 2) := by decide +kernel
theorem dX16_box_96 : decode cX16_box 96 = .ok (.iload 8, 2) := by decide +kernel
theorem dX16_box_98 : decode cX16_box 98 = .ok (.iastore, 1) := by decide +kernel
theorem dX16_box_99 : decode cX16_box 99 = .ok (.aload_n 0, 1) := by decide +kernel
theorem dX16_box_100 : decode cX16_box 100 = .ok (.getfield 479, 3) := by decide +kernel
theorem dX16_box_103 : decode cX16_box 103 = .ok (.iload 9, 2) := by decide +kernel
theorem dX16_box_105 : decode cX16_box 105 = .ok (.iload_n 2, 1) := by decide +kernel
theorem dX16_box_106 : decode cX16_box 106 = .ok (.iastore, 1) := by decide +kernel
theorem dX16_box_107 : decode cX16_box 107 = .ok (.aload_n 0, 1) := by decide +kernel
theorem dX16_box_108 : decode cX16_box 108 = .ok (.getfield 405, 3) := by decide +kernel
theorem dX16_box_111 : decode cX16_box 111 = .ok (.iload 9, 2) := by decide +kernel
theorem dX16_box_113 : decode cX16_box 113 = .ok (.iconst (-1), 1) := by decide +kernel
theorem dX16_box_114 : decode cX16_box 114 = .ok (.iastore, 1) := by decide +kernel
theorem dX16_box_115 : decode cX16_box 115 = .ok (.aload_n 0, 1) := by decide +kernel
theorem dX16_box_116 : decode cX16_box 116 = .ok (.getfield 438, 3) := by decide +kernel
theorem dX16_box_119 : decode cX16_box 119 = .ok (.iload_n 1, 1) := by decide +kernel
theorem dX16_box_120 : decode cX16_box 120 = .ok (.iaload, 1) := by decide +kernel
theorem dX16_box_121 : decode cX16_box 121 = .ok (.iconst (-1), 1) := by decide +kernel
theorem dX16_box_122 : decode cX16_box 122 = .ok (.if_icmp .ne 14, 3) := by decide +kernel
theorem dX16_box_125 : decode cX16_box 125 = .ok (.aload_n 0, 1) := by decide +kernel
theorem dX16_box_126 : decode cX16_box 126 = .ok (.getfield 435, 3) := by decide +kernel
theorem dX16_box_129 : decode cX16_box 129 = .ok (.iload_n 1, 1) := by decide +kernel
theorem dX16_box_130 : decode cX16_box 130 = .ok (.iload 9, 2) := by decide +kernel
theorem dX16_box_132 : decode cX16_box 132 = .ok (.iastore, 1) := by decide +kernel
theorem dX16_box_133 : decode cX16_box 133 = .ok (.goto 16, 3) := by decide +kernel
theorem dX16_box_136 : decode cX16_box 136 = .ok (.aload_n 0, 1) := by decide +kernel
theorem dX16_box_137 : decode cX16_box 137 = .ok (.getfield 405, 3) := by decide +kernel
theorem dX16_box_140 : decode cX16_box 140 = .ok (.aload_n 0, 1) := by decide +kernel
theorem dX16_box_141 : decode cX16_box 141 = .ok (.getfield 438, 3) := by decide +kernel
theorem dX16_box_144 : decode cX16_box 144 = .ok (.iload_n 1, 1) := by decide +kernel
theorem dX16_box_145 : decode cX16_box 145 = .ok (.iaload, 1) := by decide +kernel
theorem dX16_box_146 : decode cX16_box 146 = .ok (.iload 9, 2) := by decide +kernel
theorem dX16_box_148 : decode cX16_box 148 = .ok (.iastore, 1) := by decide +kernel
theorem dX16_box_149 : decode cX16_box 149 = .ok (.aload_n 0, 1) := by decide +kernel
theorem dX16_box_150 : decode cX16_box 150 = .ok (.getfield 438, 3) := by decide +kernel
theorem dX16_box_153 : decode cX16_box 153 = .ok (.iload_n 1, 1) := by decide +kernel
theorem dX16_box_154 : decode cX16_box 154 = .ok (.iload 9, 2) := by decide +kernel
theorem dX16_box_156 : decode cX16_box 156 = .ok (.iastore, 1) := by decide +kernel
theorem dX16_box_157 : decode cX16_box 157 = .ok (.aload_n 0, 1) := by decide +kernel
theorem dX16_box_158 : decode cX16_box 158 = .ok (.getfield 441, 3) := by decide +kernel
theorem dX16_box_161 : decode cX16_box 161 = .ok (.iload_n 1, 1) := by decide +kernel
theorem dX16_box_162 : decode cX16_box 162 = .ok (.dup2, 1) := by decide +kernel
theorem dX16_box_163 : decode cX16_box 163 = .ok (.iaload, 1) := by decide +kernel
theorem dX16_box_164 : decode cX16_box 164 = .ok (.iconst 1, 1) := by decide +kernel
theorem dX16_box_165 : decode cX16_box 165 = .ok (.iadd, 1) := by decide +kernel
theorem dX16_box_166 : decode cX16_box 166 = .ok (.iastore, 1) := by decide +kernel
theorem dX16_box_167 : decode cX16_box 167 = .ok (.aload_n 0, 1) := by decide +kernel
theorem dX16_box_168 : decode cX16_box 168 = .ok (.dup, 1) := by decide +kernel
theorem dX16_box_169 : decode cX16_box 169 = .ok (.getfield 411, 3) := by decide +kernel
theorem dX16_box_172 : decode cX16_box 172 = .ok (.iconst 1, 1) := by decide +kernel
theorem dX16_box_173 : decode cX16_box 173 = .ok (.iadd, 1) := by decide +kernel
theorem dX16_box_174 : decode cX16_box 174 = .ok (.putfield 411, 3) := by decide +kernel
theorem dX16_box_177 : decode cX16_box 177 = .ok (.return_, 1) := by decide +kernel
set_option maxRecDepth 20000 in
theorem a_X16_box_149 {Q : Sg → Unit → Prop} {X : Sg → String → Prop} (K : MC R p s m args c cX16_box 11 RX16 D cA tys A n0 s0 0 0 []) (hQ : HQV p l e R s m args below meth c cX16_box D cA A n0 s0 QM dm ra jx rm Q) (hX : HX p l e R s m args below meth c 11 D cA A n0 s0 QM dm ra jx rm X) : ∀ (σ : Sg) (v1 : Int) (v9 : Int) (g1 : rng v1) (g9 : rng v9), w_X16_box_149 ra jx rm Q X σ v1 v9 → RG σ → Shp dm ra jx rm σ → JJ p l e R s m args below meth c 11 D cA A n0 s0 QM σ 149 [(0, .ref rm), (1, .int (i32 v1)), (9, .int (i32 v9))] [] := by
  intro σ v1 v9 g1 g9 h hGσ hS H locs ls hH hl hc
  have B := K.1
  unfold w_X16_box_149 at h
  refine lv_aload_n B.1 B.2.1 dX16_box_149 rfl (lv_at hl 0 rfl) ?_
  refine r_arr B hH hS 47 (kd := 100) (n := 64) (by decide) (by decide) wf_X16_438 rfl rfl dX16_box_150 ?_
  refine lv_iload_n B.1 B.2.1 dX16_box_153 rfl (lv_at hl 1 rfl) ?_
  refine lv_iload B.1 B.2.1 dX16_box_154 (lv_at hl 2 rfl) ?_
  obtain ⟨q1, h⟩ := h
  obtain ⟨σ29, eσ29⟩ : ∃ z, z = pI σ (ra 47) v1.toNat v9 := ⟨_, rfl⟩
  have h := h σ29 eσ29
  refine x_iast B K.2.1 hH (hS.ar (k := 47) (kd := 100) (n := 64) (by decide)) (by decide) q1 dX16_box_156 (fun H locs hH => ?_)
  have hH : Hd D cA A s (pI σ (ra 47) v1.toNat v9) H locs := hH
  rw [← eσ29] at hH
  have hGσ29 : RG σ29 := by rw [eσ29]; exact hGσ.pI g9
  have hS : Shp dm ra jx rm σ29 := by rw [eσ29]; exact hS
  have hc : CB n0 s0 σ29 := by rw [eσ29]; exact hc
  rw [show gc σ = gc σ29 by rw [eσ29], show gs σ = gs σ29 by rw [eσ29]]
  refine lv_aload_n B.1 B.2.1 dX16_box_157 rfl (lv_at hl 0 rfl) ?_
  refine r_arr B hH hS 48 (kd := 100) (n := 64) (by decide) (by decide) wf_X16_441 rfl rfl dX16_box_158 ?_
  refine lv_iload_n B.1 B.2.1 dX16_box_161 rfl (lv_at hl 1 rfl) ?_
  refine lv_dup2_11 B.1 B.2.1 dX16_box_162 rfl rfl ?_
  obtain ⟨q3, h⟩ := h
  refine x_iald B K.2.1 hH (hS.ar (k := 48) (kd := 100) (n := 64) (by decide)) (by decide) q3 dX16_box_163 ?_
  refine lv_iconst (v := i32 1) B.1 B.2.1 dX16_box_164 (by decide) ?_
  refine lv_iadd B.1 B.2.1 dX16_box_165 ?_
  rw [i32_add]
  refine W.eq (g2 := F0 m 166 ls [.int (i32 (wr ((gI σ29 (ra 48) v1.toNat) + 1))), .int (i32 v1), .ref (ra 48)]) (by rw [i32_wr]) ?_
  obtain ⟨q4, h⟩ := h
  obtain ⟨σ30, eσ30⟩ : ∃ z, z = pI σ29 (ra 48) v1.toNat (wr ((gI σ29 (ra 48) v1.toNat) + 1)) := ⟨_, rfl⟩
  have h := h σ30 eσ30
  refine x_iast B K.2.1 hH (hS.ar (k := 48) (kd := 100) (n := 64) (by decide)) (by decide) q4 dX16_box_166 (fun H locs hH => ?_)
  have hH : Hd D cA A s (pI σ29 (ra 48) v1.toNat (wr ((gI σ29 (ra 48) v1.toNat) + 1))) H locs := hH
  rw [← eσ30] at hH
  have hGσ30 : RG σ30 := by rw [eσ30]; exact hGσ29.pI (rng_wr _)
  have hS : Shp dm ra jx rm σ30 := by rw [eσ30]; exact hS
  have hc : CB n0 s0 σ30 := by rw [eσ30]; exact hc
  rw [show gc σ29 = gc σ30 by rw [eσ30], show gs σ29 = gs σ30 by rw [eσ30]]
  refine lv_aload_n B.1 B.2.1 dX16_box_167 rfl (lv_at hl 0 rfl) ?_
  refine lv_dup B.1 B.2.1 dX16_box_168 rfl ?_
  refine r_geti B hH hS 67 (by decide) wf_X16_411 rfl rfl dX16_box_169 ?_
  refine lv_iconst (v := i32 1) B.1 B.2.1 dX16_box_172 (by decide) ?_
  obtain ⟨q6, h⟩ := h
  refine lv_iadd B.1 B.2.1 dX16_box_173 ?_
  rw [i32_add]
  obtain ⟨σ31, eσ31⟩ : ∃ z, z = pI σ30 rm 67 (gI σ30 rm 67 + 1) := ⟨_, rfl⟩
  have h := h σ31 eσ31
  refine r_puti B hH hS 67 (ty := .int) (by decide) wf_X16_411 rfl rfl rfl rfl rfl rfl dX16_box_174 (fun H locs hH => ?_)
  have hH : Hd D cA A s (pI σ30 rm 67 (gI σ30 rm 67 + 1)) H locs := hH
  rw [← eσ31] at hH
  have hGσ31 : RG σ31 := by rw [eσ31]; exact hGσ30.pI q6
  have hS : Shp dm ra jx rm σ31 := by rw [eσ31]; exact hS
  have hc : CB n0 s0 σ31 := by rw [eσ31]; exact hc
  rw [show gc σ30 = gc σ31 by rw [eσ31], show gs σ30 = gs σ31 by rw [eσ31]]
  exact hQ _ _ _ _ _ dX16_box_177 hH hc h hGσ31 hS
set_option maxRecDepth 20000 in
theorem a_X16_box_136 {Q : Sg → Unit → Prop} {X : Sg → String → Prop} (K : MC R p s m args c cX16_box 11 RX16 D cA tys A n0 s0 0 0 []) (hQ : HQV p l e R s m args below meth c cX16_box D cA A n0 s0 QM dm ra jx rm Q) (hX : HX p l e R s m args below meth c 11 D cA A n0 s0 QM dm ra jx rm X) : ∀ (σ : Sg) (v1 : Int) (v9 : Int) (g1 : rng v1) (g9 : rng v9), w_X16_box_136 ra jx rm Q X σ v1 v9 → RG σ → Shp dm ra jx rm σ → JJ p l e R s m args below meth c 11 D cA A n0 s0 QM σ 136 [(0, .ref rm), (1, .int (i32 v1)), (9, .int (i32 v9))] [] := by
  intro σ v1 v9 g1 g9 h hGσ hS H locs ls hH hl hc
  have B := K.1
  unfold w_X16_box_136 at h
  refine lv_aload_n B.1 B.2.1 dX16_box_136 rfl (lv_at hl 0 rfl) ?_
  refine r_arr B hH hS 65 (kd := 100) (n := 12802) (by decide) (by decide) wf_X16_405 rfl rfl dX16_box_137 ?_
  refine lv_aload_n B.1 B.2.1 dX16_box_140 rfl (lv_at hl 0 rfl) ?_
  refine r_arr B hH hS 47 (kd := 100) (n := 64) (by decide) (by decide) wf_X16_438 rfl rfl dX16_box_141 ?_
  refine lv_iload_n B.1 B.2.1 dX16_box_144 rfl (lv_at hl 1 rfl) ?_
  obtain ⟨q1, h⟩ := h
  refine x_iald B K.2.1 hH (hS.ar (k := 47) (kd := 100) (n := 64) (by decide)) (by decide) q1 dX16_box_145 ?_
  refine lv_iload B.1 B.2.1 dX16_box_146 (lv_at hl 2 rfl) ?_
  obtain ⟨q2, h⟩ := h
  obtain ⟨σ32, eσ32⟩ : ∃ z, z = pI σ (ra 65) (gI σ (ra 47) v1.toNat).toNat v9 := ⟨_, rfl⟩
  have h := h σ32 eσ32
  refine x_iast B K.2.1 hH (hS.ar (k := 65) (kd := 100) (n := 12802) (by decide)) (by decide) q2 dX16_box_148 (fun H locs hH => ?_)
  have hH : Hd D cA A s (pI σ (ra 65) (gI σ (ra 47) v1.toNat).toNat v9) H locs := hH
  rw [← eσ32] at hH
  have hGσ32 : RG σ32 := by rw [eσ32]; exact hGσ.pI g9
  have hS : Shp dm ra jx rm σ32 := by rw [eσ32]; exact hS
  have hc : CB n0 s0 σ32 := by rw [eσ32]; exact hc
  rw [show gc σ = gc σ32 by rw [eσ32], show gs σ = gs σ32 by rw [eσ32]]
  exact a_X16_box_149 K hQ hX _ _ _ g1 g9 h hGσ32 hS _ _ _ hH (lv_sub (l' := [(0, .ref rm), (1, .int (i32 v1)), (9, .int (i32 v9))]) hl [0, 1, 2] rfl) hc
set_option maxRecDepth 20000 in
theorem a_X16_box_125 {Q : Sg → Unit → Prop} {X : Sg → String → Prop} (K : MC R p s m args c cX16_box 11 RX16 D cA tys A n0 s0 0 0 []) (hQ : HQV p l e R s m args below meth c cX16_box D cA A n0 s0 QM dm ra jx rm Q) (hX : HX p l e R s m args below meth c 11 D cA A n0 s0 QM dm ra jx rm X) : ∀ (σ : Sg) (v1 : Int) (v9 : Int) (g1 : rng v1) (g9 : rng v9), w_X16_box_125 ra jx rm Q X σ v1 v9 → RG σ → Shp dm ra jx rm σ → JJ p l e R s m args below meth c 11 D cA A n0 s0 QM σ 125 [(0, .ref rm), (1, .int (i32 v1)), (9, .int (i32 v9))] [] := by
  intro σ v1 v9 g1 g9 h hGσ hS H locs ls hH hl hc
  have B := K.1
  unfold w_X16_box_125 at h
  refine lv_aload_n B.1 B.2.1 dX16_box_125 rfl (lv_at hl 0 rfl) ?_
  refine r_arr B hH hS 46 (kd := 100) (n := 64) (by decide) (by decide) wf_X16_435 rfl rfl dX16_box_126 ?_
  refine lv_iload_n B.1 B.2.1 dX16_box_129 rfl (lv_at hl 1 rfl) ?_
  refine lv_iload B.1 B.2.1 dX16_box_130 (lv_at hl 2 rfl) ?_
  obtain ⟨q1, h⟩ := h
  obtain ⟨σ33, eσ33⟩ : ∃ z, z = pI σ (ra 46) v1.toNat v9 := ⟨_, rfl⟩
  have h := h σ33 eσ33
  refine x_iast B K.2.1 hH (hS.ar (k := 46) (kd := 100) (n := 64) (by decide)) (by decide) q1 dX16_box_132 (fun H locs hH => ?_)
  have hH : Hd D cA A s (pI σ (ra 46) v1.toNat v9) H locs := hH
  rw [← eσ33] at hH
  have hGσ33 : RG σ33 := by rw [eσ33]; exact hGσ.pI g9
  have hS : Shp dm ra jx rm σ33 := by rw [eσ33]; exact hS
  have hc : CB n0 s0 σ33 := by rw [eσ33]; exact hc
  rw [show gc σ = gc σ33 by rw [eσ33], show gs σ = gs σ33 by rw [eσ33]]
  refine lv_goto (tgt := 149) B.1 B.2.1 dX16_box_133 (by decide) ?_
  exact a_X16_box_149 K hQ hX _ _ _ g1 g9 h hGσ33 hS _ _ _ hH (lv_sub (l' := [(0, .ref rm), (1, .int (i32 v1)), (9, .int (i32 v9))]) hl [0, 1, 2] rfl) hc
set_option maxRecDepth 20000 in
theorem a_X16_box_90 {Q : Sg → Unit → Prop} {X : Sg → String → Prop} (K : MC R p s m args c cX16_box 11 RX16 D cA tys A n0 s0 0 0 []) (hQ : HQV p l e R s m args below meth c cX16_box D cA A n0 s0 QM dm ra jx rm Q) (hX : HX p l e R s m args below meth c 11 D cA A n0 s0 QM dm ra jx rm X) : ∀ (σ : Sg) (v1 : Int) (v2 : Int) (v8 : Int) (v9 : Int) (g1 : rng v1) (g2 : rng v2) (g8 : rng v8) (g9 : rng v9), w_X16_box_90 ra jx rm Q X σ v1 v2 v8 v9 → RG σ → Shp dm ra jx rm σ → JJ p l e R s m args below meth c 11 D cA A n0 s0 QM σ 90 [(0, .ref rm), (1, .int (i32 v1)), (2, .int (i32 v2)), (8, .int (i32 v8)), (9, .int (i32 v9))] [] := by
  intro σ v1 v2 v8 v9 g1 g2 g8 g9 h hGσ hS H locs ls hH hl hc
  have B := K.1
  unfold w_X16_box_90 at h
  refine lv_aload_n B.1 B.2.1 dX16_box_90 rfl (lv_at hl 0 rfl) ?_
  refine r_arr B hH hS 63 (kd := 100) (n := 12802) (by decide) (by decide) wf_X16_476 rfl rfl dX16_box_91 ?_
  refine lv_iload B.1 B.2.1 dX16_box_94 (lv_at hl 4 rfl) ?_
  refine lv_iload B.1 B.2.1 dX16_box_96 (lv_at hl 3 rfl) ?_
  obtain ⟨q1, h⟩ := h
  obtain ⟨σ34, eσ34⟩ : ∃ z, z = pI σ (ra 63) v9.toNat v8 := ⟨_, rfl⟩
  have h := h σ34 eσ34
  refine x_iast B K.2.1 hH (hS.ar (k := 63) (kd := 100) (n := 12802) (by decide)) (by decide) q1 dX16_box_98 (fun H locs hH => ?_)
  have hH : Hd D cA A s (pI σ (ra 63) v9.toNat v8) H locs := hH
  rw [← eσ34] at hH
  have hGσ34 : RG σ34 := by rw [eσ34]; exact hGσ.pI g8
  have hS : Shp dm ra jx rm σ34 := by rw [eσ34]; exact hS
  have hc : CB n0 s0 σ34 := by rw [eσ34]; exact hc
  rw [show gc σ = gc σ34 by rw [eσ34], show gs σ = gs σ34 by rw [eσ34]]
  refine lv_aload_n B.1 B.2.1 dX16_box_99 rfl (lv_at hl 0 rfl) ?_
  refine r_arr B hH hS 64 (kd := 100) (n := 12802) (by decide) (by decide) wf_X16_479 rfl rfl dX16_box_100 ?_
  refine lv_iload B.1 B.2.1 dX16_box_103 (lv_at hl 4 rfl) ?_
  refine lv_iload_n B.1 B.2.1 dX16_box_105 rfl (lv_at hl 2 rfl) ?_
  obtain ⟨q3, h⟩ := h
  obtain ⟨σ35, eσ35⟩ : ∃ z, z = pI σ34 (ra 64) v9.toNat v2 := ⟨_, rfl⟩
  have h := h σ35 eσ35
  refine x_iast B K.2.1 hH (hS.ar (k := 64) (kd := 100) (n := 12802) (by decide)) (by decide) q3 dX16_box_106 (fun H locs hH => ?_)
  have hH : Hd D cA A s (pI σ34 (ra 64) v9.toNat v2) H locs := hH
  rw [← eσ35] at hH
  have hGσ35 : RG σ35 := by rw [eσ35]; exact hGσ34.pI g2
  have hS : Shp dm ra jx rm σ35 := by rw [eσ35]; exact hS
  have hc : CB n0 s0 σ35 := by rw [eσ35]; exact hc
  rw [show gc σ34 = gc σ35 by rw [eσ35], show gs σ34 = gs σ35 by rw [eσ35]]
  refine lv_aload_n B.1 B.2.1 dX16_box_107 rfl (lv_at hl 0 rfl) ?_
  refine r_arr B hH hS 65 (kd := 100) (n := 12802) (by decide) (by decide) wf_X16_405 rfl rfl dX16_box_108 ?_
  refine lv_iload B.1 B.2.1 dX16_box_111 (lv_at hl 4 rfl) ?_
  refine lv_iconst (v := i32 (-1)) B.1 B.2.1 dX16_box_113 (by decide) ?_
  obtain ⟨q5, h⟩ := h
  obtain ⟨σ36, eσ36⟩ : ∃ z, z = pI σ35 (ra 65) v9.toNat (-1) := ⟨_, rfl⟩
  have h := h σ36 eσ36
  refine x_iast B K.2.1 hH (hS.ar (k := 65) (kd := 100) (n := 12802) (by decide)) (by decide) q5 dX16_box_114 (fun H locs hH => ?_)
  have hH : Hd D cA A s (pI σ35 (ra 65) v9.toNat (-1)) H locs := hH
  rw [← eσ36] at hH
  have hGσ36 : RG σ36 := by rw [eσ36]; exact hGσ35.pI (by unfold rng; omega)
  have hS : Shp dm ra jx rm σ36 := by rw [eσ36]; exact hS
  have hc : CB n0 s0 σ36 := by rw [eσ36]; exact hc
  rw [show gc σ35 = gc σ36 by rw [eσ36], show gs σ35 = gs σ36 by rw [eσ36]]
  refine lv_aload_n B.1 B.2.1 dX16_box_115 rfl (lv_at hl 0 rfl) ?_
  refine r_arr B hH hS 47 (kd := 100) (n := 64) (by decide) (by decide) wf_X16_438 rfl rfl dX16_box_116 ?_
  refine lv_iload_n B.1 B.2.1 dX16_box_119 rfl (lv_at hl 1 rfl) ?_
  obtain ⟨q7, h⟩ := h
  refine x_iald B K.2.1 hH (hS.ar (k := 47) (kd := 100) (n := 64) (by decide)) (by decide) q7 dX16_box_120 ?_
  refine lv_iconst (v := i32 (-1)) B.1 B.2.1 dX16_box_121 (by decide) ?_
  refine lv_icmp_ne (tgt := 136) B.1 B.2.1 dX16_box_122 (by decide) (fun h9 => ?_) (fun h9 => ?_)
  · rw [if_pos (fun q => h9 ((i32_eq (hGσ36 _ _) (by unfold rng; omega)).mpr q))] at h
    exact a_X16_box_136 K hQ hX _ _ _ g1 g9 h hGσ36 hS _ _ _ hH (lv_sub (l' := [(0, .ref rm), (1, .int (i32 v1)), (9, .int (i32 v9))]) hl [0, 1, 4] rfl) hc
  · rw [if_neg (fun q => q ((i32_eq (hGσ36 _ _) (by unfold rng; omega)).mp h9))] at h
    exact a_X16_box_125 K hQ hX _ _ _ g1 g9 h hGσ36 hS _ _ _ hH (lv_sub (l' := [(0, .ref rm), (1, .int (i32 v1)), (9, .int (i32 v9))]) hl [0, 1, 4] rfl) hc
set_option maxRecDepth 20000 in
theorem a_X16_box_63 {Q : Sg → Unit → Prop} {X : Sg → String → Prop} (K : MC R p s m args c cX16_box 11 RX16 D cA tys A n0 s0 0 0 []) (hQ : HQV p l e R s m args below meth c cX16_box D cA A n0 s0 QM dm ra jx rm Q) (hX : HX p l e R s m args below meth c 11 D cA A n0 s0 QM dm ra jx rm X) {K52 : Sg → Int → Int → Int → Option Nat → Int → Int → Int → Int → Prop} (hK52 : ∀ (σ : Sg) (v1 : Int) (v2 : Int) (v3 : Int) (v6 : Option Nat) (v7 : Int) (v8 : Int) (v9 : Int) (v10 : Int) (g1 : rng v1) (g2 : rng v2) (g3 : rng v3) (g7 : rng v7) (g8 : rng v8) (g9 : rng v9) (g10 : rng v10), K52 σ v1 v2 v3 v6 v7 v8 v9 v10 → RG σ → Shp dm ra jx rm σ → JJ p l e R s m args below meth c 11 D cA A n0 s0 QM σ 52 [(0, .ref rm), (1, .int (i32 v1)), (2, .int (i32 v2)), (3, .int (i32 v3)), (6, va_rf v6), (7, .int (i32 v7)), (8, .int (i32 v8)), (9, .int (i32 v9)), (10, .int (i32 v10))] []) : ∀ (σ : Sg) (v1 : Int) (v2 : Int) (v3 : Int) (v6 : Option Nat) (v7 : Int) (v8 : Int) (v9 : Int) (v10 : Int) (g1 : rng v1) (g2 : rng v2) (g3 : rng v3) (g7 : rng v7) (g8 : rng v8) (g9 : rng v9) (g10 : rng v10), w_X16_box_63 ra jx rm K52 Q X σ v1 v2 v3 v6 v7 v8 v9 v10 → RG σ → Shp dm ra jx rm σ → JJ p l e R s m args below meth c 11 D cA A n0 s0 QM σ 63 [(0, .ref rm), (1, .int (i32 v1)), (2, .int (i32 v2)), (3, .int (i32 v3)), (6, va_rf v6), (7, .int (i32 v7)), (8, .int (i32 v8)), (9, .int (i32 v9)), (10, .int (i32 v10))] [] := by
  intro σ v1 v2 v3 v6 v7 v8 v9 v10 g1 g2 g3 g7 g8 g9 g10 h hGσ hS H locs ls hH hl hc
  have B := K.1
  unfold w_X16_box_63 at h
  refine lv_aload_n B.1 B.2.1 dX16_box_63 rfl (lv_at hl 0 rfl) ?_
  refine r_arr B hH hS 62 (kd := 101) (n := 102416) (by decide) (by decide) wf_X16_473 rfl rfl dX16_box_64 ?_
  refine lv_bipush (v := i32 8) B.1 B.2.1 dX16_box_67 (by decide) ?_
  refine lv_iload B.1 B.2.1 dX16_box_69 (lv_at hl 7 rfl) ?_
  obtain ⟨q1, h⟩ := h
  refine lv_imul B.1 B.2.1 dX16_box_71 ?_
  rw [i32_mul]
  refine lv_iload B.1 B.2.1 dX16_box_72 (lv_at hl 8 rfl) ?_
  obtain ⟨q2, h⟩ := h
  refine lv_iadd B.1 B.2.1 dX16_box_74 ?_
  rw [i32_add]
  refine lv_aloadQ B.1 B.2.1 dX16_box_75 (lv_at hl 4 rfl) ?_
  refine lv_iload B.1 B.2.1 dX16_box_77 (lv_at hl 5 rfl) ?_
  refine lv_iload B.1 B.2.1 dX16_box_79 (lv_at hl 8 rfl) ?_
  obtain ⟨q3, h⟩ := h
  refine lv_iadd B.1 B.2.1 dX16_box_81 ?_
  rw [i32_add]
  obtain ⟨b37, n38, eb37, jb37, ib37, h⟩ := h
  refine W.eq (g2 := F0 m 82 ls [.int (i32 (v7 + v10)), .ref b37, .int (i32 ((8 * v9) + v10)), .ref (ra 62)]) (by rw [eb37]; rfl) ?_
  refine x_lald B K.2.1 hH (hS.any jb37) (rAr_lt jb37) ib37 dX16_box_82 ?_
  obtain ⟨q5, h⟩ := h
  obtain ⟨σ39, eσ39⟩ : ∃ z, z = pJ σ (ra 62) ((8 * v9) + v10).toNat (gJ σ b37 (v7 + v10).toNat) := ⟨_, rfl⟩
  have h := h σ39 eσ39
  refine x_last B K.2.1 hH (hS.ar (k := 62) (kd := 101) (n := 102416) (by decide)) (by decide) q5 dX16_box_83 (fun H locs hH => ?_)
  have hH : Hd D cA A s (pJ σ (ra 62) ((8 * v9) + v10).toNat (gJ σ b37 (v7 + v10).toNat)) H locs := hH
  rw [← eσ39] at hH
  have hGσ39 : RG σ39 := by rw [eσ39]; exact hGσ.pJ
  have hS : Shp dm ra jx rm σ39 := by rw [eσ39]; exact hS
  have hc : CB n0 s0 σ39 := by rw [eσ39]; exact hc
  rw [show gc σ = gc σ39 by rw [eσ39], show gs σ = gs σ39 by rw [eσ39]]
  obtain ⟨q7, h⟩ := h
  refine lv_iinc (k := 8) (v := i32 (v10 + 1)) (lv' := [(10, .int (i32 (v10 + 1))), (0, .ref rm), (1, .int (i32 v1)), (2, .int (i32 v2)), (3, .int (i32 v3)), (6, va_rf v6), (7, .int (i32 v7)), (8, .int (i32 v8)), (9, .int (i32 v9))]) B.1 B.2.1 dX16_box_84 hl rfl (i32_add _ _) (by decide) rfl (fun ls hl => ?_)
  refine lv_goto (tgt := 52) B.1 B.2.1 dX16_box_87 (by decide) ?_
  exact hK52 _ _ _ _ _ _ _ _ _ g1 g2 g3 g7 g8 g9 q7 h hGσ39 hS _ _ _ hH (lv_sub (l' := [(0, .ref rm), (1, .int (i32 v1)), (2, .int (i32 v2)), (3, .int (i32 v3)), (6, va_rf v6), (7, .int (i32 v7)), (8, .int (i32 v8)), (9, .int (i32 v9)), (10, .int (i32 (v10 + 1)))]) hl [1, 2, 3, 4, 5, 6, 7, 8, 0] rfl) hc
set_option maxRecDepth 20000 in
theorem a_X16_box_59 {Q : Sg → Unit → Prop} {X : Sg → String → Prop} (K : MC R p s m args c cX16_box 11 RX16 D cA tys A n0 s0 0 0 []) (hQ : HQV p l e R s m args below meth c cX16_box D cA A n0 s0 QM dm ra jx rm Q) (hX : HX p l e R s m args below meth c 11 D cA A n0 s0 QM dm ra jx rm X) {K52 : Sg → Int → Int → Int → Option Nat → Int → Int → Int → Int → Prop} (hK52 : ∀ (σ : Sg) (v1 : Int) (v2 : Int) (v3 : Int) (v6 : Option Nat) (v7 : Int) (v8 : Int) (v9 : Int) (v10 : Int) (g1 : rng v1) (g2 : rng v2) (g3 : rng v3) (g7 : rng v7) (g8 : rng v8) (g9 : rng v9) (g10 : rng v10), K52 σ v1 v2 v3 v6 v7 v8 v9 v10 → RG σ → Shp dm ra jx rm σ → JJ p l e R s m args below meth c 11 D cA A n0 s0 QM σ 52 [(0, .ref rm), (1, .int (i32 v1)), (2, .int (i32 v2)), (3, .int (i32 v3)), (6, va_rf v6), (7, .int (i32 v7)), (8, .int (i32 v8)), (9, .int (i32 v9)), (10, .int (i32 v10))] []) : ∀ (σ : Sg) (v1 : Int) (v2 : Int) (v3 : Int) (v6 : Option Nat) (v7 : Int) (v8 : Int) (v9 : Int) (v10 : Int) (g1 : rng v1) (g2 : rng v2) (g3 : rng v3) (g7 : rng v7) (g8 : rng v8) (g9 : rng v9) (g10 : rng v10), w_X16_box_59 ra jx rm K52 Q X σ v1 v2 v3 v6 v7 v8 v9 v10 → RG σ → Shp dm ra jx rm σ → JJ p l e R s m args below meth c 11 D cA A n0 s0 QM σ 59 [(0, .ref rm), (1, .int (i32 v1)), (2, .int (i32 v2)), (3, .int (i32 v3)), (6, va_rf v6), (7, .int (i32 v7)), (8, .int (i32 v8)), (9, .int (i32 v9)), (10, .int (i32 v10))] [] := by
  intro σ v1 v2 v3 v6 v7 v8 v9 v10 g1 g2 g3 g7 g8 g9 g10 h hGσ hS H locs ls hH hl hc
  have B := K.1
  unfold w_X16_box_59 at h
  refine lv_iload_n B.1 B.2.1 dX16_box_59 rfl (lv_at hl 3 rfl) ?_
  refine lv_if_ne (tgt := 90) B.1 B.2.1 dX16_box_60 (by decide) (fun h9 => ?_) (fun h9 => ?_)
  · rw [if_pos (fun q => h9 ((z_eq g3).mpr q))] at h
    exact a_X16_box_90 K hQ hX _ _ _ _ _ g1 g2 g8 g9 h hGσ hS _ _ _ hH (lv_sub (l' := [(0, .ref rm), (1, .int (i32 v1)), (2, .int (i32 v2)), (8, .int (i32 v8)), (9, .int (i32 v9))]) hl [0, 1, 2, 6, 7] rfl) hc
  · rw [if_neg (fun q => q ((z_eq g3).mp h9))] at h
    exact a_X16_box_63 K hQ hX hK52 _ _ _ _ _ _ _ _ _ g1 g2 g3 g7 g8 g9 g10 h hGσ hS _ _ _ hH (lv_sub (l' := [(0, .ref rm), (1, .int (i32 v1)), (2, .int (i32 v2)), (3, .int (i32 v3)), (6, va_rf v6), (7, .int (i32 v7)), (8, .int (i32 v8)), (9, .int (i32 v9)), (10, .int (i32 v10))]) hl [0, 1, 2, 3, 4, 5, 6, 7, 8] rfl) hc
set_option maxRecDepth 20000 in
theorem a_X16_box_52 {Q : Sg → Unit → Prop} {X : Sg → String → Prop} (K : MC R p s m args c cX16_box 11 RX16 D cA tys A n0 s0 0 0 []) (hQ : HQV p l e R s m args below meth c cX16_box D cA A n0 s0 QM dm ra jx rm Q) (hX : HX p l e R s m args below meth c 11 D cA A n0 s0 QM dm ra jx rm X) {K52 : Sg → Int → Int → Int → Option Nat → Int → Int → Int → Int → Prop} (hK52 : ∀ (σ : Sg) (v1 : Int) (v2 : Int) (v3 : Int) (v6 : Option Nat) (v7 : Int) (v8 : Int) (v9 : Int) (v10 : Int) (g1 : rng v1) (g2 : rng v2) (g3 : rng v3) (g7 : rng v7) (g8 : rng v8) (g9 : rng v9) (g10 : rng v10), K52 σ v1 v2 v3 v6 v7 v8 v9 v10 → RG σ → Shp dm ra jx rm σ → JJ p l e R s m args below meth c 11 D cA A n0 s0 QM σ 52 [(0, .ref rm), (1, .int (i32 v1)), (2, .int (i32 v2)), (3, .int (i32 v3)), (6, va_rf v6), (7, .int (i32 v7)), (8, .int (i32 v8)), (9, .int (i32 v9)), (10, .int (i32 v10))] []) : ∀ (σ : Sg) (v1 : Int) (v2 : Int) (v3 : Int) (v6 : Option Nat) (v7 : Int) (v8 : Int) (v9 : Int) (v10 : Int) (g1 : rng v1) (g2 : rng v2) (g3 : rng v3) (g7 : rng v7) (g8 : rng v8) (g9 : rng v9) (g10 : rng v10), w_X16_box_52 ra jx rm K52 Q X σ v1 v2 v3 v6 v7 v8 v9 v10 → RG σ → Shp dm ra jx rm σ → JJ p l e R s m args below meth c 11 D cA A n0 s0 QM σ 52 [(0, .ref rm), (1, .int (i32 v1)), (2, .int (i32 v2)), (3, .int (i32 v3)), (6, va_rf v6), (7, .int (i32 v7)), (8, .int (i32 v8)), (9, .int (i32 v9)), (10, .int (i32 v10))] [] := by
  intro σ v1 v2 v3 v6 v7 v8 v9 v10 g1 g2 g3 g7 g8 g9 g10 h hGσ hS H locs ls hH hl hc
  have B := K.1
  unfold w_X16_box_52 at h
  refine lv_iload B.1 B.2.1 dX16_box_52 (lv_at hl 8 rfl) ?_
  refine lv_bipush (v := i32 8) B.1 B.2.1 dX16_box_54 (by decide) ?_
  refine lv_icmp_ge (tgt := 90) B.1 B.2.1 dX16_box_56 (by decide) (fun h9 => ?_) (fun h9 => ?_)
  · rw [if_pos ((i32_le (by unfold rng; omega) g10).mp h9)] at h
    exact a_X16_box_90 K hQ hX _ _ _ _ _ g1 g2 g8 g9 h hGσ hS _ _ _ hH (lv_sub (l' := [(0, .ref rm), (1, .int (i32 v1)), (2, .int (i32 v2)), (8, .int (i32 v8)), (9, .int (i32 v9))]) hl [0, 1, 2, 6, 7] rfl) hc
  · rw [if_neg (fun q => h9 ((i32_le (by unfold rng; omega) g10).mpr q))] at h
    exact a_X16_box_59 K hQ hX hK52 _ _ _ _ _ _ _ _ _ g1 g2 g3 g7 g8 g9 g10 h hGσ hS _ _ _ hH (lv_sub (l' := [(0, .ref rm), (1, .int (i32 v1)), (2, .int (i32 v2)), (3, .int (i32 v3)), (6, va_rf v6), (7, .int (i32 v7)), (8, .int (i32 v8)), (9, .int (i32 v9)), (10, .int (i32 v10))]) hl [0, 1, 2, 3, 4, 5, 6, 7, 8] rfl) hc
theorem al_X16_box_52 {Q : Sg → Unit → Prop} {X : Sg → String → Prop} (K : MC R p s m args c cX16_box 11 RX16 D cA tys A n0 s0 0 0 []) (hQ : HQV p l e R s m args below meth c cX16_box D cA A n0 s0 QM dm ra jx rm Q) (hX : HX p l e R s m args below meth c 11 D cA A n0 s0 QM dm ra jx rm X) : ∀ (n : Nat), ∀ (σ : Sg) (v1 : Int) (v2 : Int) (v3 : Int) (v6 : Option Nat) (v7 : Int) (v8 : Int) (v9 : Int) (v10 : Int) (g1 : rng v1) (g2 : rng v2) (g3 : rng v3) (g7 : rng v7) (g8 : rng v8) (g9 : rng v9) (g10 : rng v10), wl_X16_box_52 ra jx rm Q X n σ v1 v2 v3 v6 v7 v8 v9 v10 → RG σ → Shp dm ra jx rm σ → JJ p l e R s m args below meth c 11 D cA A n0 s0 QM σ 52 [(0, .ref rm), (1, .int (i32 v1)), (2, .int (i32 v2)), (3, .int (i32 v3)), (6, va_rf v6), (7, .int (i32 v7)), (8, .int (i32 v8)), (9, .int (i32 v9)), (10, .int (i32 v10))] [] := by
  intro n
  induction n with
  | zero => intro σ v1 v2 v3 v6 v7 v8 v9 v10 g1 g2 g3 g7 g8 g9 g10 h; exact h.elim
  | succ n ih => exact fun σ v1 v2 v3 v6 v7 v8 v9 v10 g1 g2 g3 g7 g8 g9 g10 h => a_X16_box_52 K hQ hX ih σ v1 v2 v3 v6 v7 v8 v9 v10 g1 g2 g3 g7 g8 g9 g10 h
set_option maxRecDepth 20000 in
theorem a_X16_box_15 {Q : Sg → Unit → Prop} {X : Sg → String → Prop} (K : MC R p s m args c cX16_box 11 RX16 D cA tys A n0 s0 0 0 []) (hQ : HQV p l e R s m args below meth c cX16_box D cA A n0 s0 QM dm ra jx rm Q) (hX : HX p l e R s m args below meth c 11 D cA A n0 s0 QM dm ra jx rm X) : ∀ (σ : Sg) (v1 : Int) (v2 : Int) (v3 : Int) (v4 : Int64) (v6 : Option Nat) (v7 : Int) (v8 : Int) (g1 : rng v1) (g2 : rng v2) (g3 : rng v3) (g7 : rng v7) (g8 : rng v8), w_X16_box_15 ra jx rm Q X σ v1 v2 v3 v4 v6 v7 v8 → RG σ → Shp dm ra jx rm σ → JJ p l e R s m args below meth c 11 D cA A n0 s0 QM σ 15 [(0, .ref rm), (1, .int (i32 v1)), (2, .int (i32 v2)), (3, .int (i32 v3)), (4, .long v4), (6, va_rf v6), (7, .int (i32 v7)), (8, .int (i32 v8))] [] := by
  intro σ v1 v2 v3 v4 v6 v7 v8 g1 g2 g3 g7 g8 h hGσ hS H locs ls hH hl hc
  have B := K.1
  unfold w_X16_box_15 at h
  refine lv_aload_n B.1 B.2.1 dX16_box_15 rfl (lv_at hl 0 rfl) ?_
  refine r_geti B hH hS 66 (by decide) wf_X16_408 rfl rfl dX16_box_16 ?_
  refine lv_istore (lv' := [(9, .int (i32 (gI σ rm 66))), (0, .ref rm), (1, .int (i32 v1)), (2, .int (i32 v2)), (3, .int (i32 v3)), (4, .long v4), (6, va_rf v6), (7, .int (i32 v7)), (8, .int (i32 v8))]) B.1 B.2.1 dX16_box_19 hl (by decide) rfl (fun ls hl => ?_)
  refine lv_aload_n B.1 B.2.1 dX16_box_21 rfl (lv_at hl 1 rfl) ?_
  refine lv_aload_n B.1 B.2.1 dX16_box_22 rfl (lv_at hl 1 rfl) ?_
  refine r_arr B hH hS 65 (kd := 100) (n := 12802) (by decide) (by decide) wf_X16_405 rfl rfl dX16_box_23 ?_
  refine lv_iload B.1 B.2.1 dX16_box_26 (lv_at hl 0 rfl) ?_
  obtain ⟨q1, h⟩ := h
  refine x_iald B K.2.1 hH (hS.ar (k := 65) (kd := 100) (n := 12802) (by decide)) (by decide) q1 dX16_box_28 ?_
  obtain ⟨σ40, eσ40⟩ : ∃ z, z = pI σ rm 66 (gI σ (ra 65) (gI σ rm 66).toNat) := ⟨_, rfl⟩
  have h := h σ40 eσ40
  refine r_puti B hH hS 66 (ty := .int) (by decide) wf_X16_408 rfl rfl rfl rfl rfl rfl dX16_box_29 (fun H locs hH => ?_)
  have hH : Hd D cA A s (pI σ rm 66 (gI σ (ra 65) (gI σ rm 66).toNat)) H locs := hH
  rw [← eσ40] at hH
  have hGσ40 : RG σ40 := by rw [eσ40]; exact hGσ.pI (hGσ _ _)
  have hS : Shp dm ra jx rm σ40 := by rw [eσ40]; exact hS
  have hc : CB n0 s0 σ40 := by rw [eσ40]; exact hc
  rw [show gc σ = gc σ40 by rw [eσ40], show gs σ = gs σ40 by rw [eσ40]]
  refine lv_aload_n B.1 B.2.1 dX16_box_32 rfl (lv_at hl 1 rfl) ?_
  refine r_arr B hH hS 60 (kd := 100) (n := 12802) (by decide) (by decide) wf_X16_467 rfl rfl dX16_box_33 ?_
  refine lv_iload B.1 B.2.1 dX16_box_36 (lv_at hl 0 rfl) ?_
  refine lv_iload_n B.1 B.2.1 dX16_box_38 rfl (lv_at hl 4 rfl) ?_
  obtain ⟨q3, h⟩ := h
  obtain ⟨σ41, eσ41⟩ : ∃ z, z = pI σ40 (ra 60) (gI σ rm 66).toNat v3 := ⟨_, rfl⟩
  have h := h σ41 eσ41
  refine x_iast B K.2.1 hH (hS.ar (k := 60) (kd := 100) (n := 12802) (by decide)) (by decide) q3 dX16_box_39 (fun H locs hH => ?_)
  have hH : Hd D cA A s (pI σ40 (ra 60) (gI σ rm 66).toNat v3) H locs := hH
  rw [← eσ41] at hH
  have hGσ41 : RG σ41 := by rw [eσ41]; exact hGσ40.pI g3
  have hS : Shp dm ra jx rm σ41 := by rw [eσ41]; exact hS
  have hc : CB n0 s0 σ41 := by rw [eσ41]; exact hc
  rw [show gc σ40 = gc σ41 by rw [eσ41], show gs σ40 = gs σ41 by rw [eσ41]]
  refine lv_aload_n B.1 B.2.1 dX16_box_40 rfl (lv_at hl 1 rfl) ?_
  refine r_arr B hH hS 61 (kd := 101) (n := 12802) (by decide) (by decide) wf_X16_470 rfl rfl dX16_box_41 ?_
  refine lv_iload B.1 B.2.1 dX16_box_44 (lv_at hl 0 rfl) ?_
  refine lv_lload B.1 B.2.1 dX16_box_46 (lv_at hl 5 rfl) ?_
  obtain ⟨q5, h⟩ := h
  obtain ⟨σ42, eσ42⟩ : ∃ z, z = pJ σ41 (ra 61) (gI σ rm 66).toNat v4 := ⟨_, rfl⟩
  have h := h σ42 eσ42
  refine x_last B K.2.1 hH (hS.ar (k := 61) (kd := 101) (n := 12802) (by decide)) (by decide) q5 dX16_box_48 (fun H locs hH => ?_)
  have hH : Hd D cA A s (pJ σ41 (ra 61) (gI σ rm 66).toNat v4) H locs := hH
  rw [← eσ42] at hH
  have hGσ42 : RG σ42 := by rw [eσ42]; exact hGσ41.pJ
  have hS : Shp dm ra jx rm σ42 := by rw [eσ42]; exact hS
  have hc : CB n0 s0 σ42 := by rw [eσ42]; exact hc
  rw [show gc σ41 = gc σ42 by rw [eσ42], show gs σ41 = gs σ42 by rw [eσ42]]
  refine lv_iconst (v := i32 0) B.1 B.2.1 dX16_box_49 (by decide) ?_
  refine lv_istore (lv' := [(10, .int (i32 0)), (9, .int (i32 (gI σ rm 66))), (0, .ref rm), (1, .int (i32 v1)), (2, .int (i32 v2)), (3, .int (i32 v3)), (4, .long v4), (6, va_rf v6), (7, .int (i32 v7)), (8, .int (i32 v8))]) B.1 B.2.1 dX16_box_50 hl (by decide) rfl (fun ls hl => ?_)
  obtain ⟨n9, h⟩ := h
  exact al_X16_box_52 K hQ hX n9 _ _ _ _ _ _ _ _ _ g1 g2 g3 g7 g8 (hGσ _ _) (by unfold rng; omega) h hGσ42 hS _ _ _ hH (lv_sub (l' := [(0, .ref rm), (1, .int (i32 v1)), (2, .int (i32 v2)), (3, .int (i32 v3)), (6, va_rf v6), (7, .int (i32 v7)), (8, .int (i32 v8)), (9, .int (i32 (gI σ rm 66))), (10, .int (i32 0))]) hl [2, 3, 4, 5, 7, 8, 9, 1, 0] rfl) hc
set_option maxRecDepth 20000 in
theorem a_X16_box_10 {Q : Sg → Unit → Prop} {X : Sg → String → Prop} (K : MC R p s m args c cX16_box 11 RX16 D cA tys A n0 s0 0 0 []) (hQ : HQV p l e R s m args below meth c cX16_box D cA A n0 s0 QM dm ra jx rm Q) (hX : HX p l e R s m args below meth c 11 D cA A n0 s0 QM dm ra jx rm X) : ∀ (σ : Sg), w_X16_box_10 ra jx rm Q X σ → RG σ → Shp dm ra jx rm σ → JJ p l e R s m args below meth c 11 D cA A n0 s0 QM σ 10 [(0, .ref rm)] [] := by
  intro σ h hGσ hS H locs ls hH hl hc
  have B := K.1
  unfold w_X16_box_10 at h
  refine lv_aload_n B.1 B.2.1 dX16_box_10 rfl (lv_at hl 0 rfl) ?_
  refine r_obj B hH hS 28 (ci := 13) (by decide) (by decide) wf_X16_346 rfl rfl dX16_box_11 ?_
  refine W.eq (g2 := F0 m 14 ls [va_rf (some (ra 28))]) (rfl) ?_
  obtain ⟨qt, h⟩ := h
  rcases qt with qt | qt
  · refine W.eq (g2 := F0 m 14 ls [.ref (ra 28)]) (by rw [qt]; rfl) ?_
    have hx9 := And.intro h (And.intro hGσ hS)
    refine h_athrow B hH hl hc (ci := 13) (hS.ob (k := 28) (ci := 13) (by decide)).1 (hS.ob (k := 28) (ci := 13) (by decide)).2 (by decide) rfl dX16_box_14 ?_
    exact hX σ _ _ _ _ (tb_out K.2.2.2.2.2 rfl) hx9.1 hx9.2.1 hx9.2.2
  · refine W.eq (g2 := F0 m 14 ls [.ref (ra 29)]) (by rw [qt]; rfl) ?_
    have hx9 := And.intro h (And.intro hGσ hS)
    refine h_athrow B hH hl hc (ci := 13) (hS.ob (k := 29) (ci := 13) (by decide)).1 (hS.ob (k := 29) (ci := 13) (by decide)).2 (by decide) rfl dX16_box_14 ?_
    exact hX σ _ _ _ _ (tb_out K.2.2.2.2.2 rfl) hx9.1 hx9.2.1 hx9.2.2
set_option maxRecDepth 20000 in
theorem a_X16_box_0 {Q : Sg → Unit → Prop} {X : Sg → String → Prop} (K : MC R p s m args c cX16_box 11 RX16 D cA tys A n0 s0 0 0 []) (hQ : HQV p l e R s m args below meth c cX16_box D cA A n0 s0 QM dm ra jx rm Q) (hX : HX p l e R s m args below meth c 11 D cA A n0 s0 QM dm ra jx rm X) : ∀ (σ : Sg) (v1 : Int) (v2 : Int) (v3 : Int) (v4 : Int64) (v6 : Option Nat) (v7 : Int) (v8 : Int) (g1 : rng v1) (g2 : rng v2) (g3 : rng v3) (g7 : rng v7) (g8 : rng v8), w_X16_box_0 ra jx rm Q X σ v1 v2 v3 v4 v6 v7 v8 → RG σ → Shp dm ra jx rm σ → JJ p l e R s m args below meth c 11 D cA A n0 s0 QM σ 0 [(0, .ref rm), (1, .int (i32 v1)), (2, .int (i32 v2)), (3, .int (i32 v3)), (4, .long v4), (6, va_rf v6), (7, .int (i32 v7)), (8, .int (i32 v8))] [] := by
  intro σ v1 v2 v3 v4 v6 v7 v8 g1 g2 g3 g7 g8 h hGσ hS H locs ls hH hl hc
  have B := K.1
  unfold w_X16_box_0 at h
  refine lv_aload_n B.1 B.2.1 dX16_box_0 rfl (lv_at hl 0 rfl) ?_
  refine r_geti B hH hS 67 (by decide) wf_X16_411 rfl rfl dX16_box_1 ?_
  refine lv_sipush (v := i32 4000) B.1 B.2.1 dX16_box_4 (by decide) ?_
  refine lv_icmp_ne (tgt := 15) B.1 B.2.1 dX16_box_7 (by decide) (fun h9 => ?_) (fun h9 => ?_)
  · rw [if_pos (fun q => h9 ((i32_eq (hGσ _ _) (by unfold rng; omega)).mpr q))] at h
    exact a_X16_box_15 K hQ hX _ _ _ _ _ _ _ _ g1 g2 g3 g7 g8 h hGσ hS _ _ _ hH (lv_sub (l' := [(0, .ref rm), (1, .int (i32 v1)), (2, .int (i32 v2)), (3, .int (i32 v3)), (4, .long v4), (6, va_rf v6), (7, .int (i32 v7)), (8, .int (i32 v8))]) hl [0, 1, 2, 3, 4, 5, 6, 7] rfl) hc
  · rw [if_neg (fun q => q ((i32_eq (hGσ _ _) (by unfold rng; omega)).mp h9))] at h
    exact a_X16_box_10 K hQ hX _ h hGσ hS _ _ _ hH (lv_sub (l' := [(0, .ref rm)]) hl [0] rfl) hc
theorem ok_X16_box (hT : Tys cA tys) {Q : Sg → Unit → Prop} {X : Sg → String → Prop} (σ : Sg) (v1 : Int) (v2 : Int) (v3 : Int) (v4 : Int64) (v6 : Option Nat) (v7 : Int) (v8 : Int) (g1 : rng v1) (g2 : rng v2) (g3 : rng v3) (g7 : rng v7) (g8 : rng v8) (hG : RG σ) (hS : Shp dm ra jx rm σ) (h : wp_X16_box ra jx rm v1 v2 v3 v4 v6 v7 v8 σ Q X) : Ok l D cA tys A yX16_box (.code yX16_box cX16_box 11 none) 0 0 [.ref rm, .int (i32 v1), .int (i32 v2), .int (i32 v3), .long v4, va_rf v6, .int (i32 v7), .int (i32 v8)] σ (QnV dm ra jx rm Q) (QxR dm ra jx rm X) := by
  unfold wp_X16_box at h
  exact ok_V (plainFor_of_name (by decide)) (by cases v6 <;> exact Nat.le_of_ble_eq_true rfl) hT (fun p e R s m args below meth c K hQ hX H locs ls hH hl hc => a_X16_box_0 K hQ hX σ v1 v2 v3 v4 v6 v7 v8 g1 g2 g3 g7 g8 h hG hS H locs ls hH (lv_sub (l' := [(0, .ref rm), (1, .int (i32 v1)), (2, .int (i32 v2)), (3, .int (i32 v3)), (4, .long v4), (6, va_rf v6), (7, .int (i32 v7)), (8, .int (i32 v8))]) hl [0, 1, 2, 3, 4, 5, 6, 7] (by cases v6 <;> rfl)) hc)
theorem dX16_spread_0 : decode cX16_spread 0 = .ok (.iconst 0, 1) := by decide +kernel
theorem dX16_spread_1 : decode cX16_spread 1 = .ok (.istore 5, 2) := by decide +kernel
theorem dX16_spread_3 : decode cX16_spread 3 = .ok (.iload 5, 2) := by decide +kernel
theorem dX16_spread_5 : decode cX16_spread 5 = .ok (.aload_n 0, 1) := by decide +kernel
theorem dX16_spread_6 : decode cX16_spread 6 = .ok (.getfield 371, 3) := by decide +kernel
theorem dX16_spread_9 : decode cX16_spread 9 = .ok (.if_icmp .ge 35, 3) := by decide +kernel
theorem dX16_spread_12 : decode cX16_spread 12 = .ok (.aload_n 0, 1) := by decide +kernel
theorem dX16_spread_13 : decode cX16_spread 13 = .ok (.getfield 368, 3) := by decide +kernel
theorem dX16_spread_16 : decode cX16_spread 16 = .ok (.iload 5, 2) := by decide +kernel
theorem dX16_spread_18 : decode cX16_spread 18 = .ok (.iaload, 1) := by decide +kernel
theorem dX16_spread_19 : decode cX16_spread 19 = .ok (.iload_n 1, 1) := by decide +kernel
theorem dX16_spread_20 : decode cX16_spread 20 = .ok (.if_icmp .ne 18, 3) := by decide +kernel
theorem dX16_spread_23 : decode cX16_spread 23 = .ok (.aload_n 0, 1) := by decide +kernel
theorem dX16_spread_24 : decode cX16_spread 24 = .ok (.iload_n 1, 1) := by decide +kernel
theorem dX16_spread_25 : decode cX16_spread 25 = .ok (.iload 5, 2) := by decide +kernel
theorem dX16_spread_27 : decode cX16_spread 27 = .ok (.iload_n 2, 1) := by decide +kernel
theorem dX16_spread_28 : decode cX16_spread 28 = .ok (.lload_n 3, 1) := by decide +kernel
theorem dX16_spread_29 : decode cX16_spread 29 = .ok (.aload_n 0, 1) := by decide +kernel
theorem dX16_spread_30 : decode cX16_spread 30 = .ok (.getfield 336, 3) := by decide +kernel
theorem dX16_spread_33 : decode cX16_spread 33 = .ok (.iconst 0, 1) := by decide +kernel
theorem dX16_spread_34 : decode cX16_spread 34 = .ok (.iconst 0, 1) := by decide +kernel
theorem dX16_spread_35 : decode cX16_spread 35 = .ok (.invokevirtual 482, 3) := by decide +kernel
theorem dX16_spread_38 : decode cX16_spread 38 = .ok (.iinc 5 1, 3) := by decide +kernel
theorem dX16_spread_41 : decode cX16_spread 41 = .ok (.goto (-38), 3) := by decide +kernel
theorem dX16_spread_44 : decode cX16_spread 44 = .ok (.return_, 1) := by decide +kernel
set_option maxRecDepth 20000 in
theorem a_X16_spread_44 {Q : Sg → Unit → Prop} {X : Sg → String → Prop} (K : MC R p s m args c cX16_spread 6 RX16 D cA tys A n0 s0 1 30 []) (hQ : HQV p l e R s m args below meth c cX16_spread D cA A n0 s0 QM dm ra jx rm Q) (hX : HX p l e R s m args below meth c 6 D cA A n0 s0 QM dm ra jx rm X) : ∀ (σ : Sg), w_X16_spread_44 ra jx rm Q X σ → RG σ → Shp dm ra jx rm σ → JJ p l e R s m args below meth c 6 D cA A n0 s0 QM σ 44 [(0, .ref rm)] [] := by
  intro σ h hGσ hS H locs ls hH hl hc
  have B := K.1
  unfold w_X16_spread_44 at h
  exact hQ _ _ _ _ _ dX16_spread_44 hH hc h hGσ hS
set_option maxRecDepth 20000 in
theorem a_X16_spread_38 {Q : Sg → Unit → Prop} {X : Sg → String → Prop} (K : MC R p s m args c cX16_spread 6 RX16 D cA tys A n0 s0 1 30 []) (hQ : HQV p l e R s m args below meth c cX16_spread D cA A n0 s0 QM dm ra jx rm Q) (hX : HX p l e R s m args below meth c 6 D cA A n0 s0 QM dm ra jx rm X) {K3 : Sg → Int → Int → Int64 → Int → Prop} (hK3 : ∀ (σ : Sg) (v1 : Int) (v2 : Int) (v3 : Int64) (v5 : Int) (g1 : rng v1) (g2 : rng v2) (g5 : rng v5), K3 σ v1 v2 v3 v5 → RG σ → Shp dm ra jx rm σ → JJ p l e R s m args below meth c 6 D cA A n0 s0 QM σ 3 [(0, .ref rm), (1, .int (i32 v1)), (2, .int (i32 v2)), (3, .long v3), (5, .int (i32 v5))] []) : ∀ (σ : Sg) (v1 : Int) (v2 : Int) (v3 : Int64) (v5 : Int) (g1 : rng v1) (g2 : rng v2) (g5 : rng v5), w_X16_spread_38 ra jx rm K3 Q X σ v1 v2 v3 v5 → RG σ → Shp dm ra jx rm σ → JJ p l e R s m args below meth c 6 D cA A n0 s0 QM σ 38 [(0, .ref rm), (1, .int (i32 v1)), (2, .int (i32 v2)), (3, .long v3), (5, .int (i32 v5))] [] := by
  intro σ v1 v2 v3 v5 g1 g2 g5 h hGσ hS H locs ls hH hl hc
  have B := K.1
  unfold w_X16_spread_38 at h
  obtain ⟨q1, h⟩ := h
  refine lv_iinc (k := 4) (v := i32 (v5 + 1)) (lv' := [(5, .int (i32 (v5 + 1))), (0, .ref rm), (1, .int (i32 v1)), (2, .int (i32 v2)), (3, .long v3)]) B.1 B.2.1 dX16_spread_38 hl rfl (i32_add _ _) (by decide) rfl (fun ls hl => ?_)
  refine lv_goto (tgt := 3) B.1 B.2.1 dX16_spread_41 (by decide) ?_
  exact hK3 _ _ _ _ _ g1 g2 q1 h hGσ hS _ _ _ hH (lv_sub (l' := [(0, .ref rm), (1, .int (i32 v1)), (2, .int (i32 v2)), (3, .long v3), (5, .int (i32 (v5 + 1)))]) hl [1, 2, 3, 4, 0] rfl) hc
set_option maxRecDepth 20000 in
theorem a_X16_spread_23 {Q : Sg → Unit → Prop} {X : Sg → String → Prop} (K : MC R p s m args c cX16_spread 6 RX16 D cA tys A n0 s0 1 30 []) (hQ : HQV p l e R s m args below meth c cX16_spread D cA A n0 s0 QM dm ra jx rm Q) (hX : HX p l e R s m args below meth c 6 D cA A n0 s0 QM dm ra jx rm X) {K3 : Sg → Int → Int → Int64 → Int → Prop} (hK3 : ∀ (σ : Sg) (v1 : Int) (v2 : Int) (v3 : Int64) (v5 : Int) (g1 : rng v1) (g2 : rng v2) (g5 : rng v5), K3 σ v1 v2 v3 v5 → RG σ → Shp dm ra jx rm σ → JJ p l e R s m args below meth c 6 D cA A n0 s0 QM σ 3 [(0, .ref rm), (1, .int (i32 v1)), (2, .int (i32 v2)), (3, .long v3), (5, .int (i32 v5))] []) : ∀ (σ : Sg) (v1 : Int) (v2 : Int) (v3 : Int64) (v5 : Int) (g1 : rng v1) (g2 : rng v2) (g5 : rng v5), w_X16_spread_23 ra jx rm K3 Q X σ v1 v2 v3 v5 → RG σ → Shp dm ra jx rm σ → JJ p l e R s m args below meth c 6 D cA A n0 s0 QM σ 23 [(0, .ref rm), (1, .int (i32 v1)), (2, .int (i32 v2)), (3, .long v3), (5, .int (i32 v5))] [] := by
  intro σ v1 v2 v3 v5 g1 g2 g5 h hGσ hS H locs ls hH hl hc
  have B := K.1
  unfold w_X16_spread_23 at h
  refine lv_aload_n B.1 B.2.1 dX16_spread_23 rfl (lv_at hl 0 rfl) ?_
  refine lv_iload_n B.1 B.2.1 dX16_spread_24 rfl (lv_at hl 1 rfl) ?_
  refine lv_iload B.1 B.2.1 dX16_spread_25 (lv_at hl 4 rfl) ?_
  refine lv_iload_n B.1 B.2.1 dX16_spread_27 rfl (lv_at hl 2 rfl) ?_
  refine lv_lload_n B.1 B.2.1 dX16_spread_28 rfl (lv_at hl 3 rfl) ?_
  refine lv_aload_n B.1 B.2.1 dX16_spread_29 rfl (lv_at hl 0 rfl) ?_
  refine r_arr B hH hS 20 (kd := 101) (n := 1600) (by decide) (by decide) wf_X16_336 rfl rfl dX16_spread_30 ?_
  refine lv_iconst (v := i32 0) B.1 B.2.1 dX16_spread_33 (by decide) ?_
  refine lv_iconst (v := i32 0) B.1 B.2.1 dX16_spread_34 (by decide) ?_
  refine c_V B hH hl hc K.2.2.1 (C := RX16) (T := TX16) (N := 123) (ci := 16) (As := [.int (i32 v1), .int (i32 v5), .int (i32 v2), .long v3, va_rf (some (ra 20)), .int (i32 0), .int (i32 0)]) (ok_X16_box K.2.1 σ v1 v5 v2 v3 (some (ra 20)) 0 0 g1 g5 g2 (by unfold rng; omega) (by unfold rng; omega) hGσ hS h) wc_X16_482 7 hd_X16_box ⟨Nat.le_trans (Nat.le_of_ble_eq_true rfl) K.2.2.2.1, Nat.le_trans (Nat.le_of_ble_eq_true rfl) K.2.2.2.2.1⟩ hS.1.1 hS.1.2 (by decide) rfl rfl (rest := []) rfl (Nat.le_of_ble_eq_true rfl) dX16_spread_35 (fun σ3 w hq => ?_) (fun σ9 E9 hx9 => hX σ9 E9 _ _ _ (tb_out K.2.2.2.2.2 rfl) hx9.1 hx9.2.1 hx9.2.2)
  obtain ⟨rfl, h, hGσ3, hS⟩ := hq
  intro H locs ls hH hl hc
  refine W.eq (g2 := F0 m 38 ls []) (rfl) ?_
  try dsimp only at h
  exact a_X16_spread_38 K hQ hX hK3 _ _ _ _ _ g1 g2 g5 h hGσ3 hS _ _ _ hH (lv_sub (l' := [(0, .ref rm), (1, .int (i32 v1)), (2, .int (i32 v2)), (3, .long v3), (5, .int (i32 v5))]) hl [0, 1, 2, 3, 4] rfl) hc
set_option maxRecDepth 20000 in
theorem a_X16_spread_12 {Q : Sg → Unit → Prop} {X : Sg → String → Prop} (K : MC R p s m args c cX16_spread 6 RX16 D cA tys A n0 s0 1 30 []) (hQ : HQV p l e R s m args below meth c cX16_spread D cA A n0 s0 QM dm ra jx rm Q) (hX : HX p l e R s m args below meth c 6 D cA A n0 s0 QM dm ra jx rm X) {K3 : Sg → Int → Int → Int64 → Int → Prop} (hK3 : ∀ (σ : Sg) (v1 : Int) (v2 : Int) (v3 : Int64) (v5 : Int) (g1 : rng v1) (g2 : rng v2) (g5 : rng v5), K3 σ v1 v2 v3 v5 → RG σ → Shp dm ra jx rm σ → JJ p l e R s m args below meth c 6 D cA A n0 s0 QM σ 3 [(0, .ref rm), (1, .int (i32 v1)), (2, .int (i32 v2)), (3, .long v3), (5, .int (i32 v5))] []) : ∀ (σ : Sg) (v1 : Int) (v2 : Int) (v3 : Int64) (v5 : Int) (g1 : rng v1) (g2 : rng v2) (g5 : rng v5), w_X16_spread_12 ra jx rm K3 Q X σ v1 v2 v3 v5 → RG σ → Shp dm ra jx rm σ → JJ p l e R s m args below meth c 6 D cA A n0 s0 QM σ 12 [(0, .ref rm), (1, .int (i32 v1)), (2, .int (i32 v2)), (3, .long v3), (5, .int (i32 v5))] [] := by
  intro σ v1 v2 v3 v5 g1 g2 g5 h hGσ hS H locs ls hH hl hc
  have B := K.1
  unfold w_X16_spread_12 at h
  refine lv_aload_n B.1 B.2.1 dX16_spread_12 rfl (lv_at hl 0 rfl) ?_
  refine r_arr B hH hS 51 (kd := 100) (n := 1100) (by decide) (by decide) wf_X16_368 rfl rfl dX16_spread_13 ?_
  refine lv_iload B.1 B.2.1 dX16_spread_16 (lv_at hl 4 rfl) ?_
  obtain ⟨q1, h⟩ := h
  refine x_iald B K.2.1 hH (hS.ar (k := 51) (kd := 100) (n := 1100) (by decide)) (by decide) q1 dX16_spread_18 ?_
  refine lv_iload_n B.1 B.2.1 dX16_spread_19 rfl (lv_at hl 1 rfl) ?_
  refine lv_icmp_ne (tgt := 38) B.1 B.2.1 dX16_spread_20 (by decide) (fun h9 => ?_) (fun h9 => ?_)
  · rw [if_pos (fun q => h9 ((i32_eq (hGσ _ _) g1).mpr q))] at h
    exact a_X16_spread_38 K hQ hX hK3 _ _ _ _ _ g1 g2 g5 h hGσ hS _ _ _ hH (lv_sub (l' := [(0, .ref rm), (1, .int (i32 v1)), (2, .int (i32 v2)), (3, .long v3), (5, .int (i32 v5))]) hl [0, 1, 2, 3, 4] rfl) hc
  · rw [if_neg (fun q => q ((i32_eq (hGσ _ _) g1).mp h9))] at h
    exact a_X16_spread_23 K hQ hX hK3 _ _ _ _ _ g1 g2 g5 h hGσ hS _ _ _ hH (lv_sub (l' := [(0, .ref rm), (1, .int (i32 v1)), (2, .int (i32 v2)), (3, .long v3), (5, .int (i32 v5))]) hl [0, 1, 2, 3, 4] rfl) hc
set_option maxRecDepth 20000 in
theorem a_X16_spread_3 {Q : Sg → Unit → Prop} {X : Sg → String → Prop} (K : MC R p s m args c cX16_spread 6 RX16 D cA tys A n0 s0 1 30 []) (hQ : HQV p l e R s m args below meth c cX16_spread D cA A n0 s0 QM dm ra jx rm Q) (hX : HX p l e R s m args below meth c 6 D cA A n0 s0 QM dm ra jx rm X) {K3 : Sg → Int → Int → Int64 → Int → Prop} (hK3 : ∀ (σ : Sg) (v1 : Int) (v2 : Int) (v3 : Int64) (v5 : Int) (g1 : rng v1) (g2 : rng v2) (g5 : rng v5), K3 σ v1 v2 v3 v5 → RG σ → Shp dm ra jx rm σ → JJ p l e R s m args below meth c 6 D cA A n0 s0 QM σ 3 [(0, .ref rm), (1, .int (i32 v1)), (2, .int (i32 v2)), (3, .long v3), (5, .int (i32 v5))] []) : ∀ (σ : Sg) (v1 : Int) (v2 : Int) (v3 : Int64) (v5 : Int) (g1 : rng v1) (g2 : rng v2) (g5 : rng v5), w_X16_spread_3 ra jx rm K3 Q X σ v1 v2 v3 v5 → RG σ → Shp dm ra jx rm σ → JJ p l e R s m args below meth c 6 D cA A n0 s0 QM σ 3 [(0, .ref rm), (1, .int (i32 v1)), (2, .int (i32 v2)), (3, .long v3), (5, .int (i32 v5))] [] := by
  intro σ v1 v2 v3 v5 g1 g2 g5 h hGσ hS H locs ls hH hl hc
  have B := K.1
  unfold w_X16_spread_3 at h
  refine lv_iload B.1 B.2.1 dX16_spread_3 (lv_at hl 4 rfl) ?_
  refine lv_aload_n B.1 B.2.1 dX16_spread_5 rfl (lv_at hl 0 rfl) ?_
  refine r_geti B hH hS 50 (by decide) wf_X16_371 rfl rfl dX16_spread_6 ?_
  refine lv_icmp_ge (tgt := 44) B.1 B.2.1 dX16_spread_9 (by decide) (fun h9 => ?_) (fun h9 => ?_)
  · rw [if_pos ((i32_le (hGσ _ _) g5).mp h9)] at h
    exact a_X16_spread_44 K hQ hX _ h hGσ hS _ _ _ hH (lv_sub (l' := [(0, .ref rm)]) hl [0] rfl) hc
  · rw [if_neg (fun q => h9 ((i32_le (hGσ _ _) g5).mpr q))] at h
    exact a_X16_spread_12 K hQ hX hK3 _ _ _ _ _ g1 g2 g5 h hGσ hS _ _ _ hH (lv_sub (l' := [(0, .ref rm), (1, .int (i32 v1)), (2, .int (i32 v2)), (3, .long v3), (5, .int (i32 v5))]) hl [0, 1, 2, 3, 4] rfl) hc
theorem al_X16_spread_3 {Q : Sg → Unit → Prop} {X : Sg → String → Prop} (K : MC R p s m args c cX16_spread 6 RX16 D cA tys A n0 s0 1 30 []) (hQ : HQV p l e R s m args below meth c cX16_spread D cA A n0 s0 QM dm ra jx rm Q) (hX : HX p l e R s m args below meth c 6 D cA A n0 s0 QM dm ra jx rm X) : ∀ (n : Nat), ∀ (σ : Sg) (v1 : Int) (v2 : Int) (v3 : Int64) (v5 : Int) (g1 : rng v1) (g2 : rng v2) (g5 : rng v5), wl_X16_spread_3 ra jx rm Q X n σ v1 v2 v3 v5 → RG σ → Shp dm ra jx rm σ → JJ p l e R s m args below meth c 6 D cA A n0 s0 QM σ 3 [(0, .ref rm), (1, .int (i32 v1)), (2, .int (i32 v2)), (3, .long v3), (5, .int (i32 v5))] [] := by
  intro n
  induction n with
  | zero => intro σ v1 v2 v3 v5 g1 g2 g5 h; exact h.elim
  | succ n ih => exact fun σ v1 v2 v3 v5 g1 g2 g5 h => a_X16_spread_3 K hQ hX ih σ v1 v2 v3 v5 g1 g2 g5 h
set_option maxRecDepth 20000 in
theorem a_X16_spread_0 {Q : Sg → Unit → Prop} {X : Sg → String → Prop} (K : MC R p s m args c cX16_spread 6 RX16 D cA tys A n0 s0 1 30 []) (hQ : HQV p l e R s m args below meth c cX16_spread D cA A n0 s0 QM dm ra jx rm Q) (hX : HX p l e R s m args below meth c 6 D cA A n0 s0 QM dm ra jx rm X) : ∀ (σ : Sg) (v1 : Int) (v2 : Int) (v3 : Int64) (g1 : rng v1) (g2 : rng v2), w_X16_spread_0 ra jx rm Q X σ v1 v2 v3 → RG σ → Shp dm ra jx rm σ → JJ p l e R s m args below meth c 6 D cA A n0 s0 QM σ 0 [(0, .ref rm), (1, .int (i32 v1)), (2, .int (i32 v2)), (3, .long v3)] [] := by
  intro σ v1 v2 v3 g1 g2 h hGσ hS H locs ls hH hl hc
  have B := K.1
  unfold w_X16_spread_0 at h
  refine lv_iconst (v := i32 0) B.1 B.2.1 dX16_spread_0 (by decide) ?_
  refine lv_istore (lv' := [(5, .int (i32 0)), (0, .ref rm), (1, .int (i32 v1)), (2, .int (i32 v2)), (3, .long v3)]) B.1 B.2.1 dX16_spread_1 hl (by decide) rfl (fun ls hl => ?_)
  obtain ⟨n9, h⟩ := h
  exact al_X16_spread_3 K hQ hX n9 _ _ _ _ _ g1 g2 (by unfold rng; omega) h hGσ hS _ _ _ hH (lv_sub (l' := [(0, .ref rm), (1, .int (i32 v1)), (2, .int (i32 v2)), (3, .long v3), (5, .int (i32 0))]) hl [1, 2, 3, 4, 0] rfl) hc
theorem ok_X16_spread (hT : Tys cA tys) {Q : Sg → Unit → Prop} {X : Sg → String → Prop} (σ : Sg) (v1 : Int) (v2 : Int) (v3 : Int64) (g1 : rng v1) (g2 : rng v2) (hG : RG σ) (hS : Shp dm ra jx rm σ) (h : wp_X16_spread ra jx rm v1 v2 v3 σ Q X) : Ok l D cA tys A yX16_spread (.code yX16_spread cX16_spread 6 none) 1 30 [.ref rm, .int (i32 v1), .int (i32 v2), .long v3] σ (QnV dm ra jx rm Q) (QxR dm ra jx rm X) := by
  unfold wp_X16_spread at h
  exact ok_V (plainFor_of_name (by decide)) (by exact Nat.le_of_ble_eq_true rfl) hT (fun p e R s m args below meth c K hQ hX H locs ls hH hl hc => a_X16_spread_0 K hQ hX σ v1 v2 v3 g1 g2 h hG hS H locs ls hH (lv_sub (l' := [(0, .ref rm), (1, .int (i32 v1)), (2, .int (i32 v2)), (3, .long v3)]) hl [0, 1, 2, 3] rfl) hc)
theorem dX16_restore_0 : decode cX16_restore 0 = .ok (.aload_n 0, 1) := by decide +kernel
theorem dX16_restore_1 : decode cX16_restore 1 = .ok (.invokevirtual 834, 3) := by decide +kernel
theorem dX16_restore_4 : decode cX16_restore 4 = .ok (.aload_n 0, 1) := by decide +kernel
theorem dX16_restore_5 : decode cX16_restore 5 = .ok (.getfield 748, 3) := by decide +kernel
theorem dX16_restore_8 : decode cX16_restore 8 = .ok (.iconst 0, 1) := by decide +kernel
theorem dX16_restore_9 : decode cX16_restore 9 = .ok (.iaload, 1) := by decide +kernel
theorem dX16_restore_10 : decode cX16_restore 10 = .ok (.istore_n 1, 1) := by decide +kernel
theorem dX16_restore_11 : decode cX16_restore 11 = .ok (.iconst 0, 1) := by decide +kernel
theorem dX16_restore_12 : decode cX16_restore 12 = .ok (.istore_n 2, 1) := by decide +kernel
theorem dX16_restore_13 : decode cX16_restore 13 = .ok (.iload_n 2, 1) := by decide +kernel
theorem dX16_restore_14 : decode cX16_restore 14 = .ok (.aload_n 0, 1) := by decide +kernel
theorem dX16_restore_15 : decode cX16_restore 15 = .ok (.getfield 399, 3) := by decide +kernel
theorem dX16_restore_18 : decode cX16_restore 18 = .ok (.if_icmp .ge 158, 3) := by decide +kernel
theorem dX16_restore_21 : decode cX16_restore 21 = .ok (.aload_n 0, 1) := by decide +kernel
theorem dX16_restore_22 : decode cX16_restore 22 = .ok (.getfield 380, 3) := by decide +kernel
theorem dX16_restore_25 : decode cX16_restore 25 = .ok (.iload_n 2, 1) := by decide +kernel
theorem dX16_restore_26 : decode cX16_restore 26 = .ok (.iaload, 1) := by decide +kernel
theorem dX16_restore_27 : decode cX16_restore 27 = .ok (.istore_n 3, 1) := by decide +kernel
theorem dX16_restore_28 : decode cX16_restore 28 = .ok (.aload_n 0, 1) := by decide +kernel
theorem dX16_restore_29 : decode cX16_restore 29 = .ok (.iload_n 3, 1) := by decide +kernel
theorem dX16_restore_30 : decode cX16_restore 30 = .ok (.invokevirtual 361, 3) := by decide +kernel
theorem dX16_restore_33 : decode cX16_restore 33 = .ok (.istore 4, 2) := by decide +kernel
theorem dX16_restore_35 : decode cX16_restore 35 = .ok (.aload_n 0, 1) := by decide +kernel
theorem dX16_restore_36 : decode cX16_restore 36 = .ok (.getfield 745, 3) := by decide +kernel
theorem dX16_restore_39 : decode cX16_restore 39 = .ok (.ifCond .le 84, 3) := by decide +kernel
theorem dX16_restore_42 : decode cX16_restore 42 = .ok (.iload 4, 2) := by decide +kernel
theorem dX16_restore_44 : decode cX16_restore 44 = .ok (.ifCond .ne 11, 3) := by decide +kernel
theorem dX16_restore_47 : decode cX16_restore 47 = .ok (.iload_n 1, 1) := by decide +kernel
theorem dX16_restore_48 : decode cX16_restore 48 = .ok (.aload_n 0, 1) := by decide +kernel
theorem dX16_restore_49 : decode cX16_restore 49 = .ok (.getfield 365, 3) := by decide +kernel
theorem dX16_restore_52 : decode cX16_restore 52 = .ok (.if_icmp .ne 27, 3) := by decide +kernel
theorem dX16_restore_55 : decode cX16_restore 55 = .ok (.aload_n 0, 1) := by decide +kernel
theorem dX16_restore_56 : decode cX16_restore 56 = .ok (.getfield 422, 3) := by decide +kernel
theorem dX16_restore_59 : decode cX16_restore 59 = .ok (.iload_n 2, 1) := by decide +kernel
theorem dX16_restore_60 : decode cX16_restore 60 = .ok (.aload_n 0, 1) := by decide +kernel
theorem dX16_restore_61 : decode cX16_restore 61 = .ok (.getfield 694, 3) := by decide +kernel
theorem dX16_restore_64 : decode cX16_restore 64 = .ok (.iconst 4, 1) := by decide +kernel
theorem dX16_restore_65 : decode cX16_restore 65 = .ok (.iload_n 3, 1) := by decide +kernel
theorem dX16_restore_66 : decode cX16_restore 66 = .ok (.imul, 1) := by decide +kernel
theorem dX16_restore_67 : decode cX16_restore 67 = .ok (.aload_n 0, 1) := by decide +kernel
theorem dX16_restore_68 : decode cX16_restore 68 = .ok (.getfield 396, 3) := by decide +kernel
theorem dX16_restore_71 : decode cX16_restore 71 = .ok (.iload_n 2, 1) := by decide +kernel
theorem dX16_restore_72 : decode cX16_restore 72 = .ok (.iaload, 1) := by decide +kernel
theorem dX16_restore_73 : decode cX16_restore 73 = .ok (.iadd, 1) := by decide +kernel
theorem dX16_restore_74 : decode cX16_restore 74 = .ok (.iaload, 1) := by decide +kernel
theorem dX16_restore_75 : decode cX16_restore 75 = .ok (.iastore, 1) := by decide +kernel
theorem dX16_restore_76 : decode cX16_restore 76 = .ok (.goto 47, 3) := by decide +kernel
theorem dX16_restore_79 : decode cX16_restore 79 = .ok (.iconst 0, 1) := by decide +kernel
theorem dX16_restore_80 : decode cX16_restore 80 = .ok (.istore 5, 2) := by decide +kernel
theorem dX16_restore_82 : decode cX16_restore 82 = .ok (.iload 5, 2) := by decide +kernel
theorem dX16_restore_84 : decode cX16_restore 84 = .ok (.iload_n 1, 1) := by decide +kernel
theorem dX16_restore_85 : decode cX16_restore 85 = .ok (.if_icmp .ge 38, 3) := by decide +kernel
theorem dX16_restore_88 : decode cX16_restore 88 = .ok (.aload_n 0, 1) := by decide +kernel
theorem dX16_restore_89 : decode cX16_restore 89 = .ok (.getfield 396, 3) := by decide +kernel
theorem dX16_restore_92 : decode cX16_restore 92 = .ok (.iload_n 2, 1) := by decide +kernel
theorem dX16_restore_93 : decode cX16_restore 93 = .ok (.iaload, 1) := by decide +kernel
theorem dX16_restore_94 : decode cX16_restore 94 = .ok (.ifCond .ne 29, 3) := by decide +kernel
theorem dX16_restore_97 : decode cX16_restore 97 = .ok (.aload_n 0, 1) := by decide +kernel
theorem dX16_restore_98 : decode cX16_restore 98 = .ok (.getfield 422, 3) := by decide +kernel
theorem dX16_restore_101 : decode cX16_restore 101 = .ok (.iload_n 2, 1) := by decide +kernel
theorem dX16_restore_102 : decode cX16_restore 102 = .ok (.dup2, 1) := by decide +kernel
theorem dX16_restore_103 : decode cX16_restore 103 = .ok (.iaload, 1) := by decide +kernel
theorem dX16_restore_104 : decode cX16_restore 104 = .ok (.aload_n 0, 1) := by decide +kernel
theorem dX16_restore_105 : decode cX16_restore 105 = .ok (.getfield 694, 3) := by decide +kernel
theorem dX16_restore_108 : decode cX16_restore 108 = .ok (.iconst 4, 1) := by decide +kernel
theorem dX16_restore_109 : decode cX16_restore 109 = .ok (.iload_n 3, 1) := by decide +kernel
theorem dX16_restore_110 : decode cX16_restore 110 = .ok (.imul, 1) := by decide +kernel
theorem dX16_restore_111 : decode cX16_restore 111 = .ok (.iload 5, 2) := by decide +kernel
theorem dX16_restore_113 : decode cX16_restore 113 = .ok (.iadd, 1) := by decide +kernel
theorem dX16_restore_114 : decode cX16_restore 114 = .ok (.iaload, 1) := by decide +kernel
theorem dX16_restore_115 : decode cX16_restore 115 = .ok (.iadd, 1) := by decide +kernel
theorem dX16_restore_116 : decode cX16_restore 116 = .ok (.iastore, 1) := by decide +kernel
theorem dX16_restore_117 : decode cX16_restore 117 = .ok (.iinc 5 1, 3) := by decide +kernel
theorem dX16_restore_120 : decode cX16_restore 120 = .ok (.goto (-38), 3) := by decide +kernel
theorem dX16_restore_123 : decode cX16_restore 123 = .ok (.aload_n 0, 1) := by decide +kernel
theorem dX16_restore_124 : decode cX16_restore 124 = .ok (.getfield 356, 3) := by decide +kernel
theorem dX16_restore_127 : decode cX16_restore 127 = .ok (.getfield 246, 3) := by decide +kernel
theorem dX16_restore_130 : decode cX16_restore 130 = .ok (.iload_n 3, 1) := by decide +kernel
theorem dX16_restore_131 : decode cX16_restore 131 = .ok (.iaload, 1) := by decide +kernel
theorem dX16_restore_132 : decode cX16_restore 132 = .ok (.ifCond .ne 38, 3) := by decide +kernel
theorem dX16_restore_135 : decode cX16_restore 135 = .ok (.aload_n 0, 1) := by decide +kernel
theorem dX16_restore_136 : decode cX16_restore 136 = .ok (.getfield 745, 3) := by decide +kernel
theorem dX16_restore_139 : decode cX16_restore 139 = .ok (.ifCond .le 31, 3) := by decide +kernel
theorem dX16_restore_142 : decode cX16_restore 142 = .ok (.aload_n 0, 1) := by decide +kernel
theorem dX16_restore_143 : decode cX16_restore 143 = .ok (.getfield 425, 3) := by decide +kernel
theorem dX16_restore_146 : decode cX16_restore 146 = .ok (.iload_n 2, 1) := by decide +kernel
theorem dX16_restore_147 : decode cX16_restore 147 = .ok (.aload_n 0, 1) := by decide +kernel
theorem dX16_restore_148 : decode cX16_restore 148 = .ok (.getfield 697, 3) := by decide +kernel
theorem dX16_restore_151 : decode cX16_restore 151 = .ok (.iconst 4, 1) := by decide +kernel
theorem dX16_restore_152 : decode cX16_restore 152 = .ok (.iload_n 3, 1) := by decide +kernel
theorem dX16_restore_153 : decode cX16_restore 153 = .ok (.imul, 1) := by decide +kernel
theorem dX16_restore_154 : decode cX16_restore 154 = .ok (.iaload, 1) := by decide +kernel
theorem dX16_restore_155 : decode cX16_restore 155 = .ok (.iastore, 1) := by decide +kernel
theorem dX16_restore_156 : decode cX16_restore 156 = .ok (.aload_n 0, 1) := by decide +kernel
theorem dX16_restore_157 : decode cX16_restore 157 = .ok (.getfield 414, 3) := by decide +kernel
theorem dX16_restore_160 : decode cX16_restore 160 = .ok (.iload_n 2, 1) := by decide +kernel
theorem dX16_restore_161 : decode cX16_restore 161 = .ok (.aload_n 0, 1) := by decide +kernel
theorem dX16_restore_162 : decode cX16_restore 162 = .ok (.getfield 700, 3) := by decide +kernel
theorem dX16_restore_165 : decode cX16_restore 165 = .ok (.iconst 4, 1) := by decide +kernel
theorem dX16_restore_166 : decode cX16_restore 166 = .ok (.iload_n 3, 1) := by decide +kernel
theorem dX16_restore_167 : decode cX16_restore 167 = .ok (.imul, 1) := by decide +kernel
theorem dX16_restore_168 : decode cX16_restore 168 = .ok (.laload, 1) := by decide +kernel
theorem dX16_restore_169 : decode cX16_restore 169 = .ok (.lastore, 1) := by decide +kernel
theorem dX16_restore_170 : decode cX16_restore 170 = .ok (.iinc 2 1, 3) := by decide +kernel
theorem dX16_restore_173 : decode cX16_restore 173 = .ok (.goto (-160), 3) := by decide +kernel
theorem dX16_restore_176 : decode cX16_restore 176 = .ok (.iconst 0, 1) := by decide +kernel
theorem dX16_restore_177 : decode cX16_restore 177 = .ok (.istore_n 2, 1) := by decide +kernel
theorem dX16_restore_178 : decode cX16_restore 178 = .ok (.iload_n 2, 1) := by decide +kernel
theorem dX16_restore_179 : decode cX16_restore 179 = .ok (.aload_n 0, 1) := by decide +kernel
theorem dX16_restore_180 : decode cX16_restore 180 = .ok (.getfield 356, 3) := by decide +kernel
theorem dX16_restore_183 : decode cX16_restore 183 = .ok (.getfield 316, 3) := by decide +kernel
theorem dX16_restore_186 : decode cX16_restore 186 = .ok (.if_icmp .ge 169, 3) := by decide +kernel
theorem dX16_restore_189 : decode cX16_restore 189 = .ok (.aload_n 0, 1) := by decide +kernel
theorem dX16_restore_190 : decode cX16_restore 190 = .ok (.getfield 745, 3) := by decide +kernel
theorem dX16_restore_193 : decode cX16_restore 193 = .ok (.ifCond .le 162, 3) := by decide +kernel
theorem dX16_restore_196 : decode cX16_restore 196 = .ok (.iconst 0, 1) := by decide +kernel
theorem dX16_restore_197 : decode cX16_restore 197 = .ok (.istore_n 3, 1) := by decide +kernel
theorem dX16_restore_198 : decode cX16_restore 198 = .ok (.iload_n 3, 1) := by decide +kernel
theorem dX16_restore_199 : decode cX16_restore 199 = .ok (.iconst 4, 1) := by decide +kernel
theorem dX16_restore_200 : decode cX16_restore 200 = .ok (.if_icmp .ge 149, 3) := by decide +kernel
theorem dX16_restore_203 : decode cX16_restore 203 = .ok (.iconst 0, 1) := by decide +kernel
theorem dX16_restore_204 : decode cX16_restore 204 = .ok (.istore 4, 2) := by decide +kernel
theorem dX16_restore_206 : decode cX16_restore 206 = .ok (.iload 4, 2) := by decide +kernel
theorem dX16_restore_208 : decode cX16_restore 208 = .ok (.aload_n 0, 1) := by decide +kernel
theorem dX16_restore_209 : decode cX16_restore 209 = .ok (.getfield 703, 3) := by decide +kernel
theorem dX16_restore_212 : decode cX16_restore 212 = .ok (.iconst 0, 1) := by decide +kernel
theorem dX16_restore_213 : decode cX16_restore 213 = .ok (.iaload, 1) := by decide +kernel
theorem dX16_restore_214 : decode cX16_restore 214 = .ok (.if_icmp .ge 129, 3) := by decide +kernel
theorem dX16_restore_217 : decode cX16_restore 217 = .ok (.aload_n 0, 1) := by decide +kernel
theorem dX16_restore_218 : decode cX16_restore 218 = .ok (.getfield 709, 3) := by decide +kernel
theorem dX16_restore_221 : decode cX16_restore 221 = .ok (.iload 4, 2) := by decide +kernel
theorem dX16_restore_223 : decode cX16_restore 223 = .ok (.iaload, 1) := by decide +kernel
theorem dX16_restore_224 : decode cX16_restore 224 = .ok (.iload_n 2, 1) := by decide +kernel
theorem dX16_restore_225 : decode cX16_restore 225 = .ok (.if_icmp .ne 112, 3) := by decide +kernel
theorem dX16_restore_228 : decode cX16_restore 228 = .ok (.aload_n 0, 1) := by decide +kernel
theorem dX16_restore_229 : decode cX16_restore 229 = .ok (.getfield 712, 3) := by decide +kernel
theorem dX16_restore_232 : decode cX16_restore 232 = .ok (.iload 4, 2) := by decide +kernel
theorem dX16_restore_234 : decode cX16_restore 234 = .ok (.iaload, 1) := by decide +kernel
theorem dX16_restore_235 : decode cX16_restore 235 = .ok (.iload_n 3, 1) := by decide +kernel
theorem dX16_restore_236 : decode cX16_restore 236 = .ok (.if_icmp .ne 101, 3) := by decide +kernel
theorem dX16_restore_239 : decode cX16_restore 239 = .ok (.aload_n 0, 1) := by decide +kernel
theorem dX16_restore_240 : decode cX16_restore 240 = .ok (.getfield 389, 3) := by decide +kernel
theorem dX16_restore_243 : decode cX16_restore 243 = .ok (.iload_n 2, 1) := by decide +kernel
theorem dX16_restore_244 : decode cX16_restore 244 = .ok (.iaload, 1) := by decide +kernel
theorem dX16_restore_245 : decode cX16_restore 245 = .ok (.aload_n 0, 1) := by decide +kernel
theorem dX16_restore_246 : decode cX16_restore 246 = .ok (.iload_n 2, 1) := by decide +kernel
theorem dX16_restore_247 : decode cX16_restore 247 = .ok (.invokevirtual 361, 3) := by decide +kernel
theorem dX16_restore_250 : decode cX16_restore 250 = .ok (.ifCond .eq 7, 3) := by decide +kernel
theorem dX16_restore_253 : decode cX16_restore 253 = .ok (.iconst 0, 1) := by decide +kernel
theorem dX16_restore_254 : decode cX16_restore 254 = .ok (.goto 14, 3) := by decide +kernel
theorem dX16_restore_257 : decode cX16_restore 257 = .ok (.aload_n 0, 1) := by decide +kernel
theorem dX16_restore_258 : decode cX16_restore 258 = .ok (.aload_n 0, 1) := by decide +kernel
theorem dX16_restore_259 : decode cX16_restore 259 = .ok (.getfield 715, 3) := by decide +kernel
theorem dX16_restore_262 : decode cX16_restore 262 = .ok (.iload 4, 2) := by decide +kernel
theorem dX16_restore_264 : decode cX16_restore 264 = .ok (.laload, 1) := by decide +kernel
theorem dX16_restore_265 : decode cX16_restore 265 = .ok (.invokevirtual 486, 3) := by decide +kernel
theorem dX16_restore_268 : decode cX16_restore 268 = .ok (.iadd, 1) := by decide +kernel
theorem dX16_restore_269 : decode cX16_restore 269 = .ok (.istore 5, 2) := by decide +kernel
theorem dX16_restore_271 : decode cX16_restore 271 = .ok (.aload_n 0, 1) := by decide +kernel
theorem dX16_restore_272 : decode cX16_restore 272 = .ok (.iload 5, 2) := by decide +kernel
theorem dX16_restore_274 : decode cX16_restore 274 = .ok (.aload_n 0, 1) := by decide +kernel
theorem dX16_restore_275 : decode cX16_restore 275 = .ok (.getfield 706, 3) := by decide +kernel
theorem dX16_restore_278 : decode cX16_restore 278 = .ok (.iload 4, 2) := by decide +kernel
theorem dX16_restore_280 : decode cX16_restore 280 = .ok (.iaload, 1) := by decide +kernel
theorem dX16_restore_281 : decode cX16_restore 281 = .ok (.aload_n 0, 1) := by decide +kernel
theorem dX16_restore_282 : decode cX16_restore 282 = .ok (.getfield 715, 3) := by decide +kernel
theorem dX16_restore_285 : decode cX16_restore 285 = .ok (.iload 4, 2) := by decide +kernel
theorem dX16_restore_287 : decode cX16_restore 287 = .ok (.laload, 1) := by decide +kernel
theorem dX16_restore_288 : decode cX16_restore 288 = .ok (.aload_n 0, 1) := by decide +kernel
theorem dX16_restore_289 : decode cX16_restore 289 = .ok (.getfield 718, 3) := by decide +kernel
theorem dX16_restore_292 : decode cX16_restore 292 = .ok (.iload 4, 2) := by decide +kernel
theorem dX16_restore_294 : decode cX16_restore 294 = .ok (.laload, 1) := by decide +kernel
theorem dX16_restore_295 : decode cX16_restore 295 = .ok (.aload_n 0, 1) := by decide +kernel
theorem dX16_restore_296 : decode cX16_restore 296 = .ok (.getfield 721, 3) := by decide +kernel
theorem dX16_restore_299 : decode cX16_restore 299 = .ok (.iload 4, 2) := by decide +kernel
theorem dX16_restore_301 : decode cX16_restore 301 = .ok (.laload, 1) := by decide +kernel
theorem dX16_restore_302 : decode cX16_restore 302 = .ok (.aload_n 0, 1) := by decide +kernel
theorem dX16_restore_303 : decode cX16_restore 303 = .ok (.getfield 727, 3) := by decide +kernel
theorem dX16_restore_306 : decode cX16_restore 306 = .ok (.bipush 8, 2) := by decide +kernel
theorem dX16_restore_308 : decode cX16_restore 308 = .ok (.iload 4, 2) := by decide +kernel
theorem dX16_restore_310 : decode cX16_restore 310 = .ok (.imul, 1) := by decide +kernel
theorem dX16_restore_311 : decode cX16_restore 311 = .ok (.aload_n 0, 1) := by decide +kernel
theorem dX16_restore_312 : decode cX16_restore 312 = .ok (.getfield 724, 3) := by decide +kernel
theorem dX16_restore_315 : decode cX16_restore 315 = .ok (.iload 4, 2) := by decide +kernel
theorem dX16_restore_317 : decode cX16_restore 317 = .ok (.iaload, 1) := by decide +kernel
theorem dX16_restore_318 : decode cX16_restore 318 = .ok (.invokevirtual 567, 3) := by decide +kernel
theorem dX16_restore_321 : decode cX16_restore 321 = .ok (.istore 6, 2) := by decide +kernel
theorem dX16_restore_323 : decode cX16_restore 323 = .ok (.aload_n 0, 1) := by decide +kernel
theorem dX16_restore_324 : decode cX16_restore 324 = .ok (.getfield 531, 3) := by decide +kernel
theorem dX16_restore_327 : decode cX16_restore 327 = .ok (.iload 6, 2) := by decide +kernel
theorem dX16_restore_329 : decode cX16_restore 329 = .ok (.aload_n 0, 1) := by decide +kernel
theorem dX16_restore_330 : decode cX16_restore 330 = .ok (.getfield 724, 3) := by decide +kernel
theorem dX16_restore_333 : decode cX16_restore 333 = .ok (.iload 4, 2) := by decide +kernel
theorem dX16_restore_335 : decode cX16_restore 335 = .ok (.iaload, 1) := by decide +kernel
theorem dX16_restore_336 : decode cX16_restore 336 = .ok (.iastore, 1) := by decide +kernel
theorem dX16_restore_337 : decode cX16_restore 337 = .ok (.iinc 4 1, 3) := by decide +kernel
theorem dX16_restore_340 : decode cX16_restore 340 = .ok (.goto (-134), 3) := by decide +kernel
theorem dX16_restore_343 : decode cX16_restore 343 = .ok (.iinc 3 1, 3) := by decide +kernel
theorem dX16_restore_346 : decode cX16_restore 346 = .ok (.goto (-148), 3) := by decide +kernel
theorem dX16_restore_349 : decode cX16_restore 349 = .ok (.iinc 2 1, 3) := by decide +kernel
theorem dX16_restore_352 : decode cX16_restore 352 = .ok (.goto (-174), 3) := by decide +kernel
theorem dX16_restore_355 : decode cX16_restore 355 = .ok (.iconst 0, 1) := by decide +kernel
theorem dX16_restore_356 : decode cX16_restore 356 = .ok (.istore_n 2, 1) := by decide +kernel
theorem dX16_restore_357 : decode cX16_restore 357 = .ok (.iload_n 2, 1) := by decide +kernel
theorem dX16_restore_358 : decode cX16_restore 358 = .ok (.aload_n 0, 1) := by decide +kernel
theorem dX16_restore_359 : decode cX16_restore 359 = .ok (.getfield 399, 3) := by decide +kernel
theorem dX16_restore_362 : decode cX16_restore 362 = .ok (.if_icmp .ge 51, 3) := by decide +kernel
theorem dX16_restore_365 : decode cX16_restore 365 = .ok (.aload_n 0, 1) := by decide +kernel
theorem dX16_restore_366 : decode cX16_restore 366 = .ok (.getfield 356, 3) := by decide +kernel
theorem dX16_restore_369 : decode cX16_restore 369 = .ok (.getfield 246, 3) := by decide +kernel
theorem dX16_restore_372 : decode cX16_restore 372 = .ok (.aload_n 0, 1) := by decide +kernel
theorem dX16_restore_373 : decode cX16_restore 373 = .ok (.getfield 380, 3) := by decide +kernel
theorem dX16_restore_376 : decode cX16_restore 376 = .ok (.iload_n 2, 1) := by decide +kernel
theorem dX16_restore_377 : decode cX16_restore 377 = .ok (.iaload, 1) := by decide +kernel
theorem dX16_restore_378 : decode cX16_restore 378 = .ok (.iaload, 1) := by decide +kernel
theorem dX16_restore_379 : decode cX16_restore 379 = .ok (.ifCond .ne 28, 3) := by decide +kernel
theorem dX16_restore_382 : decode cX16_restore 382 = .ok (.aload_n 0, 1) := by decide +kernel
theorem dX16_restore_383 : decode cX16_restore 383 = .ok (.getfield 414, 3) := by decide +kernel
theorem dX16_restore_386 : decode cX16_restore 386 = .ok (.iload_n 2, 1) := by decide +kernel
theorem dX16_restore_387 : decode cX16_restore 387 = .ok (.laload, 1) := by decide +kernel
theorem dX16_restore_388 : decode cX16_restore 388 = .ok (.ldc2_w 417, 3) := by decide +kernel
theorem dX16_restore_391 : decode cX16_restore 391 = .ok (.lcmp, 1) := by decide +kernel
theorem dX16_restore_392 : decode cX16_restore 392 = .ok (.ifCond .eq 15, 3) := by decide +kernel
theorem dX16_restore_395 : decode cX16_restore 395 = .ok (.aload_n 0, 1) := by decide +kernel
theorem dX16_restore_396 : decode cX16_restore 396 = .ok (.iload_n 2, 1) := by decide +kernel
theorem dX16_restore_397 : decode cX16_restore 397 = .ok (.iconst 1, 1) := by decide +kernel
theorem dX16_restore_398 : decode cX16_restore 398 = .ok (.aload_n 0, 1) := by decide +kernel
theorem dX16_restore_399 : decode cX16_restore 399 = .ok (.getfield 414, 3) := by decide +kernel
theorem dX16_restore_402 : decode cX16_restore 402 = .ok (.iload_n 2, 1) := by decide +kernel
theorem dX16_restore_403 : decode cX16_restore 403 = .ok (.laload, 1) := by decide +kernel
theorem dX16_restore_404 : decode cX16_restore 404 = .ok (.invokevirtual 760, 3) := by decide +kernel
theorem dX16_restore_407 : decode cX16_restore 407 = .ok (.iinc 2 1, 3) := by decide +kernel
theorem dX16_restore_410 : decode cX16_restore 410 = .ok (.goto (-53), 3) := by decide +kernel
theorem dX16_restore_413 : decode cX16_restore 413 = .ok (.return_, 1) := by decide +kernel
set_option maxRecDepth 20000 in
theorem a_X16_restore_413 {Q : Sg → Unit → Prop} {X : Sg → String → Prop} (K : MC R p s m args c cX16_restore 7 RX16 D cA tys A n0 s0 2 55 []) (hQ : HQV p l e R s m args below meth c cX16_restore D cA A n0 s0 QM dm ra jx rm Q) (hX : HX p l e R s m args below meth c 7 D cA A n0 s0 QM dm ra jx rm X) : ∀ (σ : Sg), w_X16_restore_413 ra jx rm Q X σ → RG σ → Shp dm ra jx rm σ → JJ p l e R s m args below meth c 7 D cA A n0 s0 QM σ 413 [(0, .ref rm)] [] := by
  intro σ h hGσ hS H locs ls hH hl hc
  have B := K.1
  unfold w_X16_restore_413 at h
  exact hQ _ _ _ _ _ dX16_restore_413 hH hc h hGσ hS
set_option maxRecDepth 20000 in
theorem a_X16_restore_407 {Q : Sg → Unit → Prop} {X : Sg → String → Prop} (K : MC R p s m args c cX16_restore 7 RX16 D cA tys A n0 s0 2 55 []) (hQ : HQV p l e R s m args below meth c cX16_restore D cA A n0 s0 QM dm ra jx rm Q) (hX : HX p l e R s m args below meth c 7 D cA A n0 s0 QM dm ra jx rm X) {K357 : Sg → Int → Prop} (hK357 : ∀ (σ : Sg) (v2 : Int) (g2 : rng v2), K357 σ v2 → RG σ → Shp dm ra jx rm σ → JJ p l e R s m args below meth c 7 D cA A n0 s0 QM σ 357 [(0, .ref rm), (2, .int (i32 v2))] []) : ∀ (σ : Sg) (v2 : Int) (g2 : rng v2), w_X16_restore_407 ra jx rm K357 Q X σ v2 → RG σ → Shp dm ra jx rm σ → JJ p l e R s m args below meth c 7 D cA A n0 s0 QM σ 407 [(0, .ref rm), (2, .int (i32 v2))] [] := by
  intro σ v2 g2 h hGσ hS H locs ls hH hl hc
  have B := K.1
  unfold w_X16_restore_407 at h
  obtain ⟨q1, h⟩ := h
  refine lv_iinc (k := 1) (v := i32 (v2 + 1)) (lv' := [(2, .int (i32 (v2 + 1))), (0, .ref rm)]) B.1 B.2.1 dX16_restore_407 hl rfl (i32_add _ _) (by decide) rfl (fun ls hl => ?_)
  refine lv_goto (tgt := 357) B.1 B.2.1 dX16_restore_410 (by decide) ?_
  exact hK357 _ _ q1 h hGσ hS _ _ _ hH (lv_sub (l' := [(0, .ref rm), (2, .int (i32 (v2 + 1)))]) hl [1, 0] rfl) hc
set_option maxRecDepth 20000 in
theorem a_X16_restore_395 {Q : Sg → Unit → Prop} {X : Sg → String → Prop} (K : MC R p s m args c cX16_restore 7 RX16 D cA tys A n0 s0 2 55 []) (hQ : HQV p l e R s m args below meth c cX16_restore D cA A n0 s0 QM dm ra jx rm Q) (hX : HX p l e R s m args below meth c 7 D cA A n0 s0 QM dm ra jx rm X) {K357 : Sg → Int → Prop} (hK357 : ∀ (σ : Sg) (v2 : Int) (g2 : rng v2), K357 σ v2 → RG σ → Shp dm ra jx rm σ → JJ p l e R s m args below meth c 7 D cA A n0 s0 QM σ 357 [(0, .ref rm), (2, .int (i32 v2))] []) : ∀ (σ : Sg) (v2 : Int) (g2 : rng v2), w_X16_restore_395 ra jx rm K357 Q X σ v2 → RG σ → Shp dm ra jx rm σ → JJ p l e R s m args below meth c 7 D cA A n0 s0 QM σ 395 [(0, .ref rm), (2, .int (i32 v2))] [] := by
  intro σ v2 g2 h hGσ hS H locs ls hH hl hc
  have B := K.1
  unfold w_X16_restore_395 at h
  refine lv_aload_n B.1 B.2.1 dX16_restore_395 rfl (lv_at hl 0 rfl) ?_
  refine lv_iload_n B.1 B.2.1 dX16_restore_396 rfl (lv_at hl 1 rfl) ?_
  refine lv_iconst (v := i32 1) B.1 B.2.1 dX16_restore_397 (by decide) ?_
  refine lv_aload_n B.1 B.2.1 dX16_restore_398 rfl (lv_at hl 0 rfl) ?_
  refine r_arr B hH hS 40 (kd := 101) (n := 64) (by decide) (by decide) wf_X16_414 rfl rfl dX16_restore_399 ?_
  refine lv_iload_n B.1 B.2.1 dX16_restore_402 rfl (lv_at hl 1 rfl) ?_
  obtain ⟨q1, h⟩ := h
  refine x_lald B K.2.1 hH (hS.ar (k := 40) (kd := 101) (n := 64) (by decide)) (by decide) q1 dX16_restore_403 ?_
  refine c_V B hH hl hc K.2.2.1 (C := RX16) (T := TX16) (N := 123) (ci := 16) (As := [.int (i32 v2), .int (i32 1), .long (gJ σ (ra 40) v2.toNat)]) (ok_X16_spread K.2.1 σ v2 1 (gJ σ (ra 40) v2.toNat) g2 (by unfold rng; omega) hGσ hS h) wc_X16_760 3 hd_X16_spread ⟨Nat.le_trans (Nat.le_of_ble_eq_true rfl) K.2.2.2.1, Nat.le_trans (Nat.le_of_ble_eq_true rfl) K.2.2.2.2.1⟩ hS.1.1 hS.1.2 (by decide) rfl rfl (rest := []) rfl (Nat.le_of_ble_eq_true rfl) dX16_restore_404 (fun σ37 w hq => ?_) (fun σ9 E9 hx9 => hX σ9 E9 _ _ _ (tb_out K.2.2.2.2.2 rfl) hx9.1 hx9.2.1 hx9.2.2)
  obtain ⟨rfl, h, hGσ37, hS⟩ := hq
  intro H locs ls hH hl hc
  refine W.eq (g2 := F0 m 407 ls []) (rfl) ?_
  try dsimp only at h
  exact a_X16_restore_407 K hQ hX hK357 _ _ g2 h hGσ37 hS _ _ _ hH (lv_sub (l' := [(0, .ref rm), (2, .int (i32 v2))]) hl [0, 1] rfl) hc
set_option maxRecDepth 20000 in
theorem a_X16_restore_382 {Q : Sg → Unit → Prop} {X : Sg → String → Prop} (K : MC R p s m args c cX16_restore 7 RX16 D cA tys A n0 s0 2 55 []) (hQ : HQV p l e R s m args below meth c cX16_restore D cA A n0 s0 QM dm ra jx rm Q) (hX : HX p l e R s m args below meth c 7 D cA A n0 s0 QM dm ra jx rm X) {K357 : Sg → Int → Prop} (hK357 : ∀ (σ : Sg) (v2 : Int) (g2 : rng v2), K357 σ v2 → RG σ → Shp dm ra jx rm σ → JJ p l e R s m args below meth c 7 D cA A n0 s0 QM σ 357 [(0, .ref rm), (2, .int (i32 v2))] []) : ∀ (σ : Sg) (v2 : Int) (g2 : rng v2), w_X16_restore_382 ra jx rm K357 Q X σ v2 → RG σ → Shp dm ra jx rm σ → JJ p l e R s m args below meth c 7 D cA A n0 s0 QM σ 382 [(0, .ref rm), (2, .int (i32 v2))] [] := by
  intro σ v2 g2 h hGσ hS H locs ls hH hl hc
  have B := K.1
  unfold w_X16_restore_382 at h
  refine lv_aload_n B.1 B.2.1 dX16_restore_382 rfl (lv_at hl 0 rfl) ?_
  refine r_arr B hH hS 40 (kd := 101) (n := 64) (by decide) (by decide) wf_X16_414 rfl rfl dX16_restore_383 ?_
  refine lv_iload_n B.1 B.2.1 dX16_restore_386 rfl (lv_at hl 1 rfl) ?_
  obtain ⟨q1, h⟩ := h
  refine x_lald B K.2.1 hH (hS.ar (k := 40) (kd := 101) (n := 64) (by decide)) (by decide) q1 dX16_restore_387 ?_
  refine lv_ldc2 B.1 B.2.1 B.2.2.1 (B.2.2.2.1 _ (wk_X16_417)) dX16_restore_388 ?_
  refine W.lcmp B.1 B.2.1 dX16_restore_391 ?_
  refine lv_if_eq (tgt := 407) B.1 B.2.1 dX16_restore_392 (by decide) (fun h9 => ?_) (fun h9 => ?_)
  · rw [if_pos ((lg_cmp_eq _ _).mp h9)] at h
    exact a_X16_restore_407 K hQ hX hK357 _ _ g2 h hGσ hS _ _ _ hH (lv_sub (l' := [(0, .ref rm), (2, .int (i32 v2))]) hl [0, 1] rfl) hc
  · rw [if_neg (fun q => h9 ((lg_cmp_eq _ _).mpr q))] at h
    exact a_X16_restore_395 K hQ hX hK357 _ _ g2 h hGσ hS _ _ _ hH (lv_sub (l' := [(0, .ref rm), (2, .int (i32 v2))]) hl [0, 1] rfl) hc
set_option maxRecDepth 20000 in
theorem a_X16_restore_365 {Q : Sg → Unit → Prop} {X : Sg → String → Prop} (K : MC R p s m args c cX16_restore 7 RX16 D cA tys A n0 s0 2 55 []) (hQ : HQV p l e R s m args below meth c cX16_restore D cA A n0 s0 QM dm ra jx rm Q) (hX : HX p l e R s m args below meth c 7 D cA A n0 s0 QM dm ra jx rm X) {K357 : Sg → Int → Prop} (hK357 : ∀ (σ : Sg) (v2 : Int) (g2 : rng v2), K357 σ v2 → RG σ → Shp dm ra jx rm σ → JJ p l e R s m args below meth c 7 D cA A n0 s0 QM σ 357 [(0, .ref rm), (2, .int (i32 v2))] []) : ∀ (σ : Sg) (v2 : Int) (g2 : rng v2), w_X16_restore_365 ra jx rm K357 Q X σ v2 → RG σ → Shp dm ra jx rm σ → JJ p l e R s m args below meth c 7 D cA A n0 s0 QM σ 365 [(0, .ref rm), (2, .int (i32 v2))] [] := by
  intro σ v2 g2 h hGσ hS H locs ls hH hl hc
  have B := K.1
  unfold w_X16_restore_365 at h
  refine lv_aload_n B.1 B.2.1 dX16_restore_365 rfl (lv_at hl 0 rfl) ?_
  refine r_getp B hH hS 17 (by decide) wf_X16_356 rfl rfl dX16_restore_366 ?_
  obtain ⟨a38, ea38, ja38, h⟩ := h
  refine W.eq (g2 := F0 m 369 ls [.ref a38]) (by rw [ea38]; rfl) ?_
  refine n_arr B hH hS ja38 2 (kd := 100) (n := 16) (by decide) (by decide) (List.mem_of_getElem? (i := 2) rfl) rfl dX16_restore_369 ?_
  refine lv_aload_n B.1 B.2.1 dX16_restore_372 rfl (lv_at hl 0 rfl) ?_
  refine r_arr B hH hS 38 (kd := 100) (n := 64) (by decide) (by decide) wf_X16_380 rfl rfl dX16_restore_373 ?_
  refine lv_iload_n B.1 B.2.1 dX16_restore_376 rfl (lv_at hl 1 rfl) ?_
  obtain ⟨q2, h⟩ := h
  refine x_iald B K.2.1 hH (hS.ar (k := 38) (kd := 100) (n := 64) (by decide)) (by decide) q2 dX16_restore_377 ?_
  obtain ⟨q3, h⟩ := h
  refine x_iald B K.2.1 hH (hS.ja ja38 (k := 2) (kd := 100) (n := 16) (by decide)) (by decide) q3 dX16_restore_378 ?_
  refine lv_if_ne (tgt := 407) B.1 B.2.1 dX16_restore_379 (by decide) (fun h9 => ?_) (fun h9 => ?_)
  · rw [if_pos (fun q => h9 ((z_eq (hGσ _ _)).mpr q))] at h
    exact a_X16_restore_407 K hQ hX hK357 _ _ g2 h hGσ hS _ _ _ hH (lv_sub (l' := [(0, .ref rm), (2, .int (i32 v2))]) hl [0, 1] rfl) hc
  · rw [if_neg (fun q => q ((z_eq (hGσ _ _)).mp h9))] at h
    exact a_X16_restore_382 K hQ hX hK357 _ _ g2 h hGσ hS _ _ _ hH (lv_sub (l' := [(0, .ref rm), (2, .int (i32 v2))]) hl [0, 1] rfl) hc
set_option maxRecDepth 20000 in
theorem a_X16_restore_357 {Q : Sg → Unit → Prop} {X : Sg → String → Prop} (K : MC R p s m args c cX16_restore 7 RX16 D cA tys A n0 s0 2 55 []) (hQ : HQV p l e R s m args below meth c cX16_restore D cA A n0 s0 QM dm ra jx rm Q) (hX : HX p l e R s m args below meth c 7 D cA A n0 s0 QM dm ra jx rm X) {K357 : Sg → Int → Prop} (hK357 : ∀ (σ : Sg) (v2 : Int) (g2 : rng v2), K357 σ v2 → RG σ → Shp dm ra jx rm σ → JJ p l e R s m args below meth c 7 D cA A n0 s0 QM σ 357 [(0, .ref rm), (2, .int (i32 v2))] []) : ∀ (σ : Sg) (v2 : Int) (g2 : rng v2), w_X16_restore_357 ra jx rm K357 Q X σ v2 → RG σ → Shp dm ra jx rm σ → JJ p l e R s m args below meth c 7 D cA A n0 s0 QM σ 357 [(0, .ref rm), (2, .int (i32 v2))] [] := by
  intro σ v2 g2 h hGσ hS H locs ls hH hl hc
  have B := K.1
  unfold w_X16_restore_357 at h
  refine lv_iload_n B.1 B.2.1 dX16_restore_357 rfl (lv_at hl 1 rfl) ?_
  refine lv_aload_n B.1 B.2.1 dX16_restore_358 rfl (lv_at hl 0 rfl) ?_
  refine r_geti B hH hS 36 (by decide) wf_X16_399 rfl rfl dX16_restore_359 ?_
  refine lv_icmp_ge (tgt := 413) B.1 B.2.1 dX16_restore_362 (by decide) (fun h9 => ?_) (fun h9 => ?_)
  · rw [if_pos ((i32_le (hGσ _ _) g2).mp h9)] at h
    exact a_X16_restore_413 K hQ hX _ h hGσ hS _ _ _ hH (lv_sub (l' := [(0, .ref rm)]) hl [0] rfl) hc
  · rw [if_neg (fun q => h9 ((i32_le (hGσ _ _) g2).mpr q))] at h
    exact a_X16_restore_365 K hQ hX hK357 _ _ g2 h hGσ hS _ _ _ hH (lv_sub (l' := [(0, .ref rm), (2, .int (i32 v2))]) hl [0, 1] rfl) hc
theorem al_X16_restore_357 {Q : Sg → Unit → Prop} {X : Sg → String → Prop} (K : MC R p s m args c cX16_restore 7 RX16 D cA tys A n0 s0 2 55 []) (hQ : HQV p l e R s m args below meth c cX16_restore D cA A n0 s0 QM dm ra jx rm Q) (hX : HX p l e R s m args below meth c 7 D cA A n0 s0 QM dm ra jx rm X) : ∀ (n : Nat), ∀ (σ : Sg) (v2 : Int) (g2 : rng v2), wl_X16_restore_357 ra jx rm Q X n σ v2 → RG σ → Shp dm ra jx rm σ → JJ p l e R s m args below meth c 7 D cA A n0 s0 QM σ 357 [(0, .ref rm), (2, .int (i32 v2))] [] := by
  intro n
  induction n with
  | zero => intro σ v2 g2 h; exact h.elim
  | succ n ih => exact fun σ v2 g2 h => a_X16_restore_357 K hQ hX ih σ v2 g2 h
set_option maxRecDepth 20000 in
theorem a_X16_restore_355 {Q : Sg → Unit → Prop} {X : Sg → String → Prop} (K : MC R p s m args c cX16_restore 7 RX16 D cA tys A n0 s0 2 55 []) (hQ : HQV p l e R s m args below meth c cX16_restore D cA A n0 s0 QM dm ra jx rm Q) (hX : HX p l e R s m args below meth c 7 D cA A n0 s0 QM dm ra jx rm X) : ∀ (σ : Sg), w_X16_restore_355 ra jx rm Q X σ → RG σ → Shp dm ra jx rm σ → JJ p l e R s m args below meth c 7 D cA A n0 s0 QM σ 355 [(0, .ref rm)] [] := by
  intro σ h hGσ hS H locs ls hH hl hc
  have B := K.1
  unfold w_X16_restore_355 at h
  refine lv_iconst (v := i32 0) B.1 B.2.1 dX16_restore_355 (by decide) ?_
  refine lv_istore_n (lv' := [(2, .int (i32 0)), (0, .ref rm)]) B.1 B.2.1 dX16_restore_356 rfl hl (by decide) rfl (fun ls hl => ?_)
  obtain ⟨n9, h⟩ := h
  exact al_X16_restore_357 K hQ hX n9 _ _ (by unfold rng; omega) h hGσ hS _ _ _ hH (lv_sub (l' := [(0, .ref rm), (2, .int (i32 0))]) hl [1, 0] rfl) hc
set_option maxRecDepth 20000 in
theorem a_X16_restore_349 {Q : Sg → Unit → Prop} {X : Sg → String → Prop} (K : MC R p s m args c cX16_restore 7 RX16 D cA tys A n0 s0 2 55 []) (hQ : HQV p l e R s m args below meth c cX16_restore D cA A n0 s0 QM dm ra jx rm Q) (hX : HX p l e R s m args below meth c 7 D cA A n0 s0 QM dm ra jx rm X) {K178 : Sg → Int → Prop} (hK178 : ∀ (σ : Sg) (v2 : Int) (g2 : rng v2), K178 σ v2 → RG σ → Shp dm ra jx rm σ → JJ p l e R s m args below meth c 7 D cA A n0 s0 QM σ 178 [(0, .ref rm), (2, .int (i32 v2))] []) : ∀ (σ : Sg) (v2 : Int) (g2 : rng v2), w_X16_restore_349 ra jx rm K178 Q X σ v2 → RG σ → Shp dm ra jx rm σ → JJ p l e R s m args below meth c 7 D cA A n0 s0 QM σ 349 [(0, .ref rm), (2, .int (i32 v2))] [] := by
  intro σ v2 g2 h hGσ hS H locs ls hH hl hc
  have B := K.1
  unfold w_X16_restore_349 at h
  obtain ⟨q1, h⟩ := h
  refine lv_iinc (k := 1) (v := i32 (v2 + 1)) (lv' := [(2, .int (i32 (v2 + 1))), (0, .ref rm)]) B.1 B.2.1 dX16_restore_349 hl rfl (i32_add _ _) (by decide) rfl (fun ls hl => ?_)
  refine lv_goto (tgt := 178) B.1 B.2.1 dX16_restore_352 (by decide) ?_
  exact hK178 _ _ q1 h hGσ hS _ _ _ hH (lv_sub (l' := [(0, .ref rm), (2, .int (i32 (v2 + 1)))]) hl [1, 0] rfl) hc
set_option maxRecDepth 20000 in
theorem a_X16_restore_343 {Q : Sg → Unit → Prop} {X : Sg → String → Prop} (K : MC R p s m args c cX16_restore 7 RX16 D cA tys A n0 s0 2 55 []) (hQ : HQV p l e R s m args below meth c cX16_restore D cA A n0 s0 QM dm ra jx rm Q) (hX : HX p l e R s m args below meth c 7 D cA A n0 s0 QM dm ra jx rm X) {K178 : Sg → Int → Prop} (hK178 : ∀ (σ : Sg) (v2 : Int) (g2 : rng v2), K178 σ v2 → RG σ → Shp dm ra jx rm σ → JJ p l e R s m args below meth c 7 D cA A n0 s0 QM σ 178 [(0, .ref rm), (2, .int (i32 v2))] []) {K198 : Sg → Int → Int → Prop} (hK198 : ∀ (σ : Sg) (v2 : Int) (v3 : Int) (g2 : rng v2) (g3 : rng v3), K198 σ v2 v3 → RG σ → Shp dm ra jx rm σ → JJ p l e R s m args below meth c 7 D cA A n0 s0 QM σ 198 [(0, .ref rm), (2, .int (i32 v2)), (3, .int (i32 v3))] []) : ∀ (σ : Sg) (v2 : Int) (v3 : Int) (g2 : rng v2) (g3 : rng v3), w_X16_restore_343 ra jx rm K178 K198 Q X σ v2 v3 → RG σ → Shp dm ra jx rm σ → JJ p l e R s m args below meth c 7 D cA A n0 s0 QM σ 343 [(0, .ref rm), (2, .int (i32 v2)), (3, .int (i32 v3))] [] := by
  intro σ v2 v3 g2 g3 h hGσ hS H locs ls hH hl hc
  have B := K.1
  unfold w_X16_restore_343 at h
  obtain ⟨q1, h⟩ := h
  refine lv_iinc (k := 2) (v := i32 (v3 + 1)) (lv' := [(3, .int (i32 (v3 + 1))), (0, .ref rm), (2, .int (i32 v2))]) B.1 B.2.1 dX16_restore_343 hl rfl (i32_add _ _) (by decide) rfl (fun ls hl => ?_)
  refine lv_goto (tgt := 198) B.1 B.2.1 dX16_restore_346 (by decide) ?_
  exact hK198 _ _ _ g2 q1 h hGσ hS _ _ _ hH (lv_sub (l' := [(0, .ref rm), (2, .int (i32 v2)), (3, .int (i32 (v3 + 1)))]) hl [1, 2, 0] rfl) hc
set_option maxRecDepth 20000 in
theorem a_X16_restore_337 {Q : Sg → Unit → Prop} {X : Sg → String → Prop} (K : MC R p s m args c cX16_restore 7 RX16 D cA tys A n0 s0 2 55 []) (hQ : HQV p l e R s m args below meth c cX16_restore D cA A n0 s0 QM dm ra jx rm Q) (hX : HX p l e R s m args below meth c 7 D cA A n0 s0 QM dm ra jx rm X) {K178 : Sg → Int → Prop} (hK178 : ∀ (σ : Sg) (v2 : Int) (g2 : rng v2), K178 σ v2 → RG σ → Shp dm ra jx rm σ → JJ p l e R s m args below meth c 7 D cA A n0 s0 QM σ 178 [(0, .ref rm), (2, .int (i32 v2))] []) {K198 : Sg → Int → Int → Prop} (hK198 : ∀ (σ : Sg) (v2 : Int) (v3 : Int) (g2 : rng v2) (g3 : rng v3), K198 σ v2 v3 → RG σ → Shp dm ra jx rm σ → JJ p l e R s m args below meth c 7 D cA A n0 s0 QM σ 198 [(0, .ref rm), (2, .int (i32 v2)), (3, .int (i32 v3))] []) {K206 : Sg → Int → Int → Int → Prop} (hK206 : ∀ (σ : Sg) (v2 : Int) (v3 : Int) (v4 : Int) (g2 : rng v2) (g3 : rng v3) (g4 : rng v4), K206 σ v2 v3 v4 → RG σ → Shp dm ra jx rm σ → JJ p l e R s m args below meth c 7 D cA A n0 s0 QM σ 206 [(0, .ref rm), (2, .int (i32 v2)), (3, .int (i32 v3)), (4, .int (i32 v4))] []) : ∀ (σ : Sg) (v2 : Int) (v3 : Int) (v4 : Int) (g2 : rng v2) (g3 : rng v3) (g4 : rng v4), w_X16_restore_337 ra jx rm K178 K198 K206 Q X σ v2 v3 v4 → RG σ → Shp dm ra jx rm σ → JJ p l e R s m args below meth c 7 D cA A n0 s0 QM σ 337 [(0, .ref rm), (2, .int (i32 v2)), (3, .int (i32 v3)), (4, .int (i32 v4))] [] := by
  intro σ v2 v3 v4 g2 g3 g4 h hGσ hS H locs ls hH hl hc
  have B := K.1
  unfold w_X16_restore_337 at h
  obtain ⟨q1, h⟩ := h
  refine lv_iinc (k := 3) (v := i32 (v4 + 1)) (lv' := [(4, .int (i32 (v4 + 1))), (0, .ref rm), (2, .int (i32 v2)), (3, .int (i32 v3))]) B.1 B.2.1 dX16_restore_337 hl rfl (i32_add _ _) (by decide) rfl (fun ls hl => ?_)
  refine lv_goto (tgt := 206) B.1 B.2.1 dX16_restore_340 (by decide) ?_
  exact hK206 _ _ _ _ g2 g3 q1 h hGσ hS _ _ _ hH (lv_sub (l' := [(0, .ref rm), (2, .int (i32 v2)), (3, .int (i32 v3)), (4, .int (i32 (v4 + 1)))]) hl [1, 2, 3, 0] rfl) hc
set_option maxRecDepth 20000 in
theorem a_X16_restore_268 {Q : Sg → Unit → Prop} {X : Sg → String → Prop} (K : MC R p s m args c cX16_restore 7 RX16 D cA tys A n0 s0 2 55 []) (hQ : HQV p l e R s m args below meth c cX16_restore D cA A n0 s0 QM dm ra jx rm Q) (hX : HX p l e R s m args below meth c 7 D cA A n0 s0 QM dm ra jx rm X) {K178 : Sg → Int → Prop} (hK178 : ∀ (σ : Sg) (v2 : Int) (g2 : rng v2), K178 σ v2 → RG σ → Shp dm ra jx rm σ → JJ p l e R s m args below meth c 7 D cA A n0 s0 QM σ 178 [(0, .ref rm), (2, .int (i32 v2))] []) {K198 : Sg → Int → Int → Prop} (hK198 : ∀ (σ : Sg) (v2 : Int) (v3 : Int) (g2 : rng v2) (g3 : rng v3), K198 σ v2 v3 → RG σ → Shp dm ra jx rm σ → JJ p l e R s m args below meth c 7 D cA A n0 s0 QM σ 198 [(0, .ref rm), (2, .int (i32 v2)), (3, .int (i32 v3))] []) {K206 : Sg → Int → Int → Int → Prop} (hK206 : ∀ (σ : Sg) (v2 : Int) (v3 : Int) (v4 : Int) (g2 : rng v2) (g3 : rng v3) (g4 : rng v4), K206 σ v2 v3 v4 → RG σ → Shp dm ra jx rm σ → JJ p l e R s m args below meth c 7 D cA A n0 s0 QM σ 206 [(0, .ref rm), (2, .int (i32 v2)), (3, .int (i32 v3)), (4, .int (i32 v4))] []) : ∀ (σ : Sg) (v2 : Int) (v3 : Int) (v4 : Int) (u0 : Int) (u1 : Int) (g2 : rng v2) (g3 : rng v3) (g4 : rng v4) (gu0 : rng u0) (gu1 : rng u1), w_X16_restore_268 ra jx rm K178 K198 K206 Q X σ v2 v3 v4 u0 u1 → RG σ → Shp dm ra jx rm σ → JJ p l e R s m args below meth c 7 D cA A n0 s0 QM σ 268 [(0, .ref rm), (2, .int (i32 v2)), (3, .int (i32 v3)), (4, .int (i32 v4))] [.int (i32 u0), .int (i32 u1)] := by
  intro σ v2 v3 v4 u0 u1 g2 g3 g4 gu0 gu1 h hGσ hS H locs ls hH hl hc
  have B := K.1
  unfold w_X16_restore_268 at h
  obtain ⟨q1, h⟩ := h
  refine lv_iadd B.1 B.2.1 dX16_restore_268 ?_
  rw [i32_add]
  refine lv_istore (lv' := [(5, .int (i32 (u1 + u0))), (0, .ref rm), (2, .int (i32 v2)), (3, .int (i32 v3)), (4, .int (i32 v4))]) B.1 B.2.1 dX16_restore_269 hl (by decide) rfl (fun ls hl => ?_)
  refine lv_aload_n B.1 B.2.1 dX16_restore_271 rfl (lv_at hl 1 rfl) ?_
  refine lv_iload B.1 B.2.1 dX16_restore_272 (lv_at hl 0 rfl) ?_
  refine lv_aload_n B.1 B.2.1 dX16_restore_274 rfl (lv_at hl 1 rfl) ?_
  refine r_arr B hH hS 99 (kd := 100) (n := 8000) (by decide) (by decide) wf_X16_706 rfl rfl dX16_restore_275 ?_
  refine lv_iload B.1 B.2.1 dX16_restore_278 (lv_at hl 4 rfl) ?_
  obtain ⟨q2, h⟩ := h
  refine x_iald B K.2.1 hH (hS.ar (k := 99) (kd := 100) (n := 8000) (by decide)) (by decide) q2 dX16_restore_280 ?_
  refine lv_aload_n B.1 B.2.1 dX16_restore_281 rfl (lv_at hl 1 rfl) ?_
  refine r_arr B hH hS 102 (kd := 101) (n := 8000) (by decide) (by decide) wf_X16_715 rfl rfl dX16_restore_282 ?_
  refine lv_iload B.1 B.2.1 dX16_restore_285 (lv_at hl 4 rfl) ?_
  obtain ⟨q3, h⟩ := h
  refine x_lald B K.2.1 hH (hS.ar (k := 102) (kd := 101) (n := 8000) (by decide)) (by decide) q3 dX16_restore_287 ?_
  refine lv_aload_n B.1 B.2.1 dX16_restore_288 rfl (lv_at hl 1 rfl) ?_
  refine r_arr B hH hS 103 (kd := 101) (n := 8000) (by decide) (by decide) wf_X16_718 rfl rfl dX16_restore_289 ?_
  refine lv_iload B.1 B.2.1 dX16_restore_292 (lv_at hl 4 rfl) ?_
  obtain ⟨q4, h⟩ := h
  refine x_lald B K.2.1 hH (hS.ar (k := 103) (kd := 101) (n := 8000) (by decide)) (by decide) q4 dX16_restore_294 ?_
  refine lv_aload_n B.1 B.2.1 dX16_restore_295 rfl (lv_at hl 1 rfl) ?_
  refine r_arr B hH hS 104 (kd := 101) (n := 8000) (by decide) (by decide) wf_X16_721 rfl rfl dX16_restore_296 ?_
  refine lv_iload B.1 B.2.1 dX16_restore_299 (lv_at hl 4 rfl) ?_
  obtain ⟨q5, h⟩ := h
  refine x_lald B K.2.1 hH (hS.ar (k := 104) (kd := 101) (n := 8000) (by decide)) (by decide) q5 dX16_restore_301 ?_
  refine lv_aload_n B.1 B.2.1 dX16_restore_302 rfl (lv_at hl 1 rfl) ?_
  refine r_arr B hH hS 105 (kd := 101) (n := 64000) (by decide) (by decide) wf_X16_727 rfl rfl dX16_restore_303 ?_
  refine lv_bipush (v := i32 8) B.1 B.2.1 dX16_restore_306 (by decide) ?_
  refine lv_iload B.1 B.2.1 dX16_restore_308 (lv_at hl 4 rfl) ?_
  obtain ⟨q6, h⟩ := h
  refine lv_imul B.1 B.2.1 dX16_restore_310 ?_
  rw [i32_mul]
  refine lv_aload_n B.1 B.2.1 dX16_restore_311 rfl (lv_at hl 1 rfl) ?_
  refine r_arr B hH hS 106 (kd := 100) (n := 8000) (by decide) (by decide) wf_X16_724 rfl rfl dX16_restore_312 ?_
  refine lv_iload B.1 B.2.1 dX16_restore_315 (lv_at hl 4 rfl) ?_
  obtain ⟨q7, h⟩ := h
  refine x_iald B K.2.1 hH (hS.ar (k := 106) (kd := 100) (n := 8000) (by decide)) (by decide) q7 dX16_restore_317 ?_
  refine c_V B hH hl hc K.2.2.1 (C := RX16) (T := TX16) (N := 123) (ci := 16) (As := [.int (i32 (u1 + u0)), .int (i32 (gI σ (ra 99) v4.toNat)), .long (gJ σ (ra 102) v4.toNat), .long (gJ σ (ra 103) v4.toNat), .long (gJ σ (ra 104) v4.toNat), va_rf (some (ra 105)), .int (i32 (8 * v4)), .int (i32 (gI σ (ra 106) v4.toNat))]) (ok_X16_record K.2.1 σ (u1 + u0) (gI σ (ra 99) v4.toNat) (gJ σ (ra 102) v4.toNat) (gJ σ (ra 103) v4.toNat) (gJ σ (ra 104) v4.toNat) (some (ra 105)) (8 * v4) (gI σ (ra 106) v4.toNat) q1 (hGσ _ _) q6 (hGσ _ _) hGσ hS h) wc_X16_567 8 hd_X16_record ⟨Nat.le_trans (Nat.le_of_ble_eq_true rfl) K.2.2.2.1, Nat.le_trans (Nat.le_of_ble_eq_true rfl) K.2.2.2.2.1⟩ hS.1.1 hS.1.2 (by decide) rfl rfl (rest := []) rfl (Nat.le_of_ble_eq_true rfl) dX16_restore_318 (fun σ39 w hq => ?_) (fun σ9 E9 hx9 => hX σ9 E9 _ _ _ (tb_out K.2.2.2.2.2 rfl) hx9.1 hx9.2.1 hx9.2.2)
  obtain ⟨r40, rfl, gr40, h, hGσ39, hS⟩ := hq
  intro H locs ls hH hl hc
  refine W.eq (g2 := F0 m 321 ls [.int (i32 r40)]) (rfl) ?_
  try dsimp only at h
  refine lv_istore (lv' := [(6, .int (i32 r40)), (5, .int (i32 (u1 + u0))), (0, .ref rm), (2, .int (i32 v2)), (3, .int (i32 v3)), (4, .int (i32 v4))]) B.1 B.2.1 dX16_restore_321 hl (by decide) rfl (fun ls hl => ?_)
  refine lv_aload_n B.1 B.2.1 dX16_restore_323 rfl (lv_at hl 2 rfl) ?_
  refine r_arr B hH hS 74 (kd := 100) (n := 4000) (by decide) (by decide) wf_X16_531 rfl rfl dX16_restore_324 ?_
  refine lv_iload B.1 B.2.1 dX16_restore_327 (lv_at hl 0 rfl) ?_
  refine lv_aload_n B.1 B.2.1 dX16_restore_329 rfl (lv_at hl 2 rfl) ?_
  refine r_arr B hH hS 106 (kd := 100) (n := 8000) (by decide) (by decide) wf_X16_724 rfl rfl dX16_restore_330 ?_
  refine lv_iload B.1 B.2.1 dX16_restore_333 (lv_at hl 5 rfl) ?_
  obtain ⟨q8, h⟩ := h
  refine x_iald B K.2.1 hH (hS.ar (k := 106) (kd := 100) (n := 8000) (by decide)) (by decide) q8 dX16_restore_335 ?_
  obtain ⟨q9, h⟩ := h
  obtain ⟨σ41, eσ41⟩ : ∃ z, z = pI σ39 (ra 74) r40.toNat (gI σ39 (ra 106) v4.toNat) := ⟨_, rfl⟩
  have h := h σ41 eσ41
  refine x_iast B K.2.1 hH (hS.ar (k := 74) (kd := 100) (n := 4000) (by decide)) (by decide) q9 dX16_restore_336 (fun H locs hH => ?_)
  have hH : Hd D cA A s (pI σ39 (ra 74) r40.toNat (gI σ39 (ra 106) v4.toNat)) H locs := hH
  rw [← eσ41] at hH
  have hGσ41 : RG σ41 := by rw [eσ41]; exact hGσ39.pI (hGσ39 _ _)
  have hS : Shp dm ra jx rm σ41 := by rw [eσ41]; exact hS
  have hc : CB n0 s0 σ41 := by rw [eσ41]; exact hc
  rw [show gc σ39 = gc σ41 by rw [eσ41], show gs σ39 = gs σ41 by rw [eσ41]]
  exact a_X16_restore_337 K hQ hX hK178 hK198 hK206 _ _ _ _ g2 g3 g4 h hGσ41 hS _ _ _ hH (lv_sub (l' := [(0, .ref rm), (2, .int (i32 v2)), (3, .int (i32 v3)), (4, .int (i32 v4))]) hl [2, 3, 4, 5] rfl) hc
set_option maxRecDepth 20000 in
theorem a_X16_restore_257 {Q : Sg → Unit → Prop} {X : Sg → String → Prop} (K : MC R p s m args c cX16_restore 7 RX16 D cA tys A n0 s0 2 55 []) (hQ : HQV p l e R s m args below meth c cX16_restore D cA A n0 s0 QM dm ra jx rm Q) (hX : HX p l e R s m args below meth c 7 D cA A n0 s0 QM dm ra jx rm X) {K178 : Sg → Int → Prop} (hK178 : ∀ (σ : Sg) (v2 : Int) (g2 : rng v2), K178 σ v2 → RG σ → Shp dm ra jx rm σ → JJ p l e R s m args below meth c 7 D cA A n0 s0 QM σ 178 [(0, .ref rm), (2, .int (i32 v2))] []) {K198 : Sg → Int → Int → Prop} (hK198 : ∀ (σ : Sg) (v2 : Int) (v3 : Int) (g2 : rng v2) (g3 : rng v3), K198 σ v2 v3 → RG σ → Shp dm ra jx rm σ → JJ p l e R s m args below meth c 7 D cA A n0 s0 QM σ 198 [(0, .ref rm), (2, .int (i32 v2)), (3, .int (i32 v3))] []) {K206 : Sg → Int → Int → Int → Prop} (hK206 : ∀ (σ : Sg) (v2 : Int) (v3 : Int) (v4 : Int) (g2 : rng v2) (g3 : rng v3) (g4 : rng v4), K206 σ v2 v3 v4 → RG σ → Shp dm ra jx rm σ → JJ p l e R s m args below meth c 7 D cA A n0 s0 QM σ 206 [(0, .ref rm), (2, .int (i32 v2)), (3, .int (i32 v3)), (4, .int (i32 v4))] []) : ∀ (σ : Sg) (v2 : Int) (v3 : Int) (v4 : Int) (u0 : Int) (g2 : rng v2) (g3 : rng v3) (g4 : rng v4) (gu0 : rng u0), w_X16_restore_257 ra jx rm K178 K198 K206 Q X σ v2 v3 v4 u0 → RG σ → Shp dm ra jx rm σ → JJ p l e R s m args below meth c 7 D cA A n0 s0 QM σ 257 [(0, .ref rm), (2, .int (i32 v2)), (3, .int (i32 v3)), (4, .int (i32 v4))] [.int (i32 u0)] := by
  intro σ v2 v3 v4 u0 g2 g3 g4 gu0 h hGσ hS H locs ls hH hl hc
  have B := K.1
  unfold w_X16_restore_257 at h
  refine lv_aload_n B.1 B.2.1 dX16_restore_257 rfl (lv_at hl 0 rfl) ?_
  refine lv_aload_n B.1 B.2.1 dX16_restore_258 rfl (lv_at hl 0 rfl) ?_
  refine r_arr B hH hS 102 (kd := 101) (n := 8000) (by decide) (by decide) wf_X16_715 rfl rfl dX16_restore_259 ?_
  refine lv_iload B.1 B.2.1 dX16_restore_262 (lv_at hl 3 rfl) ?_
  obtain ⟨q1, h⟩ := h
  refine x_lald B K.2.1 hH (hS.ar (k := 102) (kd := 101) (n := 8000) (by decide)) (by decide) q1 dX16_restore_264 ?_
  refine c_V B hH hl hc K.2.2.1 (C := RX16) (T := TX16) (N := 123) (ci := 16) (As := [.long (gJ σ (ra 102) v4.toNat)]) (ok_X16_partOf K.2.1 σ (gJ σ (ra 102) v4.toNat) hGσ hS h) wc_X16_486 1 hd_X16_partOf ⟨Nat.le_trans (Nat.le_of_ble_eq_true rfl) K.2.2.2.1, Nat.le_trans (Nat.le_of_ble_eq_true rfl) K.2.2.2.2.1⟩ hS.1.1 hS.1.2 (by decide) rfl rfl (rest := [.int (i32 u0)]) rfl (Nat.le_of_ble_eq_true rfl) dX16_restore_265 (fun σ42 w hq => ?_) (fun σ9 E9 hx9 => hX σ9 E9 _ _ _ (tb_out K.2.2.2.2.2 rfl) hx9.1 hx9.2.1 hx9.2.2)
  obtain ⟨r43, rfl, gr43, h, hGσ42, hS⟩ := hq
  intro H locs ls hH hl hc
  refine W.eq (g2 := F0 m 268 ls [.int (i32 r43), .int (i32 u0)]) (rfl) ?_
  try dsimp only at h
  exact a_X16_restore_268 K hQ hX hK178 hK198 hK206 _ _ _ _ _ _ g2 g3 g4 gr43 gu0 h hGσ42 hS _ _ _ hH (lv_sub (l' := [(0, .ref rm), (2, .int (i32 v2)), (3, .int (i32 v3)), (4, .int (i32 v4))]) hl [0, 1, 2, 3] rfl) hc
set_option maxRecDepth 20000 in
theorem a_X16_restore_253 {Q : Sg → Unit → Prop} {X : Sg → String → Prop} (K : MC R p s m args c cX16_restore 7 RX16 D cA tys A n0 s0 2 55 []) (hQ : HQV p l e R s m args below meth c cX16_restore D cA A n0 s0 QM dm ra jx rm Q) (hX : HX p l e R s m args below meth c 7 D cA A n0 s0 QM dm ra jx rm X) {K178 : Sg → Int → Prop} (hK178 : ∀ (σ : Sg) (v2 : Int) (g2 : rng v2), K178 σ v2 → RG σ → Shp dm ra jx rm σ → JJ p l e R s m args below meth c 7 D cA A n0 s0 QM σ 178 [(0, .ref rm), (2, .int (i32 v2))] []) {K198 : Sg → Int → Int → Prop} (hK198 : ∀ (σ : Sg) (v2 : Int) (v3 : Int) (g2 : rng v2) (g3 : rng v3), K198 σ v2 v3 → RG σ → Shp dm ra jx rm σ → JJ p l e R s m args below meth c 7 D cA A n0 s0 QM σ 198 [(0, .ref rm), (2, .int (i32 v2)), (3, .int (i32 v3))] []) {K206 : Sg → Int → Int → Int → Prop} (hK206 : ∀ (σ : Sg) (v2 : Int) (v3 : Int) (v4 : Int) (g2 : rng v2) (g3 : rng v3) (g4 : rng v4), K206 σ v2 v3 v4 → RG σ → Shp dm ra jx rm σ → JJ p l e R s m args below meth c 7 D cA A n0 s0 QM σ 206 [(0, .ref rm), (2, .int (i32 v2)), (3, .int (i32 v3)), (4, .int (i32 v4))] []) : ∀ (σ : Sg) (v2 : Int) (v3 : Int) (v4 : Int) (u0 : Int) (g2 : rng v2) (g3 : rng v3) (g4 : rng v4) (gu0 : rng u0), w_X16_restore_253 ra jx rm K178 K198 K206 Q X σ v2 v3 v4 u0 → RG σ → Shp dm ra jx rm σ → JJ p l e R s m args below meth c 7 D cA A n0 s0 QM σ 253 [(0, .ref rm), (2, .int (i32 v2)), (3, .int (i32 v3)), (4, .int (i32 v4))] [.int (i32 u0)] := by
  intro σ v2 v3 v4 u0 g2 g3 g4 gu0 h hGσ hS H locs ls hH hl hc
  have B := K.1
  unfold w_X16_restore_253 at h
  refine lv_iconst (v := i32 0) B.1 B.2.1 dX16_restore_253 (by decide) ?_
  refine lv_goto (tgt := 268) B.1 B.2.1 dX16_restore_254 (by decide) ?_
  exact a_X16_restore_268 K hQ hX hK178 hK198 hK206 _ _ _ _ _ _ g2 g3 g4 (by unfold rng; omega) gu0 h hGσ hS _ _ _ hH (lv_sub (l' := [(0, .ref rm), (2, .int (i32 v2)), (3, .int (i32 v3)), (4, .int (i32 v4))]) hl [0, 1, 2, 3] rfl) hc
set_option maxRecDepth 20000 in
theorem a_X16_restore_239 {Q : Sg → Unit → Prop} {X : Sg → String → Prop} (K : MC R p s m args c cX16_restore 7 RX16 D cA tys A n0 s0 2 55 []) (hQ : HQV p l e R s m args below meth c cX16_restore D cA A n0 s0 QM dm ra jx rm Q) (hX : HX p l e R s m args below meth c 7 D cA A n0 s0 QM dm ra jx rm X) {K178 : Sg → Int → Prop} (hK178 : ∀ (σ : Sg) (v2 : Int) (g2 : rng v2), K178 σ v2 → RG σ → Shp dm ra jx rm σ → JJ p l e R s m args below meth c 7 D cA A n0 s0 QM σ 178 [(0, .ref rm), (2, .int (i32 v2))] []) {K198 : Sg → Int → Int → Prop} (hK198 : ∀ (σ : Sg) (v2 : Int) (v3 : Int) (g2 : rng v2) (g3 : rng v3), K198 σ v2 v3 → RG σ → Shp dm ra jx rm σ → JJ p l e R s m args below meth c 7 D cA A n0 s0 QM σ 198 [(0, .ref rm), (2, .int (i32 v2)), (3, .int (i32 v3))] []) {K206 : Sg → Int → Int → Int → Prop} (hK206 : ∀ (σ : Sg) (v2 : Int) (v3 : Int) (v4 : Int) (g2 : rng v2) (g3 : rng v3) (g4 : rng v4), K206 σ v2 v3 v4 → RG σ → Shp dm ra jx rm σ → JJ p l e R s m args below meth c 7 D cA A n0 s0 QM σ 206 [(0, .ref rm), (2, .int (i32 v2)), (3, .int (i32 v3)), (4, .int (i32 v4))] []) : ∀ (σ : Sg) (v2 : Int) (v3 : Int) (v4 : Int) (g2 : rng v2) (g3 : rng v3) (g4 : rng v4), w_X16_restore_239 ra jx rm K178 K198 K206 Q X σ v2 v3 v4 → RG σ → Shp dm ra jx rm σ → JJ p l e R s m args below meth c 7 D cA A n0 s0 QM σ 239 [(0, .ref rm), (2, .int (i32 v2)), (3, .int (i32 v3)), (4, .int (i32 v4))] [] := by
  intro σ v2 v3 v4 g2 g3 g4 h hGσ hS H locs ls hH hl hc
  have B := K.1
  unfold w_X16_restore_239 at h
  refine lv_aload_n B.1 B.2.1 dX16_restore_239 rfl (lv_at hl 0 rfl) ?_
  refine r_arr B hH hS 37 (kd := 100) (n := 17) (by decide) (by decide) wf_X16_389 rfl rfl dX16_restore_240 ?_
  refine lv_iload_n B.1 B.2.1 dX16_restore_243 rfl (lv_at hl 1 rfl) ?_
  obtain ⟨q1, h⟩ := h
  refine x_iald B K.2.1 hH (hS.ar (k := 37) (kd := 100) (n := 17) (by decide)) (by decide) q1 dX16_restore_244 ?_
  refine lv_aload_n B.1 B.2.1 dX16_restore_245 rfl (lv_at hl 0 rfl) ?_
  refine lv_iload_n B.1 B.2.1 dX16_restore_246 rfl (lv_at hl 1 rfl) ?_
  refine c_V B hH hl hc K.2.2.1 (C := RX16) (T := TX16) (N := 123) (ci := 16) (As := [.int (i32 v2)]) (ok_X16_isSingle K.2.1 σ v2 g2 hGσ hS h) wc_X16_361 1 hd_X16_isSingle ⟨Nat.le_trans (Nat.le_of_ble_eq_true rfl) K.2.2.2.1, Nat.le_trans (Nat.le_of_ble_eq_true rfl) K.2.2.2.2.1⟩ hS.1.1 hS.1.2 (by decide) rfl rfl (rest := [.int (i32 (gI σ (ra 37) v2.toNat))]) rfl (Nat.le_of_ble_eq_true rfl) dX16_restore_247 (fun σ44 w hq => ?_) (fun σ9 E9 hx9 => hX σ9 E9 _ _ _ (tb_out K.2.2.2.2.2 rfl) hx9.1 hx9.2.1 hx9.2.2)
  obtain ⟨r45, rfl, ⟨gr45, gzr45⟩, h, hGσ44, hS⟩ := hq
  intro H locs ls hH hl hc
  refine W.eq (g2 := F0 m 250 ls [.int (i32 r45), .int (i32 (gI σ (ra 37) v2.toNat))]) (rfl) ?_
  try dsimp only at h
  refine lv_if_eq (tgt := 257) B.1 B.2.1 dX16_restore_250 (by decide) (fun h9 => ?_) (fun h9 => ?_)
  · rw [if_pos ((z_eq gr45).mp h9)] at h
    exact a_X16_restore_257 K hQ hX hK178 hK198 hK206 _ _ _ _ _ g2 g3 g4 (hGσ _ _) h hGσ44 hS _ _ _ hH (lv_sub (l' := [(0, .ref rm), (2, .int (i32 v2)), (3, .int (i32 v3)), (4, .int (i32 v4))]) hl [0, 1, 2, 3] rfl) hc
  · rw [if_neg (fun q => h9 ((z_eq gr45).mpr q))] at h
    exact a_X16_restore_253 K hQ hX hK178 hK198 hK206 _ _ _ _ _ g2 g3 g4 (hGσ _ _) h hGσ44 hS _ _ _ hH (lv_sub (l' := [(0, .ref rm), (2, .int (i32 v2)), (3, .int (i32 v3)), (4, .int (i32 v4))]) hl [0, 1, 2, 3] rfl) hc
set_option maxRecDepth 20000 in
theorem a_X16_restore_228 {Q : Sg → Unit → Prop} {X : Sg → String → Prop} (K : MC R p s m args c cX16_restore 7 RX16 D cA tys A n0 s0 2 55 []) (hQ : HQV p l e R s m args below meth c cX16_restore D cA A n0 s0 QM dm ra jx rm Q) (hX : HX p l e R s m args below meth c 7 D cA A n0 s0 QM dm ra jx rm X) {K178 : Sg → Int → Prop} (hK178 : ∀ (σ : Sg) (v2 : Int) (g2 : rng v2), K178 σ v2 → RG σ → Shp dm ra jx rm σ → JJ p l e R s m args below meth c 7 D cA A n0 s0 QM σ 178 [(0, .ref rm), (2, .int (i32 v2))] []) {K198 : Sg → Int → Int → Prop} (hK198 : ∀ (σ : Sg) (v2 : Int) (v3 : Int) (g2 : rng v2) (g3 : rng v3), K198 σ v2 v3 → RG σ → Shp dm ra jx rm σ → JJ p l e R s m args below meth c 7 D cA A n0 s0 QM σ 198 [(0, .ref rm), (2, .int (i32 v2)), (3, .int (i32 v3))] []) {K206 : Sg → Int → Int → Int → Prop} (hK206 : ∀ (σ : Sg) (v2 : Int) (v3 : Int) (v4 : Int) (g2 : rng v2) (g3 : rng v3) (g4 : rng v4), K206 σ v2 v3 v4 → RG σ → Shp dm ra jx rm σ → JJ p l e R s m args below meth c 7 D cA A n0 s0 QM σ 206 [(0, .ref rm), (2, .int (i32 v2)), (3, .int (i32 v3)), (4, .int (i32 v4))] []) : ∀ (σ : Sg) (v2 : Int) (v3 : Int) (v4 : Int) (g2 : rng v2) (g3 : rng v3) (g4 : rng v4), w_X16_restore_228 ra jx rm K178 K198 K206 Q X σ v2 v3 v4 → RG σ → Shp dm ra jx rm σ → JJ p l e R s m args below meth c 7 D cA A n0 s0 QM σ 228 [(0, .ref rm), (2, .int (i32 v2)), (3, .int (i32 v3)), (4, .int (i32 v4))] [] := by
  intro σ v2 v3 v4 g2 g3 g4 h hGσ hS H locs ls hH hl hc
  have B := K.1
  unfold w_X16_restore_228 at h
  refine lv_aload_n B.1 B.2.1 dX16_restore_228 rfl (lv_at hl 0 rfl) ?_
  refine r_arr B hH hS 101 (kd := 100) (n := 8000) (by decide) (by decide) wf_X16_712 rfl rfl dX16_restore_229 ?_
  refine lv_iload B.1 B.2.1 dX16_restore_232 (lv_at hl 3 rfl) ?_
  obtain ⟨q1, h⟩ := h
  refine x_iald B K.2.1 hH (hS.ar (k := 101) (kd := 100) (n := 8000) (by decide)) (by decide) q1 dX16_restore_234 ?_
  refine lv_iload_n B.1 B.2.1 dX16_restore_235 rfl (lv_at hl 2 rfl) ?_
  refine lv_icmp_ne (tgt := 337) B.1 B.2.1 dX16_restore_236 (by decide) (fun h9 => ?_) (fun h9 => ?_)
  · rw [if_pos (fun q => h9 ((i32_eq (hGσ _ _) g3).mpr q))] at h
    exact a_X16_restore_337 K hQ hX hK178 hK198 hK206 _ _ _ _ g2 g3 g4 h hGσ hS _ _ _ hH (lv_sub (l' := [(0, .ref rm), (2, .int (i32 v2)), (3, .int (i32 v3)), (4, .int (i32 v4))]) hl [0, 1, 2, 3] rfl) hc
  · rw [if_neg (fun q => q ((i32_eq (hGσ _ _) g3).mp h9))] at h
    exact a_X16_restore_239 K hQ hX hK178 hK198 hK206 _ _ _ _ g2 g3 g4 h hGσ hS _ _ _ hH (lv_sub (l' := [(0, .ref rm), (2, .int (i32 v2)), (3, .int (i32 v3)), (4, .int (i32 v4))]) hl [0, 1, 2, 3] rfl) hc
set_option maxRecDepth 20000 in
theorem a_X16_restore_217 {Q : Sg → Unit → Prop} {X : Sg → String → Prop} (K : MC R p s m args c cX16_restore 7 RX16 D cA tys A n0 s0 2 55 []) (hQ : HQV p l e R s m args below meth c cX16_restore D cA A n0 s0 QM dm ra jx rm Q) (hX : HX p l e R s m args below meth c 7 D cA A n0 s0 QM dm ra jx rm X) {K178 : Sg → Int → Prop} (hK178 : ∀ (σ : Sg) (v2 : Int) (g2 : rng v2), K178 σ v2 → RG σ → Shp dm ra jx rm σ → JJ p l e R s m args below meth c 7 D cA A n0 s0 QM σ 178 [(0, .ref rm), (2, .int (i32 v2))] []) {K198 : Sg → Int → Int → Prop} (hK198 : ∀ (σ : Sg) (v2 : Int) (v3 : Int) (g2 : rng v2) (g3 : rng v3), K198 σ v2 v3 → RG σ → Shp dm ra jx rm σ → JJ p l e R s m args below meth c 7 D cA A n0 s0 QM σ 198 [(0, .ref rm), (2, .int (i32 v2)), (3, .int (i32 v3))] []) {K206 : Sg → Int → Int → Int → Prop} (hK206 : ∀ (σ : Sg) (v2 : Int) (v3 : Int) (v4 : Int) (g2 : rng v2) (g3 : rng v3) (g4 : rng v4), K206 σ v2 v3 v4 → RG σ → Shp dm ra jx rm σ → JJ p l e R s m args below meth c 7 D cA A n0 s0 QM σ 206 [(0, .ref rm), (2, .int (i32 v2)), (3, .int (i32 v3)), (4, .int (i32 v4))] []) : ∀ (σ : Sg) (v2 : Int) (v3 : Int) (v4 : Int) (g2 : rng v2) (g3 : rng v3) (g4 : rng v4), w_X16_restore_217 ra jx rm K178 K198 K206 Q X σ v2 v3 v4 → RG σ → Shp dm ra jx rm σ → JJ p l e R s m args below meth c 7 D cA A n0 s0 QM σ 217 [(0, .ref rm), (2, .int (i32 v2)), (3, .int (i32 v3)), (4, .int (i32 v4))] [] := by
  intro σ v2 v3 v4 g2 g3 g4 h hGσ hS H locs ls hH hl hc
  have B := K.1
  unfold w_X16_restore_217 at h
  refine lv_aload_n B.1 B.2.1 dX16_restore_217 rfl (lv_at hl 0 rfl) ?_
  refine r_arr B hH hS 100 (kd := 100) (n := 8000) (by decide) (by decide) wf_X16_709 rfl rfl dX16_restore_218 ?_
  refine lv_iload B.1 B.2.1 dX16_restore_221 (lv_at hl 3 rfl) ?_
  obtain ⟨q1, h⟩ := h
  refine x_iald B K.2.1 hH (hS.ar (k := 100) (kd := 100) (n := 8000) (by decide)) (by decide) q1 dX16_restore_223 ?_
  refine lv_iload_n B.1 B.2.1 dX16_restore_224 rfl (lv_at hl 1 rfl) ?_
  refine lv_icmp_ne (tgt := 337) B.1 B.2.1 dX16_restore_225 (by decide) (fun h9 => ?_) (fun h9 => ?_)
  · rw [if_pos (fun q => h9 ((i32_eq (hGσ _ _) g2).mpr q))] at h
    exact a_X16_restore_337 K hQ hX hK178 hK198 hK206 _ _ _ _ g2 g3 g4 h hGσ hS _ _ _ hH (lv_sub (l' := [(0, .ref rm), (2, .int (i32 v2)), (3, .int (i32 v3)), (4, .int (i32 v4))]) hl [0, 1, 2, 3] rfl) hc
  · rw [if_neg (fun q => q ((i32_eq (hGσ _ _) g2).mp h9))] at h
    exact a_X16_restore_228 K hQ hX hK178 hK198 hK206 _ _ _ _ g2 g3 g4 h hGσ hS _ _ _ hH (lv_sub (l' := [(0, .ref rm), (2, .int (i32 v2)), (3, .int (i32 v3)), (4, .int (i32 v4))]) hl [0, 1, 2, 3] rfl) hc
set_option maxRecDepth 20000 in
theorem a_X16_restore_206 {Q : Sg → Unit → Prop} {X : Sg → String → Prop} (K : MC R p s m args c cX16_restore 7 RX16 D cA tys A n0 s0 2 55 []) (hQ : HQV p l e R s m args below meth c cX16_restore D cA A n0 s0 QM dm ra jx rm Q) (hX : HX p l e R s m args below meth c 7 D cA A n0 s0 QM dm ra jx rm X) {K178 : Sg → Int → Prop} (hK178 : ∀ (σ : Sg) (v2 : Int) (g2 : rng v2), K178 σ v2 → RG σ → Shp dm ra jx rm σ → JJ p l e R s m args below meth c 7 D cA A n0 s0 QM σ 178 [(0, .ref rm), (2, .int (i32 v2))] []) {K198 : Sg → Int → Int → Prop} (hK198 : ∀ (σ : Sg) (v2 : Int) (v3 : Int) (g2 : rng v2) (g3 : rng v3), K198 σ v2 v3 → RG σ → Shp dm ra jx rm σ → JJ p l e R s m args below meth c 7 D cA A n0 s0 QM σ 198 [(0, .ref rm), (2, .int (i32 v2)), (3, .int (i32 v3))] []) {K206 : Sg → Int → Int → Int → Prop} (hK206 : ∀ (σ : Sg) (v2 : Int) (v3 : Int) (v4 : Int) (g2 : rng v2) (g3 : rng v3) (g4 : rng v4), K206 σ v2 v3 v4 → RG σ → Shp dm ra jx rm σ → JJ p l e R s m args below meth c 7 D cA A n0 s0 QM σ 206 [(0, .ref rm), (2, .int (i32 v2)), (3, .int (i32 v3)), (4, .int (i32 v4))] []) : ∀ (σ : Sg) (v2 : Int) (v3 : Int) (v4 : Int) (g2 : rng v2) (g3 : rng v3) (g4 : rng v4), w_X16_restore_206 ra jx rm K178 K198 K206 Q X σ v2 v3 v4 → RG σ → Shp dm ra jx rm σ → JJ p l e R s m args below meth c 7 D cA A n0 s0 QM σ 206 [(0, .ref rm), (2, .int (i32 v2)), (3, .int (i32 v3)), (4, .int (i32 v4))] [] := by
  intro σ v2 v3 v4 g2 g3 g4 h hGσ hS H locs ls hH hl hc
  have B := K.1
  unfold w_X16_restore_206 at h
  refine lv_iload B.1 B.2.1 dX16_restore_206 (lv_at hl 3 rfl) ?_
  refine lv_aload_n B.1 B.2.1 dX16_restore_208 rfl (lv_at hl 0 rfl) ?_
  refine r_arr B hH hS 98 (kd := 100) (n := 2) (by decide) (by decide) wf_X16_703 rfl rfl dX16_restore_209 ?_
  refine lv_iconst (v := i32 0) B.1 B.2.1 dX16_restore_212 (by decide) ?_
  refine x_iald B K.2.1 hH (hS.ar (k := 98) (kd := 100) (n := 2) (by decide)) (by decide) (by decide) dX16_restore_213 ?_
  refine W.eq (g2 := F0 m 214 ls [.int (i32 (gI σ (ra 98) 0)), .int (i32 v4)]) (rfl) ?_
  refine lv_icmp_ge (tgt := 343) B.1 B.2.1 dX16_restore_214 (by decide) (fun h9 => ?_) (fun h9 => ?_)
  · rw [if_pos ((i32_le (hGσ _ _) g4).mp h9)] at h
    exact a_X16_restore_343 K hQ hX hK178 hK198 _ _ _ g2 g3 h hGσ hS _ _ _ hH (lv_sub (l' := [(0, .ref rm), (2, .int (i32 v2)), (3, .int (i32 v3))]) hl [0, 1, 2] rfl) hc
  · rw [if_neg (fun q => h9 ((i32_le (hGσ _ _) g4).mpr q))] at h
    exact a_X16_restore_217 K hQ hX hK178 hK198 hK206 _ _ _ _ g2 g3 g4 h hGσ hS _ _ _ hH (lv_sub (l' := [(0, .ref rm), (2, .int (i32 v2)), (3, .int (i32 v3)), (4, .int (i32 v4))]) hl [0, 1, 2, 3] rfl) hc
theorem al_X16_restore_206 {Q : Sg → Unit → Prop} {X : Sg → String → Prop} (K : MC R p s m args c cX16_restore 7 RX16 D cA tys A n0 s0 2 55 []) (hQ : HQV p l e R s m args below meth c cX16_restore D cA A n0 s0 QM dm ra jx rm Q) (hX : HX p l e R s m args below meth c 7 D cA A n0 s0 QM dm ra jx rm X) {K178 : Sg → Int → Prop} (hK178 : ∀ (σ : Sg) (v2 : Int) (g2 : rng v2), K178 σ v2 → RG σ → Shp dm ra jx rm σ → JJ p l e R s m args below meth c 7 D cA A n0 s0 QM σ 178 [(0, .ref rm), (2, .int (i32 v2))] []) {K198 : Sg → Int → Int → Prop} (hK198 : ∀ (σ : Sg) (v2 : Int) (v3 : Int) (g2 : rng v2) (g3 : rng v3), K198 σ v2 v3 → RG σ → Shp dm ra jx rm σ → JJ p l e R s m args below meth c 7 D cA A n0 s0 QM σ 198 [(0, .ref rm), (2, .int (i32 v2)), (3, .int (i32 v3))] []) : ∀ (n : Nat), ∀ (σ : Sg) (v2 : Int) (v3 : Int) (v4 : Int) (g2 : rng v2) (g3 : rng v3) (g4 : rng v4), wl_X16_restore_206 ra jx rm K178 K198 Q X n σ v2 v3 v4 → RG σ → Shp dm ra jx rm σ → JJ p l e R s m args below meth c 7 D cA A n0 s0 QM σ 206 [(0, .ref rm), (2, .int (i32 v2)), (3, .int (i32 v3)), (4, .int (i32 v4))] [] := by
  intro n
  induction n with
  | zero => intro σ v2 v3 v4 g2 g3 g4 h; exact h.elim
  | succ n ih => exact fun σ v2 v3 v4 g2 g3 g4 h => a_X16_restore_206 K hQ hX hK178 hK198 ih σ v2 v3 v4 g2 g3 g4 h
set_option maxRecDepth 20000 in
theorem a_X16_restore_203 {Q : Sg → Unit → Prop} {X : Sg → String → Prop} (K : MC R p s m args c cX16_restore 7 RX16 D cA tys A n0 s0 2 55 []) (hQ : HQV p l e R s m args below meth c cX16_restore D cA A n0 s0 QM dm ra jx rm Q) (hX : HX p l e R s m args below meth c 7 D cA A n0 s0 QM dm ra jx rm X) {K178 : Sg → Int → Prop} (hK178 : ∀ (σ : Sg) (v2 : Int) (g2 : rng v2), K178 σ v2 → RG σ → Shp dm ra jx rm σ → JJ p l e R s m args below meth c 7 D cA A n0 s0 QM σ 178 [(0, .ref rm), (2, .int (i32 v2))] []) {K198 : Sg → Int → Int → Prop} (hK198 : ∀ (σ : Sg) (v2 : Int) (v3 : Int) (g2 : rng v2) (g3 : rng v3), K198 σ v2 v3 → RG σ → Shp dm ra jx rm σ → JJ p l e R s m args below meth c 7 D cA A n0 s0 QM σ 198 [(0, .ref rm), (2, .int (i32 v2)), (3, .int (i32 v3))] []) : ∀ (σ : Sg) (v2 : Int) (v3 : Int) (g2 : rng v2) (g3 : rng v3), w_X16_restore_203 ra jx rm K178 K198 Q X σ v2 v3 → RG σ → Shp dm ra jx rm σ → JJ p l e R s m args below meth c 7 D cA A n0 s0 QM σ 203 [(0, .ref rm), (2, .int (i32 v2)), (3, .int (i32 v3))] [] := by
  intro σ v2 v3 g2 g3 h hGσ hS H locs ls hH hl hc
  have B := K.1
  unfold w_X16_restore_203 at h
  refine lv_iconst (v := i32 0) B.1 B.2.1 dX16_restore_203 (by decide) ?_
  refine lv_istore (lv' := [(4, .int (i32 0)), (0, .ref rm), (2, .int (i32 v2)), (3, .int (i32 v3))]) B.1 B.2.1 dX16_restore_204 hl (by decide) rfl (fun ls hl => ?_)
  obtain ⟨n9, h⟩ := h
  exact al_X16_restore_206 K hQ hX hK178 hK198 n9 _ _ _ _ g2 g3 (by unfold rng; omega) h hGσ hS _ _ _ hH (lv_sub (l' := [(0, .ref rm), (2, .int (i32 v2)), (3, .int (i32 v3)), (4, .int (i32 0))]) hl [1, 2, 3, 0] rfl) hc
set_option maxRecDepth 20000 in
theorem a_X16_restore_198 {Q : Sg → Unit → Prop} {X : Sg → String → Prop} (K : MC R p s m args c cX16_restore 7 RX16 D cA tys A n0 s0 2 55 []) (hQ : HQV p l e R s m args below meth c cX16_restore D cA A n0 s0 QM dm ra jx rm Q) (hX : HX p l e R s m args below meth c 7 D cA A n0 s0 QM dm ra jx rm X) {K178 : Sg → Int → Prop} (hK178 : ∀ (σ : Sg) (v2 : Int) (g2 : rng v2), K178 σ v2 → RG σ → Shp dm ra jx rm σ → JJ p l e R s m args below meth c 7 D cA A n0 s0 QM σ 178 [(0, .ref rm), (2, .int (i32 v2))] []) {K198 : Sg → Int → Int → Prop} (hK198 : ∀ (σ : Sg) (v2 : Int) (v3 : Int) (g2 : rng v2) (g3 : rng v3), K198 σ v2 v3 → RG σ → Shp dm ra jx rm σ → JJ p l e R s m args below meth c 7 D cA A n0 s0 QM σ 198 [(0, .ref rm), (2, .int (i32 v2)), (3, .int (i32 v3))] []) : ∀ (σ : Sg) (v2 : Int) (v3 : Int) (g2 : rng v2) (g3 : rng v3), w_X16_restore_198 ra jx rm K178 K198 Q X σ v2 v3 → RG σ → Shp dm ra jx rm σ → JJ p l e R s m args below meth c 7 D cA A n0 s0 QM σ 198 [(0, .ref rm), (2, .int (i32 v2)), (3, .int (i32 v3))] [] := by
  intro σ v2 v3 g2 g3 h hGσ hS H locs ls hH hl hc
  have B := K.1
  unfold w_X16_restore_198 at h
  refine lv_iload_n B.1 B.2.1 dX16_restore_198 rfl (lv_at hl 2 rfl) ?_
  refine lv_iconst (v := i32 4) B.1 B.2.1 dX16_restore_199 (by decide) ?_
  refine lv_icmp_ge (tgt := 349) B.1 B.2.1 dX16_restore_200 (by decide) (fun h9 => ?_) (fun h9 => ?_)
  · rw [if_pos ((i32_le (by unfold rng; omega) g3).mp h9)] at h
    exact a_X16_restore_349 K hQ hX hK178 _ _ g2 h hGσ hS _ _ _ hH (lv_sub (l' := [(0, .ref rm), (2, .int (i32 v2))]) hl [0, 1] rfl) hc
  · rw [if_neg (fun q => h9 ((i32_le (by unfold rng; omega) g3).mpr q))] at h
    exact a_X16_restore_203 K hQ hX hK178 hK198 _ _ _ g2 g3 h hGσ hS _ _ _ hH (lv_sub (l' := [(0, .ref rm), (2, .int (i32 v2)), (3, .int (i32 v3))]) hl [0, 1, 2] rfl) hc
theorem al_X16_restore_198 {Q : Sg → Unit → Prop} {X : Sg → String → Prop} (K : MC R p s m args c cX16_restore 7 RX16 D cA tys A n0 s0 2 55 []) (hQ : HQV p l e R s m args below meth c cX16_restore D cA A n0 s0 QM dm ra jx rm Q) (hX : HX p l e R s m args below meth c 7 D cA A n0 s0 QM dm ra jx rm X) {K178 : Sg → Int → Prop} (hK178 : ∀ (σ : Sg) (v2 : Int) (g2 : rng v2), K178 σ v2 → RG σ → Shp dm ra jx rm σ → JJ p l e R s m args below meth c 7 D cA A n0 s0 QM σ 178 [(0, .ref rm), (2, .int (i32 v2))] []) : ∀ (n : Nat), ∀ (σ : Sg) (v2 : Int) (v3 : Int) (g2 : rng v2) (g3 : rng v3), wl_X16_restore_198 ra jx rm K178 Q X n σ v2 v3 → RG σ → Shp dm ra jx rm σ → JJ p l e R s m args below meth c 7 D cA A n0 s0 QM σ 198 [(0, .ref rm), (2, .int (i32 v2)), (3, .int (i32 v3))] [] := by
  intro n
  induction n with
  | zero => intro σ v2 v3 g2 g3 h; exact h.elim
  | succ n ih => exact fun σ v2 v3 g2 g3 h => a_X16_restore_198 K hQ hX hK178 ih σ v2 v3 g2 g3 h
set_option maxRecDepth 20000 in
theorem a_X16_restore_196 {Q : Sg → Unit → Prop} {X : Sg → String → Prop} (K : MC R p s m args c cX16_restore 7 RX16 D cA tys A n0 s0 2 55 []) (hQ : HQV p l e R s m args below meth c cX16_restore D cA A n0 s0 QM dm ra jx rm Q) (hX : HX p l e R s m args below meth c 7 D cA A n0 s0 QM dm ra jx rm X) {K178 : Sg → Int → Prop} (hK178 : ∀ (σ : Sg) (v2 : Int) (g2 : rng v2), K178 σ v2 → RG σ → Shp dm ra jx rm σ → JJ p l e R s m args below meth c 7 D cA A n0 s0 QM σ 178 [(0, .ref rm), (2, .int (i32 v2))] []) : ∀ (σ : Sg) (v2 : Int) (g2 : rng v2), w_X16_restore_196 ra jx rm K178 Q X σ v2 → RG σ → Shp dm ra jx rm σ → JJ p l e R s m args below meth c 7 D cA A n0 s0 QM σ 196 [(0, .ref rm), (2, .int (i32 v2))] [] := by
  intro σ v2 g2 h hGσ hS H locs ls hH hl hc
  have B := K.1
  unfold w_X16_restore_196 at h
  refine lv_iconst (v := i32 0) B.1 B.2.1 dX16_restore_196 (by decide) ?_
  refine lv_istore_n (lv' := [(3, .int (i32 0)), (0, .ref rm), (2, .int (i32 v2))]) B.1 B.2.1 dX16_restore_197 rfl hl (by decide) rfl (fun ls hl => ?_)
  obtain ⟨n9, h⟩ := h
  exact al_X16_restore_198 K hQ hX hK178 n9 _ _ _ g2 (by unfold rng; omega) h hGσ hS _ _ _ hH (lv_sub (l' := [(0, .ref rm), (2, .int (i32 v2)), (3, .int (i32 0))]) hl [1, 2, 0] rfl) hc
set_option maxRecDepth 20000 in
theorem a_X16_restore_189 {Q : Sg → Unit → Prop} {X : Sg → String → Prop} (K : MC R p s m args c cX16_restore 7 RX16 D cA tys A n0 s0 2 55 []) (hQ : HQV p l e R s m args below meth c cX16_restore D cA A n0 s0 QM dm ra jx rm Q) (hX : HX p l e R s m args below meth c 7 D cA A n0 s0 QM dm ra jx rm X) {K178 : Sg → Int → Prop} (hK178 : ∀ (σ : Sg) (v2 : Int) (g2 : rng v2), K178 σ v2 → RG σ → Shp dm ra jx rm σ → JJ p l e R s m args below meth c 7 D cA A n0 s0 QM σ 178 [(0, .ref rm), (2, .int (i32 v2))] []) : ∀ (σ : Sg) (v2 : Int) (g2 : rng v2), w_X16_restore_189 ra jx rm K178 Q X σ v2 → RG σ → Shp dm ra jx rm σ → JJ p l e R s m args below meth c 7 D cA A n0 s0 QM σ 189 [(0, .ref rm), (2, .int (i32 v2))] [] := by
  intro σ v2 g2 h hGσ hS H locs ls hH hl hc
  have B := K.1
  unfold w_X16_restore_189 at h
  refine lv_aload_n B.1 B.2.1 dX16_restore_189 rfl (lv_at hl 0 rfl) ?_
  refine r_geti B hH hS 92 (by decide) wf_X16_745 rfl rfl dX16_restore_190 ?_
  refine lv_if_le (tgt := 355) B.1 B.2.1 dX16_restore_193 (by decide) (fun h9 => ?_) (fun h9 => ?_)
  · rw [if_pos ((z_le (hGσ _ _)).mp h9)] at h
    exact a_X16_restore_355 K hQ hX _ h hGσ hS _ _ _ hH (lv_sub (l' := [(0, .ref rm)]) hl [0] rfl) hc
  · rw [if_neg (fun q => h9 ((z_le (hGσ _ _)).mpr q))] at h
    exact a_X16_restore_196 K hQ hX hK178 _ _ g2 h hGσ hS _ _ _ hH (lv_sub (l' := [(0, .ref rm), (2, .int (i32 v2))]) hl [0, 1] rfl) hc
set_option maxRecDepth 20000 in
theorem a_X16_restore_178 {Q : Sg → Unit → Prop} {X : Sg → String → Prop} (K : MC R p s m args c cX16_restore 7 RX16 D cA tys A n0 s0 2 55 []) (hQ : HQV p l e R s m args below meth c cX16_restore D cA A n0 s0 QM dm ra jx rm Q) (hX : HX p l e R s m args below meth c 7 D cA A n0 s0 QM dm ra jx rm X) {K178 : Sg → Int → Prop} (hK178 : ∀ (σ : Sg) (v2 : Int) (g2 : rng v2), K178 σ v2 → RG σ → Shp dm ra jx rm σ → JJ p l e R s m args below meth c 7 D cA A n0 s0 QM σ 178 [(0, .ref rm), (2, .int (i32 v2))] []) : ∀ (σ : Sg) (v2 : Int) (g2 : rng v2), w_X16_restore_178 ra jx rm K178 Q X σ v2 → RG σ → Shp dm ra jx rm σ → JJ p l e R s m args below meth c 7 D cA A n0 s0 QM σ 178 [(0, .ref rm), (2, .int (i32 v2))] [] := by
  intro σ v2 g2 h hGσ hS H locs ls hH hl hc
  have B := K.1
  unfold w_X16_restore_178 at h
  refine lv_iload_n B.1 B.2.1 dX16_restore_178 rfl (lv_at hl 1 rfl) ?_
  refine lv_aload_n B.1 B.2.1 dX16_restore_179 rfl (lv_at hl 0 rfl) ?_
  refine r_getp B hH hS 17 (by decide) wf_X16_356 rfl rfl dX16_restore_180 ?_
  obtain ⟨a46, ea46, ja46, h⟩ := h
  refine W.eq (g2 := F0 m 183 ls [.ref a46, .int (i32 v2)]) (by rw [ea46]; rfl) ?_
  refine n_geti B hH hS ja46 0 (by decide) (List.mem_of_getElem? (i := 0) rfl) rfl dX16_restore_183 ?_
  refine lv_icmp_ge (tgt := 355) B.1 B.2.1 dX16_restore_186 (by decide) (fun h9 => ?_) (fun h9 => ?_)
  · rw [if_pos ((i32_le (hGσ _ _) g2).mp h9)] at h
    exact a_X16_restore_355 K hQ hX _ h hGσ hS _ _ _ hH (lv_sub (l' := [(0, .ref rm)]) hl [0] rfl) hc
  · rw [if_neg (fun q => h9 ((i32_le (hGσ _ _) g2).mpr q))] at h
    exact a_X16_restore_189 K hQ hX hK178 _ _ g2 h hGσ hS _ _ _ hH (lv_sub (l' := [(0, .ref rm), (2, .int (i32 v2))]) hl [0, 1] rfl) hc
theorem al_X16_restore_178 {Q : Sg → Unit → Prop} {X : Sg → String → Prop} (K : MC R p s m args c cX16_restore 7 RX16 D cA tys A n0 s0 2 55 []) (hQ : HQV p l e R s m args below meth c cX16_restore D cA A n0 s0 QM dm ra jx rm Q) (hX : HX p l e R s m args below meth c 7 D cA A n0 s0 QM dm ra jx rm X) : ∀ (n : Nat), ∀ (σ : Sg) (v2 : Int) (g2 : rng v2), wl_X16_restore_178 ra jx rm Q X n σ v2 → RG σ → Shp dm ra jx rm σ → JJ p l e R s m args below meth c 7 D cA A n0 s0 QM σ 178 [(0, .ref rm), (2, .int (i32 v2))] [] := by
  intro n
  induction n with
  | zero => intro σ v2 g2 h; exact h.elim
  | succ n ih => exact fun σ v2 g2 h => a_X16_restore_178 K hQ hX ih σ v2 g2 h
set_option maxRecDepth 20000 in
theorem a_X16_restore_176 {Q : Sg → Unit → Prop} {X : Sg → String → Prop} (K : MC R p s m args c cX16_restore 7 RX16 D cA tys A n0 s0 2 55 []) (hQ : HQV p l e R s m args below meth c cX16_restore D cA A n0 s0 QM dm ra jx rm Q) (hX : HX p l e R s m args below meth c 7 D cA A n0 s0 QM dm ra jx rm X) : ∀ (σ : Sg), w_X16_restore_176 ra jx rm Q X σ → RG σ → Shp dm ra jx rm σ → JJ p l e R s m args below meth c 7 D cA A n0 s0 QM σ 176 [(0, .ref rm)] [] := by
  intro σ h hGσ hS H locs ls hH hl hc
  have B := K.1
  unfold w_X16_restore_176 at h
  refine lv_iconst (v := i32 0) B.1 B.2.1 dX16_restore_176 (by decide) ?_
  refine lv_istore_n (lv' := [(2, .int (i32 0)), (0, .ref rm)]) B.1 B.2.1 dX16_restore_177 rfl hl (by decide) rfl (fun ls hl => ?_)
  obtain ⟨n9, h⟩ := h
  exact al_X16_restore_178 K hQ hX n9 _ _ (by unfold rng; omega) h hGσ hS _ _ _ hH (lv_sub (l' := [(0, .ref rm), (2, .int (i32 0))]) hl [1, 0] rfl) hc
set_option maxRecDepth 20000 in
theorem a_X16_restore_170 {Q : Sg → Unit → Prop} {X : Sg → String → Prop} (K : MC R p s m args c cX16_restore 7 RX16 D cA tys A n0 s0 2 55 []) (hQ : HQV p l e R s m args below meth c cX16_restore D cA A n0 s0 QM dm ra jx rm Q) (hX : HX p l e R s m args below meth c 7 D cA A n0 s0 QM dm ra jx rm X) {K13 : Sg → Int → Int → Prop} (hK13 : ∀ (σ : Sg) (v1 : Int) (v2 : Int) (g1 : rng v1) (g2 : rng v2), K13 σ v1 v2 → RG σ → Shp dm ra jx rm σ → JJ p l e R s m args below meth c 7 D cA A n0 s0 QM σ 13 [(0, .ref rm), (1, .int (i32 v1)), (2, .int (i32 v2))] []) : ∀ (σ : Sg) (v1 : Int) (v2 : Int) (g1 : rng v1) (g2 : rng v2), w_X16_restore_170 ra jx rm K13 Q X σ v1 v2 → RG σ → Shp dm ra jx rm σ → JJ p l e R s m args below meth c 7 D cA A n0 s0 QM σ 170 [(0, .ref rm), (1, .int (i32 v1)), (2, .int (i32 v2))] [] := by
  intro σ v1 v2 g1 g2 h hGσ hS H locs ls hH hl hc
  have B := K.1
  unfold w_X16_restore_170 at h
  obtain ⟨q1, h⟩ := h
  refine lv_iinc (k := 2) (v := i32 (v2 + 1)) (lv' := [(2, .int (i32 (v2 + 1))), (0, .ref rm), (1, .int (i32 v1))]) B.1 B.2.1 dX16_restore_170 hl rfl (i32_add _ _) (by decide) rfl (fun ls hl => ?_)
  refine lv_goto (tgt := 13) B.1 B.2.1 dX16_restore_173 (by decide) ?_
  exact hK13 _ _ _ g1 q1 h hGσ hS _ _ _ hH (lv_sub (l' := [(0, .ref rm), (1, .int (i32 v1)), (2, .int (i32 (v2 + 1)))]) hl [1, 2, 0] rfl) hc
set_option maxRecDepth 20000 in
theorem a_X16_restore_142 {Q : Sg → Unit → Prop} {X : Sg → String → Prop} (K : MC R p s m args c cX16_restore 7 RX16 D cA tys A n0 s0 2 55 []) (hQ : HQV p l e R s m args below meth c cX16_restore D cA A n0 s0 QM dm ra jx rm Q) (hX : HX p l e R s m args below meth c 7 D cA A n0 s0 QM dm ra jx rm X) {K13 : Sg → Int → Int → Prop} (hK13 : ∀ (σ : Sg) (v1 : Int) (v2 : Int) (g1 : rng v1) (g2 : rng v2), K13 σ v1 v2 → RG σ → Shp dm ra jx rm σ → JJ p l e R s m args below meth c 7 D cA A n0 s0 QM σ 13 [(0, .ref rm), (1, .int (i32 v1)), (2, .int (i32 v2))] []) : ∀ (σ : Sg) (v1 : Int) (v2 : Int) (v3 : Int) (g1 : rng v1) (g2 : rng v2) (g3 : rng v3), w_X16_restore_142 ra jx rm K13 Q X σ v1 v2 v3 → RG σ → Shp dm ra jx rm σ → JJ p l e R s m args below meth c 7 D cA A n0 s0 QM σ 142 [(0, .ref rm), (1, .int (i32 v1)), (2, .int (i32 v2)), (3, .int (i32 v3))] [] := by
  intro σ v1 v2 v3 g1 g2 g3 h hGσ hS H locs ls hH hl hc
  have B := K.1
  unfold w_X16_restore_142 at h
  refine lv_aload_n B.1 B.2.1 dX16_restore_142 rfl (lv_at hl 0 rfl) ?_
  refine r_arr B hH hS 43 (kd := 100) (n := 64) (by decide) (by decide) wf_X16_425 rfl rfl dX16_restore_143 ?_
  refine lv_iload_n B.1 B.2.1 dX16_restore_146 rfl (lv_at hl 2 rfl) ?_
  refine lv_aload_n B.1 B.2.1 dX16_restore_147 rfl (lv_at hl 0 rfl) ?_
  refine r_arr B hH hS 108 (kd := 100) (n := 128) (by decide) (by decide) wf_X16_697 rfl rfl dX16_restore_148 ?_
  refine lv_iconst (v := i32 4) B.1 B.2.1 dX16_restore_151 (by decide) ?_
  refine lv_iload_n B.1 B.2.1 dX16_restore_152 rfl (lv_at hl 3 rfl) ?_
  obtain ⟨q1, h⟩ := h
  refine lv_imul B.1 B.2.1 dX16_restore_153 ?_
  rw [i32_mul]
  obtain ⟨q2, h⟩ := h
  refine x_iald B K.2.1 hH (hS.ar (k := 108) (kd := 100) (n := 128) (by decide)) (by decide) q2 dX16_restore_154 ?_
  obtain ⟨q3, h⟩ := h
  obtain ⟨σ47, eσ47⟩ : ∃ z, z = pI σ (ra 43) v2.toNat (gI σ (ra 108) (4 * v3).toNat) := ⟨_, rfl⟩
  have h := h σ47 eσ47
  refine x_iast B K.2.1 hH (hS.ar (k := 43) (kd := 100) (n := 64) (by decide)) (by decide) q3 dX16_restore_155 (fun H locs hH => ?_)
  have hH : Hd D cA A s (pI σ (ra 43) v2.toNat (gI σ (ra 108) (4 * v3).toNat)) H locs := hH
  rw [← eσ47] at hH
  have hGσ47 : RG σ47 := by rw [eσ47]; exact hGσ.pI (hGσ _ _)
  have hS : Shp dm ra jx rm σ47 := by rw [eσ47]; exact hS
  have hc : CB n0 s0 σ47 := by rw [eσ47]; exact hc
  rw [show gc σ = gc σ47 by rw [eσ47], show gs σ = gs σ47 by rw [eσ47]]
  refine lv_aload_n B.1 B.2.1 dX16_restore_156 rfl (lv_at hl 0 rfl) ?_
  refine r_arr B hH hS 40 (kd := 101) (n := 64) (by decide) (by decide) wf_X16_414 rfl rfl dX16_restore_157 ?_
  refine lv_iload_n B.1 B.2.1 dX16_restore_160 rfl (lv_at hl 2 rfl) ?_
  refine lv_aload_n B.1 B.2.1 dX16_restore_161 rfl (lv_at hl 0 rfl) ?_
  refine r_arr B hH hS 109 (kd := 101) (n := 128) (by decide) (by decide) wf_X16_700 rfl rfl dX16_restore_162 ?_
  refine lv_iconst (v := i32 4) B.1 B.2.1 dX16_restore_165 (by decide) ?_
  refine lv_iload_n B.1 B.2.1 dX16_restore_166 rfl (lv_at hl 3 rfl) ?_
  obtain ⟨q5, h⟩ := h
  refine lv_imul B.1 B.2.1 dX16_restore_167 ?_
  rw [i32_mul]
  obtain ⟨q6, h⟩ := h
  refine x_lald B K.2.1 hH (hS.ar (k := 109) (kd := 101) (n := 128) (by decide)) (by decide) q6 dX16_restore_168 ?_
  obtain ⟨q7, h⟩ := h
  obtain ⟨σ48, eσ48⟩ : ∃ z, z = pJ σ47 (ra 40) v2.toNat (gJ σ47 (ra 109) (4 * v3).toNat) := ⟨_, rfl⟩
  have h := h σ48 eσ48
  refine x_last B K.2.1 hH (hS.ar (k := 40) (kd := 101) (n := 64) (by decide)) (by decide) q7 dX16_restore_169 (fun H locs hH => ?_)
  have hH : Hd D cA A s (pJ σ47 (ra 40) v2.toNat (gJ σ47 (ra 109) (4 * v3).toNat)) H locs := hH
  rw [← eσ48] at hH
  have hGσ48 : RG σ48 := by rw [eσ48]; exact hGσ47.pJ
  have hS : Shp dm ra jx rm σ48 := by rw [eσ48]; exact hS
  have hc : CB n0 s0 σ48 := by rw [eσ48]; exact hc
  rw [show gc σ47 = gc σ48 by rw [eσ48], show gs σ47 = gs σ48 by rw [eσ48]]
  exact a_X16_restore_170 K hQ hX hK13 _ _ _ g1 g2 h hGσ48 hS _ _ _ hH (lv_sub (l' := [(0, .ref rm), (1, .int (i32 v1)), (2, .int (i32 v2))]) hl [0, 1, 2] rfl) hc
set_option maxRecDepth 20000 in
theorem a_X16_restore_135 {Q : Sg → Unit → Prop} {X : Sg → String → Prop} (K : MC R p s m args c cX16_restore 7 RX16 D cA tys A n0 s0 2 55 []) (hQ : HQV p l e R s m args below meth c cX16_restore D cA A n0 s0 QM dm ra jx rm Q) (hX : HX p l e R s m args below meth c 7 D cA A n0 s0 QM dm ra jx rm X) {K13 : Sg → Int → Int → Prop} (hK13 : ∀ (σ : Sg) (v1 : Int) (v2 : Int) (g1 : rng v1) (g2 : rng v2), K13 σ v1 v2 → RG σ → Shp dm ra jx rm σ → JJ p l e R s m args below meth c 7 D cA A n0 s0 QM σ 13 [(0, .ref rm), (1, .int (i32 v1)), (2, .int (i32 v2))] []) : ∀ (σ : Sg) (v1 : Int) (v2 : Int) (v3 : Int) (g1 : rng v1) (g2 : rng v2) (g3 : rng v3), w_X16_restore_135 ra jx rm K13 Q X σ v1 v2 v3 → RG σ → Shp dm ra jx rm σ → JJ p l e R s m args below meth c 7 D cA A n0 s0 QM σ 135 [(0, .ref rm), (1, .int (i32 v1)), (2, .int (i32 v2)), (3, .int (i32 v3))] [] := by
  intro σ v1 v2 v3 g1 g2 g3 h hGσ hS H locs ls hH hl hc
  have B := K.1
  unfold w_X16_restore_135 at h
  refine lv_aload_n B.1 B.2.1 dX16_restore_135 rfl (lv_at hl 0 rfl) ?_
  refine r_geti B hH hS 92 (by decide) wf_X16_745 rfl rfl dX16_restore_136 ?_
  refine lv_if_le (tgt := 170) B.1 B.2.1 dX16_restore_139 (by decide) (fun h9 => ?_) (fun h9 => ?_)
  · rw [if_pos ((z_le (hGσ _ _)).mp h9)] at h
    exact a_X16_restore_170 K hQ hX hK13 _ _ _ g1 g2 h hGσ hS _ _ _ hH (lv_sub (l' := [(0, .ref rm), (1, .int (i32 v1)), (2, .int (i32 v2))]) hl [0, 1, 2] rfl) hc
  · rw [if_neg (fun q => h9 ((z_le (hGσ _ _)).mpr q))] at h
    exact a_X16_restore_142 K hQ hX hK13 _ _ _ _ g1 g2 g3 h hGσ hS _ _ _ hH (lv_sub (l' := [(0, .ref rm), (1, .int (i32 v1)), (2, .int (i32 v2)), (3, .int (i32 v3))]) hl [0, 1, 2, 3] rfl) hc
set_option maxRecDepth 20000 in
theorem a_X16_restore_123 {Q : Sg → Unit → Prop} {X : Sg → String → Prop} (K : MC R p s m args c cX16_restore 7 RX16 D cA tys A n0 s0 2 55 []) (hQ : HQV p l e R s m args below meth c cX16_restore D cA A n0 s0 QM dm ra jx rm Q) (hX : HX p l e R s m args below meth c 7 D cA A n0 s0 QM dm ra jx rm X) {K13 : Sg → Int → Int → Prop} (hK13 : ∀ (σ : Sg) (v1 : Int) (v2 : Int) (g1 : rng v1) (g2 : rng v2), K13 σ v1 v2 → RG σ → Shp dm ra jx rm σ → JJ p l e R s m args below meth c 7 D cA A n0 s0 QM σ 13 [(0, .ref rm), (1, .int (i32 v1)), (2, .int (i32 v2))] []) : ∀ (σ : Sg) (v1 : Int) (v2 : Int) (v3 : Int) (g1 : rng v1) (g2 : rng v2) (g3 : rng v3), w_X16_restore_123 ra jx rm K13 Q X σ v1 v2 v3 → RG σ → Shp dm ra jx rm σ → JJ p l e R s m args below meth c 7 D cA A n0 s0 QM σ 123 [(0, .ref rm), (1, .int (i32 v1)), (2, .int (i32 v2)), (3, .int (i32 v3))] [] := by
  intro σ v1 v2 v3 g1 g2 g3 h hGσ hS H locs ls hH hl hc
  have B := K.1
  unfold w_X16_restore_123 at h
  refine lv_aload_n B.1 B.2.1 dX16_restore_123 rfl (lv_at hl 0 rfl) ?_
  refine r_getp B hH hS 17 (by decide) wf_X16_356 rfl rfl dX16_restore_124 ?_
  obtain ⟨a49, ea49, ja49, h⟩ := h
  refine W.eq (g2 := F0 m 127 ls [.ref a49]) (by rw [ea49]; rfl) ?_
  refine n_arr B hH hS ja49 2 (kd := 100) (n := 16) (by decide) (by decide) (List.mem_of_getElem? (i := 2) rfl) rfl dX16_restore_127 ?_
  refine lv_iload_n B.1 B.2.1 dX16_restore_130 rfl (lv_at hl 3 rfl) ?_
  obtain ⟨q2, h⟩ := h
  refine x_iald B K.2.1 hH (hS.ja ja49 (k := 2) (kd := 100) (n := 16) (by decide)) (by decide) q2 dX16_restore_131 ?_
  refine lv_if_ne (tgt := 170) B.1 B.2.1 dX16_restore_132 (by decide) (fun h9 => ?_) (fun h9 => ?_)
  · rw [if_pos (fun q => h9 ((z_eq (hGσ _ _)).mpr q))] at h
    exact a_X16_restore_170 K hQ hX hK13 _ _ _ g1 g2 h hGσ hS _ _ _ hH (lv_sub (l' := [(0, .ref rm), (1, .int (i32 v1)), (2, .int (i32 v2))]) hl [0, 1, 2] rfl) hc
  · rw [if_neg (fun q => q ((z_eq (hGσ _ _)).mp h9))] at h
    exact a_X16_restore_135 K hQ hX hK13 _ _ _ _ g1 g2 g3 h hGσ hS _ _ _ hH (lv_sub (l' := [(0, .ref rm), (1, .int (i32 v1)), (2, .int (i32 v2)), (3, .int (i32 v3))]) hl [0, 1, 2, 3] rfl) hc
set_option maxRecDepth 20000 in
theorem a_X16_restore_55 {Q : Sg → Unit → Prop} {X : Sg → String → Prop} (K : MC R p s m args c cX16_restore 7 RX16 D cA tys A n0 s0 2 55 []) (hQ : HQV p l e R s m args below meth c cX16_restore D cA A n0 s0 QM dm ra jx rm Q) (hX : HX p l e R s m args below meth c 7 D cA A n0 s0 QM dm ra jx rm X) {K13 : Sg → Int → Int → Prop} (hK13 : ∀ (σ : Sg) (v1 : Int) (v2 : Int) (g1 : rng v1) (g2 : rng v2), K13 σ v1 v2 → RG σ → Shp dm ra jx rm σ → JJ p l e R s m args below meth c 7 D cA A n0 s0 QM σ 13 [(0, .ref rm), (1, .int (i32 v1)), (2, .int (i32 v2))] []) : ∀ (σ : Sg) (v1 : Int) (v2 : Int) (v3 : Int) (g1 : rng v1) (g2 : rng v2) (g3 : rng v3), w_X16_restore_55 ra jx rm K13 Q X σ v1 v2 v3 → RG σ → Shp dm ra jx rm σ → JJ p l e R s m args below meth c 7 D cA A n0 s0 QM σ 55 [(0, .ref rm), (1, .int (i32 v1)), (2, .int (i32 v2)), (3, .int (i32 v3))] [] := by
  intro σ v1 v2 v3 g1 g2 g3 h hGσ hS H locs ls hH hl hc
  have B := K.1
  unfold w_X16_restore_55 at h
  refine lv_aload_n B.1 B.2.1 dX16_restore_55 rfl (lv_at hl 0 rfl) ?_
  refine r_arr B hH hS 42 (kd := 100) (n := 64) (by decide) (by decide) wf_X16_422 rfl rfl dX16_restore_56 ?_
  refine lv_iload_n B.1 B.2.1 dX16_restore_59 rfl (lv_at hl 2 rfl) ?_
  refine lv_aload_n B.1 B.2.1 dX16_restore_60 rfl (lv_at hl 0 rfl) ?_
  refine r_arr B hH hS 107 (kd := 100) (n := 128) (by decide) (by decide) wf_X16_694 rfl rfl dX16_restore_61 ?_
  refine lv_iconst (v := i32 4) B.1 B.2.1 dX16_restore_64 (by decide) ?_
  refine lv_iload_n B.1 B.2.1 dX16_restore_65 rfl (lv_at hl 3 rfl) ?_
  obtain ⟨q1, h⟩ := h
  refine lv_imul B.1 B.2.1 dX16_restore_66 ?_
  rw [i32_mul]
  refine lv_aload_n B.1 B.2.1 dX16_restore_67 rfl (lv_at hl 0 rfl) ?_
  refine r_arr B hH hS 39 (kd := 100) (n := 64) (by decide) (by decide) wf_X16_396 rfl rfl dX16_restore_68 ?_
  refine lv_iload_n B.1 B.2.1 dX16_restore_71 rfl (lv_at hl 2 rfl) ?_
  obtain ⟨q2, h⟩ := h
  refine x_iald B K.2.1 hH (hS.ar (k := 39) (kd := 100) (n := 64) (by decide)) (by decide) q2 dX16_restore_72 ?_
  obtain ⟨q3, h⟩ := h
  refine lv_iadd B.1 B.2.1 dX16_restore_73 ?_
  rw [i32_add]
  obtain ⟨q4, h⟩ := h
  refine x_iald B K.2.1 hH (hS.ar (k := 107) (kd := 100) (n := 128) (by decide)) (by decide) q4 dX16_restore_74 ?_
  obtain ⟨q5, h⟩ := h
  obtain ⟨σ50, eσ50⟩ : ∃ z, z = pI σ (ra 42) v2.toNat (gI σ (ra 107) ((4 * v3) + (gI σ (ra 39) v2.toNat)).toNat) := ⟨_, rfl⟩
  have h := h σ50 eσ50
  refine x_iast B K.2.1 hH (hS.ar (k := 42) (kd := 100) (n := 64) (by decide)) (by decide) q5 dX16_restore_75 (fun H locs hH => ?_)
  have hH : Hd D cA A s (pI σ (ra 42) v2.toNat (gI σ (ra 107) ((4 * v3) + (gI σ (ra 39) v2.toNat)).toNat)) H locs := hH
  rw [← eσ50] at hH
  have hGσ50 : RG σ50 := by rw [eσ50]; exact hGσ.pI (hGσ _ _)
  have hS : Shp dm ra jx rm σ50 := by rw [eσ50]; exact hS
  have hc : CB n0 s0 σ50 := by rw [eσ50]; exact hc
  rw [show gc σ = gc σ50 by rw [eσ50], show gs σ = gs σ50 by rw [eσ50]]
  refine lv_goto (tgt := 123) B.1 B.2.1 dX16_restore_76 (by decide) ?_
  exact a_X16_restore_123 K hQ hX hK13 _ _ _ _ g1 g2 g3 h hGσ50 hS _ _ _ hH (lv_sub (l' := [(0, .ref rm), (1, .int (i32 v1)), (2, .int (i32 v2)), (3, .int (i32 v3))]) hl [0, 1, 2, 3] rfl) hc
set_option maxRecDepth 20000 in
theorem a_X16_restore_97 {Q : Sg → Unit → Prop} {X : Sg → String → Prop} (K : MC R p s m args c cX16_restore 7 RX16 D cA tys A n0 s0 2 55 []) (hQ : HQV p l e R s m args below meth c cX16_restore D cA A n0 s0 QM dm ra jx rm Q) (hX : HX p l e R s m args below meth c 7 D cA A n0 s0 QM dm ra jx rm X) {K13 : Sg → Int → Int → Prop} (hK13 : ∀ (σ : Sg) (v1 : Int) (v2 : Int) (g1 : rng v1) (g2 : rng v2), K13 σ v1 v2 → RG σ → Shp dm ra jx rm σ → JJ p l e R s m args below meth c 7 D cA A n0 s0 QM σ 13 [(0, .ref rm), (1, .int (i32 v1)), (2, .int (i32 v2))] []) {K82 : Sg → Int → Int → Int → Int → Prop} (hK82 : ∀ (σ : Sg) (v1 : Int) (v2 : Int) (v3 : Int) (v5 : Int) (g1 : rng v1) (g2 : rng v2) (g3 : rng v3) (g5 : rng v5), K82 σ v1 v2 v3 v5 → RG σ → Shp dm ra jx rm σ → JJ p l e R s m args below meth c 7 D cA A n0 s0 QM σ 82 [(0, .ref rm), (1, .int (i32 v1)), (2, .int (i32 v2)), (3, .int (i32 v3)), (5, .int (i32 v5))] []) : ∀ (σ : Sg) (v1 : Int) (v2 : Int) (v3 : Int) (v5 : Int) (g1 : rng v1) (g2 : rng v2) (g3 : rng v3) (g5 : rng v5), w_X16_restore_97 ra jx rm K13 K82 Q X σ v1 v2 v3 v5 → RG σ → Shp dm ra jx rm σ → JJ p l e R s m args below meth c 7 D cA A n0 s0 QM σ 97 [(0, .ref rm), (1, .int (i32 v1)), (2, .int (i32 v2)), (3, .int (i32 v3)), (5, .int (i32 v5))] [] := by
  intro σ v1 v2 v3 v5 g1 g2 g3 g5 h hGσ hS H locs ls hH hl hc
  have B := K.1
  unfold w_X16_restore_97 at h
  refine lv_aload_n B.1 B.2.1 dX16_restore_97 rfl (lv_at hl 0 rfl) ?_
  refine r_arr B hH hS 42 (kd := 100) (n := 64) (by decide) (by decide) wf_X16_422 rfl rfl dX16_restore_98 ?_
  refine lv_iload_n B.1 B.2.1 dX16_restore_101 rfl (lv_at hl 2 rfl) ?_
  refine lv_dup2_11 B.1 B.2.1 dX16_restore_102 rfl rfl ?_
  obtain ⟨q1, h⟩ := h
  refine x_iald B K.2.1 hH (hS.ar (k := 42) (kd := 100) (n := 64) (by decide)) (by decide) q1 dX16_restore_103 ?_
  refine lv_aload_n B.1 B.2.1 dX16_restore_104 rfl (lv_at hl 0 rfl) ?_
  refine r_arr B hH hS 107 (kd := 100) (n := 128) (by decide) (by decide) wf_X16_694 rfl rfl dX16_restore_105 ?_
  refine lv_iconst (v := i32 4) B.1 B.2.1 dX16_restore_108 (by decide) ?_
  refine lv_iload_n B.1 B.2.1 dX16_restore_109 rfl (lv_at hl 3 rfl) ?_
  obtain ⟨q2, h⟩ := h
  refine lv_imul B.1 B.2.1 dX16_restore_110 ?_
  rw [i32_mul]
  refine lv_iload B.1 B.2.1 dX16_restore_111 (lv_at hl 4 rfl) ?_
  obtain ⟨q3, h⟩ := h
  refine lv_iadd B.1 B.2.1 dX16_restore_113 ?_
  rw [i32_add]
  obtain ⟨q4, h⟩ := h
  refine x_iald B K.2.1 hH (hS.ar (k := 107) (kd := 100) (n := 128) (by decide)) (by decide) q4 dX16_restore_114 ?_
  refine lv_iadd B.1 B.2.1 dX16_restore_115 ?_
  rw [i32_add]
  refine W.eq (g2 := F0 m 116 ls [.int (i32 (wr ((gI σ (ra 42) v2.toNat) + (gI σ (ra 107) ((4 * v3) + v5).toNat)))), .int (i32 v2), .ref (ra 42)]) (by rw [i32_wr]) ?_
  obtain ⟨q5, h⟩ := h
  obtain ⟨σ51, eσ51⟩ : ∃ z, z = pI σ (ra 42) v2.toNat (wr ((gI σ (ra 42) v2.toNat) + (gI σ (ra 107) ((4 * v3) + v5).toNat))) := ⟨_, rfl⟩
  have h := h σ51 eσ51
  refine x_iast B K.2.1 hH (hS.ar (k := 42) (kd := 100) (n := 64) (by decide)) (by decide) q5 dX16_restore_116 (fun H locs hH => ?_)
  have hH : Hd D cA A s (pI σ (ra 42) v2.toNat (wr ((gI σ (ra 42) v2.toNat) + (gI σ (ra 107) ((4 * v3) + v5).toNat)))) H locs := hH
  rw [← eσ51] at hH
  have hGσ51 : RG σ51 := by rw [eσ51]; exact hGσ.pI (rng_wr _)
  have hS : Shp dm ra jx rm σ51 := by rw [eσ51]; exact hS
  have hc : CB n0 s0 σ51 := by rw [eσ51]; exact hc
  rw [show gc σ = gc σ51 by rw [eσ51], show gs σ = gs σ51 by rw [eσ51]]
  obtain ⟨q7, h⟩ := h
  refine lv_iinc (k := 4) (v := i32 (v5 + 1)) (lv' := [(5, .int (i32 (v5 + 1))), (0, .ref rm), (1, .int (i32 v1)), (2, .int (i32 v2)), (3, .int (i32 v3))]) B.1 B.2.1 dX16_restore_117 hl rfl (i32_add _ _) (by decide) rfl (fun ls hl => ?_)
  refine lv_goto (tgt := 82) B.1 B.2.1 dX16_restore_120 (by decide) ?_
  exact hK82 _ _ _ _ _ g1 g2 g3 q7 h hGσ51 hS _ _ _ hH (lv_sub (l' := [(0, .ref rm), (1, .int (i32 v1)), (2, .int (i32 v2)), (3, .int (i32 v3)), (5, .int (i32 (v5 + 1)))]) hl [1, 2, 3, 4, 0] rfl) hc
set_option maxRecDepth 20000 in
theorem a_X16_restore_88 {Q : Sg → Unit → Prop} {X : Sg → String → Prop} (K : MC R p s m args c cX16_restore 7 RX16 D cA tys A n0 s0 2 55 []) (hQ : HQV p l e R s m args below meth c cX16_restore D cA A n0 s0 QM dm ra jx rm Q) (hX : HX p l e R s m args below meth c 7 D cA A n0 s0 QM dm ra jx rm X) {K13 : Sg → Int → Int → Prop} (hK13 : ∀ (σ : Sg) (v1 : Int) (v2 : Int) (g1 : rng v1) (g2 : rng v2), K13 σ v1 v2 → RG σ → Shp dm ra jx rm σ → JJ p l e R s m args below meth c 7 D cA A n0 s0 QM σ 13 [(0, .ref rm), (1, .int (i32 v1)), (2, .int (i32 v2))] []) {K82 : Sg → Int → Int → Int → Int → Prop} (hK82 : ∀ (σ : Sg) (v1 : Int) (v2 : Int) (v3 : Int) (v5 : Int) (g1 : rng v1) (g2 : rng v2) (g3 : rng v3) (g5 : rng v5), K82 σ v1 v2 v3 v5 → RG σ → Shp dm ra jx rm σ → JJ p l e R s m args below meth c 7 D cA A n0 s0 QM σ 82 [(0, .ref rm), (1, .int (i32 v1)), (2, .int (i32 v2)), (3, .int (i32 v3)), (5, .int (i32 v5))] []) : ∀ (σ : Sg) (v1 : Int) (v2 : Int) (v3 : Int) (v5 : Int) (g1 : rng v1) (g2 : rng v2) (g3 : rng v3) (g5 : rng v5), w_X16_restore_88 ra jx rm K13 K82 Q X σ v1 v2 v3 v5 → RG σ → Shp dm ra jx rm σ → JJ p l e R s m args below meth c 7 D cA A n0 s0 QM σ 88 [(0, .ref rm), (1, .int (i32 v1)), (2, .int (i32 v2)), (3, .int (i32 v3)), (5, .int (i32 v5))] [] := by
  intro σ v1 v2 v3 v5 g1 g2 g3 g5 h hGσ hS H locs ls hH hl hc
  have B := K.1
  unfold w_X16_restore_88 at h
  refine lv_aload_n B.1 B.2.1 dX16_restore_88 rfl (lv_at hl 0 rfl) ?_
  refine r_arr B hH hS 39 (kd := 100) (n := 64) (by decide) (by decide) wf_X16_396 rfl rfl dX16_restore_89 ?_
  refine lv_iload_n B.1 B.2.1 dX16_restore_92 rfl (lv_at hl 2 rfl) ?_
  obtain ⟨q1, h⟩ := h
  refine x_iald B K.2.1 hH (hS.ar (k := 39) (kd := 100) (n := 64) (by decide)) (by decide) q1 dX16_restore_93 ?_
  refine lv_if_ne (tgt := 123) B.1 B.2.1 dX16_restore_94 (by decide) (fun h9 => ?_) (fun h9 => ?_)
  · rw [if_pos (fun q => h9 ((z_eq (hGσ _ _)).mpr q))] at h
    exact a_X16_restore_123 K hQ hX hK13 _ _ _ _ g1 g2 g3 h hGσ hS _ _ _ hH (lv_sub (l' := [(0, .ref rm), (1, .int (i32 v1)), (2, .int (i32 v2)), (3, .int (i32 v3))]) hl [0, 1, 2, 3] rfl) hc
  · rw [if_neg (fun q => q ((z_eq (hGσ _ _)).mp h9))] at h
    exact a_X16_restore_97 K hQ hX hK13 hK82 _ _ _ _ _ g1 g2 g3 g5 h hGσ hS _ _ _ hH (lv_sub (l' := [(0, .ref rm), (1, .int (i32 v1)), (2, .int (i32 v2)), (3, .int (i32 v3)), (5, .int (i32 v5))]) hl [0, 1, 2, 3, 4] rfl) hc
set_option maxRecDepth 20000 in
theorem a_X16_restore_82 {Q : Sg → Unit → Prop} {X : Sg → String → Prop} (K : MC R p s m args c cX16_restore 7 RX16 D cA tys A n0 s0 2 55 []) (hQ : HQV p l e R s m args below meth c cX16_restore D cA A n0 s0 QM dm ra jx rm Q) (hX : HX p l e R s m args below meth c 7 D cA A n0 s0 QM dm ra jx rm X) {K13 : Sg → Int → Int → Prop} (hK13 : ∀ (σ : Sg) (v1 : Int) (v2 : Int) (g1 : rng v1) (g2 : rng v2), K13 σ v1 v2 → RG σ → Shp dm ra jx rm σ → JJ p l e R s m args below meth c 7 D cA A n0 s0 QM σ 13 [(0, .ref rm), (1, .int (i32 v1)), (2, .int (i32 v2))] []) {K82 : Sg → Int → Int → Int → Int → Prop} (hK82 : ∀ (σ : Sg) (v1 : Int) (v2 : Int) (v3 : Int) (v5 : Int) (g1 : rng v1) (g2 : rng v2) (g3 : rng v3) (g5 : rng v5), K82 σ v1 v2 v3 v5 → RG σ → Shp dm ra jx rm σ → JJ p l e R s m args below meth c 7 D cA A n0 s0 QM σ 82 [(0, .ref rm), (1, .int (i32 v1)), (2, .int (i32 v2)), (3, .int (i32 v3)), (5, .int (i32 v5))] []) : ∀ (σ : Sg) (v1 : Int) (v2 : Int) (v3 : Int) (v5 : Int) (g1 : rng v1) (g2 : rng v2) (g3 : rng v3) (g5 : rng v5), w_X16_restore_82 ra jx rm K13 K82 Q X σ v1 v2 v3 v5 → RG σ → Shp dm ra jx rm σ → JJ p l e R s m args below meth c 7 D cA A n0 s0 QM σ 82 [(0, .ref rm), (1, .int (i32 v1)), (2, .int (i32 v2)), (3, .int (i32 v3)), (5, .int (i32 v5))] [] := by
  intro σ v1 v2 v3 v5 g1 g2 g3 g5 h hGσ hS H locs ls hH hl hc
  have B := K.1
  unfold w_X16_restore_82 at h
  refine lv_iload B.1 B.2.1 dX16_restore_82 (lv_at hl 4 rfl) ?_
  refine lv_iload_n B.1 B.2.1 dX16_restore_84 rfl (lv_at hl 1 rfl) ?_
  refine lv_icmp_ge (tgt := 123) B.1 B.2.1 dX16_restore_85 (by decide) (fun h9 => ?_) (fun h9 => ?_)
  · rw [if_pos ((i32_le g1 g5).mp h9)] at h
    exact a_X16_restore_123 K hQ hX hK13 _ _ _ _ g1 g2 g3 h hGσ hS _ _ _ hH (lv_sub (l' := [(0, .ref rm), (1, .int (i32 v1)), (2, .int (i32 v2)), (3, .int (i32 v3))]) hl [0, 1, 2, 3] rfl) hc
  · rw [if_neg (fun q => h9 ((i32_le g1 g5).mpr q))] at h
    exact a_X16_restore_88 K hQ hX hK13 hK82 _ _ _ _ _ g1 g2 g3 g5 h hGσ hS _ _ _ hH (lv_sub (l' := [(0, .ref rm), (1, .int (i32 v1)), (2, .int (i32 v2)), (3, .int (i32 v3)), (5, .int (i32 v5))]) hl [0, 1, 2, 3, 4] rfl) hc
theorem al_X16_restore_82 {Q : Sg → Unit → Prop} {X : Sg → String → Prop} (K : MC R p s m args c cX16_restore 7 RX16 D cA tys A n0 s0 2 55 []) (hQ : HQV p l e R s m args below meth c cX16_restore D cA A n0 s0 QM dm ra jx rm Q) (hX : HX p l e R s m args below meth c 7 D cA A n0 s0 QM dm ra jx rm X) {K13 : Sg → Int → Int → Prop} (hK13 : ∀ (σ : Sg) (v1 : Int) (v2 : Int) (g1 : rng v1) (g2 : rng v2), K13 σ v1 v2 → RG σ → Shp dm ra jx rm σ → JJ p l e R s m args below meth c 7 D cA A n0 s0 QM σ 13 [(0, .ref rm), (1, .int (i32 v1)), (2, .int (i32 v2))] []) : ∀ (n : Nat), ∀ (σ : Sg) (v1 : Int) (v2 : Int) (v3 : Int) (v5 : Int) (g1 : rng v1) (g2 : rng v2) (g3 : rng v3) (g5 : rng v5), wl_X16_restore_82 ra jx rm K13 Q X n σ v1 v2 v3 v5 → RG σ → Shp dm ra jx rm σ → JJ p l e R s m args below meth c 7 D cA A n0 s0 QM σ 82 [(0, .ref rm), (1, .int (i32 v1)), (2, .int (i32 v2)), (3, .int (i32 v3)), (5, .int (i32 v5))] [] := by
  intro n
  induction n with
  | zero => intro σ v1 v2 v3 v5 g1 g2 g3 g5 h; exact h.elim
  | succ n ih => exact fun σ v1 v2 v3 v5 g1 g2 g3 g5 h => a_X16_restore_82 K hQ hX hK13 ih σ v1 v2 v3 v5 g1 g2 g3 g5 h
set_option maxRecDepth 20000 in
theorem a_X16_restore_79 {Q : Sg → Unit → Prop} {X : Sg → String → Prop} (K : MC R p s m args c cX16_restore 7 RX16 D cA tys A n0 s0 2 55 []) (hQ : HQV p l e R s m args below meth c cX16_restore D cA A n0 s0 QM dm ra jx rm Q) (hX : HX p l e R s m args below meth c 7 D cA A n0 s0 QM dm ra jx rm X) {K13 : Sg → Int → Int → Prop} (hK13 : ∀ (σ : Sg) (v1 : Int) (v2 : Int) (g1 : rng v1) (g2 : rng v2), K13 σ v1 v2 → RG σ → Shp dm ra jx rm σ → JJ p l e R s m args below meth c 7 D cA A n0 s0 QM σ 13 [(0, .ref rm), (1, .int (i32 v1)), (2, .int (i32 v2))] []) : ∀ (σ : Sg) (v1 : Int) (v2 : Int) (v3 : Int) (g1 : rng v1) (g2 : rng v2) (g3 : rng v3), w_X16_restore_79 ra jx rm K13 Q X σ v1 v2 v3 → RG σ → Shp dm ra jx rm σ → JJ p l e R s m args below meth c 7 D cA A n0 s0 QM σ 79 [(0, .ref rm), (1, .int (i32 v1)), (2, .int (i32 v2)), (3, .int (i32 v3))] [] := by
  intro σ v1 v2 v3 g1 g2 g3 h hGσ hS H locs ls hH hl hc
  have B := K.1
  unfold w_X16_restore_79 at h
  refine lv_iconst (v := i32 0) B.1 B.2.1 dX16_restore_79 (by decide) ?_
  refine lv_istore (lv' := [(5, .int (i32 0)), (0, .ref rm), (1, .int (i32 v1)), (2, .int (i32 v2)), (3, .int (i32 v3))]) B.1 B.2.1 dX16_restore_80 hl (by decide) rfl (fun ls hl => ?_)
  obtain ⟨n9, h⟩ := h
  exact al_X16_restore_82 K hQ hX hK13 n9 _ _ _ _ _ g1 g2 g3 (by unfold rng; omega) h hGσ hS _ _ _ hH (lv_sub (l' := [(0, .ref rm), (1, .int (i32 v1)), (2, .int (i32 v2)), (3, .int (i32 v3)), (5, .int (i32 0))]) hl [1, 2, 3, 4, 0] rfl) hc
set_option maxRecDepth 20000 in
theorem a_X16_restore_47 {Q : Sg → Unit → Prop} {X : Sg → String → Prop} (K : MC R p s m args c cX16_restore 7 RX16 D cA tys A n0 s0 2 55 []) (hQ : HQV p l e R s m args below meth c cX16_restore D cA A n0 s0 QM dm ra jx rm Q) (hX : HX p l e R s m args below meth c 7 D cA A n0 s0 QM dm ra jx rm X) {K13 : Sg → Int → Int → Prop} (hK13 : ∀ (σ : Sg) (v1 : Int) (v2 : Int) (g1 : rng v1) (g2 : rng v2), K13 σ v1 v2 → RG σ → Shp dm ra jx rm σ → JJ p l e R s m args below meth c 7 D cA A n0 s0 QM σ 13 [(0, .ref rm), (1, .int (i32 v1)), (2, .int (i32 v2))] []) : ∀ (σ : Sg) (v1 : Int) (v2 : Int) (v3 : Int) (g1 : rng v1) (g2 : rng v2) (g3 : rng v3), w_X16_restore_47 ra jx rm K13 Q X σ v1 v2 v3 → RG σ → Shp dm ra jx rm σ → JJ p l e R s m args below meth c 7 D cA A n0 s0 QM σ 47 [(0, .ref rm), (1, .int (i32 v1)), (2, .int (i32 v2)), (3, .int (i32 v3))] [] := by
  intro σ v1 v2 v3 g1 g2 g3 h hGσ hS H locs ls hH hl hc
  have B := K.1
  unfold w_X16_restore_47 at h
  refine lv_iload_n B.1 B.2.1 dX16_restore_47 rfl (lv_at hl 1 rfl) ?_
  refine lv_aload_n B.1 B.2.1 dX16_restore_48 rfl (lv_at hl 0 rfl) ?_
  refine r_geti B hH hS 33 (by decide) wf_X16_365 rfl rfl dX16_restore_49 ?_
  refine lv_icmp_ne (tgt := 79) B.1 B.2.1 dX16_restore_52 (by decide) (fun h9 => ?_) (fun h9 => ?_)
  · rw [if_pos (fun q => h9 ((i32_eq g1 (hGσ _ _)).mpr q))] at h
    exact a_X16_restore_79 K hQ hX hK13 _ _ _ _ g1 g2 g3 h hGσ hS _ _ _ hH (lv_sub (l' := [(0, .ref rm), (1, .int (i32 v1)), (2, .int (i32 v2)), (3, .int (i32 v3))]) hl [0, 1, 2, 3] rfl) hc
  · rw [if_neg (fun q => q ((i32_eq g1 (hGσ _ _)).mp h9))] at h
    exact a_X16_restore_55 K hQ hX hK13 _ _ _ _ g1 g2 g3 h hGσ hS _ _ _ hH (lv_sub (l' := [(0, .ref rm), (1, .int (i32 v1)), (2, .int (i32 v2)), (3, .int (i32 v3))]) hl [0, 1, 2, 3] rfl) hc
set_option maxRecDepth 20000 in
theorem a_X16_restore_42 {Q : Sg → Unit → Prop} {X : Sg → String → Prop} (K : MC R p s m args c cX16_restore 7 RX16 D cA tys A n0 s0 2 55 []) (hQ : HQV p l e R s m args below meth c cX16_restore D cA A n0 s0 QM dm ra jx rm Q) (hX : HX p l e R s m args below meth c 7 D cA A n0 s0 QM dm ra jx rm X) {K13 : Sg → Int → Int → Prop} (hK13 : ∀ (σ : Sg) (v1 : Int) (v2 : Int) (g1 : rng v1) (g2 : rng v2), K13 σ v1 v2 → RG σ → Shp dm ra jx rm σ → JJ p l e R s m args below meth c 7 D cA A n0 s0 QM σ 13 [(0, .ref rm), (1, .int (i32 v1)), (2, .int (i32 v2))] []) : ∀ (σ : Sg) (v1 : Int) (v2 : Int) (v3 : Int) (v4 : Int) (g1 : rng v1) (g2 : rng v2) (g3 : rng v3) (g4 : rng v4), w_X16_restore_42 ra jx rm K13 Q X σ v1 v2 v3 v4 → RG σ → Shp dm ra jx rm σ → JJ p l e R s m args below meth c 7 D cA A n0 s0 QM σ 42 [(0, .ref rm), (1, .int (i32 v1)), (2, .int (i32 v2)), (3, .int (i32 v3)), (4, .int (i32 v4))] [] := by
  intro σ v1 v2 v3 v4 g1 g2 g3 g4 h hGσ hS H locs ls hH hl hc
  have B := K.1
  unfold w_X16_restore_42 at h
  refine lv_iload B.1 B.2.1 dX16_restore_42 (lv_at hl 4 rfl) ?_
  refine lv_if_ne (tgt := 55) B.1 B.2.1 dX16_restore_44 (by decide) (fun h9 => ?_) (fun h9 => ?_)
  · rw [if_pos (fun q => h9 ((z_eq g4).mpr q))] at h
    exact a_X16_restore_55 K hQ hX hK13 _ _ _ _ g1 g2 g3 h hGσ hS _ _ _ hH (lv_sub (l' := [(0, .ref rm), (1, .int (i32 v1)), (2, .int (i32 v2)), (3, .int (i32 v3))]) hl [0, 1, 2, 3] rfl) hc
  · rw [if_neg (fun q => q ((z_eq g4).mp h9))] at h
    exact a_X16_restore_47 K hQ hX hK13 _ _ _ _ g1 g2 g3 h hGσ hS _ _ _ hH (lv_sub (l' := [(0, .ref rm), (1, .int (i32 v1)), (2, .int (i32 v2)), (3, .int (i32 v3))]) hl [0, 1, 2, 3] rfl) hc
set_option maxRecDepth 20000 in
theorem a_X16_restore_21 {Q : Sg → Unit → Prop} {X : Sg → String → Prop} (K : MC R p s m args c cX16_restore 7 RX16 D cA tys A n0 s0 2 55 []) (hQ : HQV p l e R s m args below meth c cX16_restore D cA A n0 s0 QM dm ra jx rm Q) (hX : HX p l e R s m args below meth c 7 D cA A n0 s0 QM dm ra jx rm X) {K13 : Sg → Int → Int → Prop} (hK13 : ∀ (σ : Sg) (v1 : Int) (v2 : Int) (g1 : rng v1) (g2 : rng v2), K13 σ v1 v2 → RG σ → Shp dm ra jx rm σ → JJ p l e R s m args below meth c 7 D cA A n0 s0 QM σ 13 [(0, .ref rm), (1, .int (i32 v1)), (2, .int (i32 v2))] []) : ∀ (σ : Sg) (v1 : Int) (v2 : Int) (g1 : rng v1) (g2 : rng v2), w_X16_restore_21 ra jx rm K13 Q X σ v1 v2 → RG σ → Shp dm ra jx rm σ → JJ p l e R s m args below meth c 7 D cA A n0 s0 QM σ 21 [(0, .ref rm), (1, .int (i32 v1)), (2, .int (i32 v2))] [] := by
  intro σ v1 v2 g1 g2 h hGσ hS H locs ls hH hl hc
  have B := K.1
  unfold w_X16_restore_21 at h
  refine lv_aload_n B.1 B.2.1 dX16_restore_21 rfl (lv_at hl 0 rfl) ?_
  refine r_arr B hH hS 38 (kd := 100) (n := 64) (by decide) (by decide) wf_X16_380 rfl rfl dX16_restore_22 ?_
  refine lv_iload_n B.1 B.2.1 dX16_restore_25 rfl (lv_at hl 2 rfl) ?_
  obtain ⟨q1, h⟩ := h
  refine x_iald B K.2.1 hH (hS.ar (k := 38) (kd := 100) (n := 64) (by decide)) (by decide) q1 dX16_restore_26 ?_
  refine lv_istore_n (lv' := [(3, .int (i32 (gI σ (ra 38) v2.toNat))), (0, .ref rm), (1, .int (i32 v1)), (2, .int (i32 v2))]) B.1 B.2.1 dX16_restore_27 rfl hl (by decide) rfl (fun ls hl => ?_)
  refine lv_aload_n B.1 B.2.1 dX16_restore_28 rfl (lv_at hl 1 rfl) ?_
  refine lv_iload_n B.1 B.2.1 dX16_restore_29 rfl (lv_at hl 0 rfl) ?_
  refine c_V B hH hl hc K.2.2.1 (C := RX16) (T := TX16) (N := 123) (ci := 16) (As := [.int (i32 (gI σ (ra 38) v2.toNat))]) (ok_X16_isSingle K.2.1 σ (gI σ (ra 38) v2.toNat) (hGσ _ _) hGσ hS h) wc_X16_361 1 hd_X16_isSingle ⟨Nat.le_trans (Nat.le_of_ble_eq_true rfl) K.2.2.2.1, Nat.le_trans (Nat.le_of_ble_eq_true rfl) K.2.2.2.2.1⟩ hS.1.1 hS.1.2 (by decide) rfl rfl (rest := []) rfl (Nat.le_of_ble_eq_true rfl) dX16_restore_30 (fun σ52 w hq => ?_) (fun σ9 E9 hx9 => hX σ9 E9 _ _ _ (tb_out K.2.2.2.2.2 rfl) hx9.1 hx9.2.1 hx9.2.2)
  obtain ⟨r53, rfl, ⟨gr53, gzr53⟩, h, hGσ52, hS⟩ := hq
  intro H locs ls hH hl hc
  refine W.eq (g2 := F0 m 33 ls [.int (i32 r53)]) (rfl) ?_
  try dsimp only at h
  refine lv_istore (lv' := [(4, .int (i32 r53)), (3, .int (i32 (gI σ (ra 38) v2.toNat))), (0, .ref rm), (1, .int (i32 v1)), (2, .int (i32 v2))]) B.1 B.2.1 dX16_restore_33 hl (by decide) rfl (fun ls hl => ?_)
  refine lv_aload_n B.1 B.2.1 dX16_restore_35 rfl (lv_at hl 2 rfl) ?_
  refine r_geti B hH hS 92 (by decide) wf_X16_745 rfl rfl dX16_restore_36 ?_
  refine lv_if_le (tgt := 123) B.1 B.2.1 dX16_restore_39 (by decide) (fun h9 => ?_) (fun h9 => ?_)
  · rw [if_pos ((z_le (hGσ52 _ _)).mp h9)] at h
    exact a_X16_restore_123 K hQ hX hK13 _ _ _ _ g1 g2 (hGσ _ _) h hGσ52 hS _ _ _ hH (lv_sub (l' := [(0, .ref rm), (1, .int (i32 v1)), (2, .int (i32 v2)), (3, .int (i32 (gI σ (ra 38) v2.toNat)))]) hl [2, 3, 4, 1] rfl) hc
  · rw [if_neg (fun q => h9 ((z_le (hGσ52 _ _)).mpr q))] at h
    exact a_X16_restore_42 K hQ hX hK13 _ _ _ _ _ g1 g2 (hGσ _ _) gr53 h hGσ52 hS _ _ _ hH (lv_sub (l' := [(0, .ref rm), (1, .int (i32 v1)), (2, .int (i32 v2)), (3, .int (i32 (gI σ (ra 38) v2.toNat))), (4, .int (i32 r53))]) hl [2, 3, 4, 1, 0] rfl) hc
set_option maxRecDepth 20000 in
theorem a_X16_restore_13 {Q : Sg → Unit → Prop} {X : Sg → String → Prop} (K : MC R p s m args c cX16_restore 7 RX16 D cA tys A n0 s0 2 55 []) (hQ : HQV p l e R s m args below meth c cX16_restore D cA A n0 s0 QM dm ra jx rm Q) (hX : HX p l e R s m args below meth c 7 D cA A n0 s0 QM dm ra jx rm X) {K13 : Sg → Int → Int → Prop} (hK13 : ∀ (σ : Sg) (v1 : Int) (v2 : Int) (g1 : rng v1) (g2 : rng v2), K13 σ v1 v2 → RG σ → Shp dm ra jx rm σ → JJ p l e R s m args below meth c 7 D cA A n0 s0 QM σ 13 [(0, .ref rm), (1, .int (i32 v1)), (2, .int (i32 v2))] []) : ∀ (σ : Sg) (v1 : Int) (v2 : Int) (g1 : rng v1) (g2 : rng v2), w_X16_restore_13 ra jx rm K13 Q X σ v1 v2 → RG σ → Shp dm ra jx rm σ → JJ p l e R s m args below meth c 7 D cA A n0 s0 QM σ 13 [(0, .ref rm), (1, .int (i32 v1)), (2, .int (i32 v2))] [] := by
  intro σ v1 v2 g1 g2 h hGσ hS H locs ls hH hl hc
  have B := K.1
  unfold w_X16_restore_13 at h
  refine lv_iload_n B.1 B.2.1 dX16_restore_13 rfl (lv_at hl 2 rfl) ?_
  refine lv_aload_n B.1 B.2.1 dX16_restore_14 rfl (lv_at hl 0 rfl) ?_
  refine r_geti B hH hS 36 (by decide) wf_X16_399 rfl rfl dX16_restore_15 ?_
  refine lv_icmp_ge (tgt := 176) B.1 B.2.1 dX16_restore_18 (by decide) (fun h9 => ?_) (fun h9 => ?_)
  · rw [if_pos ((i32_le (hGσ _ _) g2).mp h9)] at h
    exact a_X16_restore_176 K hQ hX _ h hGσ hS _ _ _ hH (lv_sub (l' := [(0, .ref rm)]) hl [0] rfl) hc
  · rw [if_neg (fun q => h9 ((i32_le (hGσ _ _) g2).mpr q))] at h
    exact a_X16_restore_21 K hQ hX hK13 _ _ _ g1 g2 h hGσ hS _ _ _ hH (lv_sub (l' := [(0, .ref rm), (1, .int (i32 v1)), (2, .int (i32 v2))]) hl [0, 1, 2] rfl) hc
theorem al_X16_restore_13 {Q : Sg → Unit → Prop} {X : Sg → String → Prop} (K : MC R p s m args c cX16_restore 7 RX16 D cA tys A n0 s0 2 55 []) (hQ : HQV p l e R s m args below meth c cX16_restore D cA A n0 s0 QM dm ra jx rm Q) (hX : HX p l e R s m args below meth c 7 D cA A n0 s0 QM dm ra jx rm X) : ∀ (n : Nat), ∀ (σ : Sg) (v1 : Int) (v2 : Int) (g1 : rng v1) (g2 : rng v2), wl_X16_restore_13 ra jx rm Q X n σ v1 v2 → RG σ → Shp dm ra jx rm σ → JJ p l e R s m args below meth c 7 D cA A n0 s0 QM σ 13 [(0, .ref rm), (1, .int (i32 v1)), (2, .int (i32 v2))] [] := by
  intro n
  induction n with
  | zero => intro σ v1 v2 g1 g2 h; exact h.elim
  | succ n ih => exact fun σ v1 v2 g1 g2 h => a_X16_restore_13 K hQ hX ih σ v1 v2 g1 g2 h
set_option maxRecDepth 20000 in
theorem a_X16_restore_0 {Q : Sg → Unit → Prop} {X : Sg → String → Prop} (K : MC R p s m args c cX16_restore 7 RX16 D cA tys A n0 s0 2 55 []) (hQ : HQV p l e R s m args below meth c cX16_restore D cA A n0 s0 QM dm ra jx rm Q) (hX : HX p l e R s m args below meth c 7 D cA A n0 s0 QM dm ra jx rm X) : ∀ (σ : Sg), w_X16_restore_0 ra jx rm Q X σ → RG σ → Shp dm ra jx rm σ → JJ p l e R s m args below meth c 7 D cA A n0 s0 QM σ 0 [(0, .ref rm)] [] := by
  intro σ h hGσ hS H locs ls hH hl hc
  have B := K.1
  unfold w_X16_restore_0 at h
  refine lv_aload_n B.1 B.2.1 dX16_restore_0 rfl (lv_at hl 0 rfl) ?_
  refine c_V B hH hl hc K.2.2.1 (C := RX16) (T := TX16) (N := 123) (ci := 16) (As := []) (ok_X16_noRecords K.2.1 σ hGσ hS h) wc_X16_834 0 hd_X16_noRecords ⟨Nat.le_trans (Nat.le_of_ble_eq_true rfl) K.2.2.2.1, Nat.le_trans (Nat.le_of_ble_eq_true rfl) K.2.2.2.2.1⟩ hS.1.1 hS.1.2 (by decide) rfl rfl (rest := []) rfl (Nat.le_of_ble_eq_true rfl) dX16_restore_1 (fun σ54 w hq => ?_) (fun σ9 E9 hx9 => hX σ9 E9 _ _ _ (tb_out K.2.2.2.2.2 rfl) hx9.1 hx9.2.1 hx9.2.2)
  obtain ⟨rfl, h, hGσ54, hS⟩ := hq
  intro H locs ls hH hl hc
  refine W.eq (g2 := F0 m 4 ls []) (rfl) ?_
  try dsimp only at h
  refine lv_aload_n B.1 B.2.1 dX16_restore_4 rfl (lv_at hl 0 rfl) ?_
  refine r_arr B hH hS 97 (kd := 100) (n := 2) (by decide) (by decide) wf_X16_748 rfl rfl dX16_restore_5 ?_
  refine lv_iconst (v := i32 0) B.1 B.2.1 dX16_restore_8 (by decide) ?_
  refine x_iald B K.2.1 hH (hS.ar (k := 97) (kd := 100) (n := 2) (by decide)) (by decide) (by decide) dX16_restore_9 ?_
  refine W.eq (g2 := F0 m 10 ls [.int (i32 (gI σ54 (ra 97) 0))]) (rfl) ?_
  refine lv_istore_n (lv' := [(1, .int (i32 (gI σ54 (ra 97) 0))), (0, .ref rm)]) B.1 B.2.1 dX16_restore_10 rfl hl (by decide) rfl (fun ls hl => ?_)
  refine lv_iconst (v := i32 0) B.1 B.2.1 dX16_restore_11 (by decide) ?_
  refine lv_istore_n (lv' := [(2, .int (i32 0)), (1, .int (i32 (gI σ54 (ra 97) 0))), (0, .ref rm)]) B.1 B.2.1 dX16_restore_12 rfl hl (by decide) rfl (fun ls hl => ?_)
  obtain ⟨n9, h⟩ := h
  exact al_X16_restore_13 K hQ hX n9 _ _ _ (hGσ54 _ _) (by unfold rng; omega) h hGσ54 hS _ _ _ hH (lv_sub (l' := [(0, .ref rm), (1, .int (i32 (gI σ54 (ra 97) 0))), (2, .int (i32 0))]) hl [2, 1, 0] rfl) hc
theorem ok_X16_restore (hT : Tys cA tys) {Q : Sg → Unit → Prop} {X : Sg → String → Prop} (σ : Sg) (hG : RG σ) (hS : Shp dm ra jx rm σ) (h : wp_X16_restore ra jx rm σ Q X) : Ok l D cA tys A yX16_restore (.code yX16_restore cX16_restore 7 none) 2 55 [.ref rm] σ (QnV dm ra jx rm Q) (QxR dm ra jx rm X) := by
  unfold wp_X16_restore at h
  exact ok_V (plainFor_of_name (by decide)) (by exact Nat.le_of_ble_eq_true rfl) hT (fun p e R s m args below meth c K hQ hX H locs ls hH hl hc => a_X16_restore_0 K hQ hX σ h hG hS H locs ls hH (lv_sub (l' := [(0, .ref rm)]) hl [0] rfl) hc)
theorem dX16_beginAgain_0 : decode cX16_beginAgain 0 = .ok (.aload_n 0, 1) := by decide +kernel
theorem dX16_beginAgain_1 : decode cX16_beginAgain 1 = .ok (.iload_n 1, 1) := by decide +kernel
theorem dX16_beginAgain_2 : decode cX16_beginAgain 2 = .ok (.putfield 365, 3) := by decide +kernel
theorem dX16_beginAgain_5 : decode cX16_beginAgain 5 = .ok (.aload_n 0, 1) := by decide +kernel
theorem dX16_beginAgain_6 : decode cX16_beginAgain 6 = .ok (.iconst 0, 1) := by decide +kernel
theorem dX16_beginAgain_7 : decode cX16_beginAgain 7 = .ok (.putfield 742, 3) := by decide +kernel
theorem dX16_beginAgain_10 : decode cX16_beginAgain 10 = .ok (.aload_n 0, 1) := by decide +kernel
theorem dX16_beginAgain_11 : decode cX16_beginAgain 11 = .ok (.iconst 0, 1) := by decide +kernel
theorem dX16_beginAgain_12 : decode cX16_beginAgain 12 = .ok (.putfield 831, 3) := by decide +kernel
theorem dX16_beginAgain_15 : decode cX16_beginAgain 15 = .ok (.aload_n 0, 1) := by decide +kernel
theorem dX16_beginAgain_16 : decode cX16_beginAgain 16 = .ok (.dup, 1) := by decide +kernel
theorem dX16_beginAgain_17 : decode cX16_beginAgain 17 = .ok (.getfield 837, 3) := by decide +kernel
theorem dX16_beginAgain_20 : decode cX16_beginAgain 20 = .ok (.iconst 1, 1) := by decide +kernel
theorem dX16_beginAgain_21 : decode cX16_beginAgain 21 = .ok (.iadd, 1) := by decide +kernel
theorem dX16_beginAgain_22 : decode cX16_beginAgain 22 = .ok (.putfield 837, 3) := by decide +kernel
theorem dX16_beginAgain_25 : decode cX16_beginAgain 25 = .ok (.aload_n 0, 1) := by decide +kernel
theorem dX16_beginAgain_26 : decode cX16_beginAgain 26 = .ok (.invokevirtual 840, 3) := by decide +kernel
theorem dX16_beginAgain_29 : decode cX16_beginAgain 29 = .ok (.aload_n 0, 1) := by decide +kernel
theorem dX16_beginAgain_30 : decode cX16_beginAgain 30 = .ok (.invokevirtual 843, 3) := by decide +kernel
theorem dX16_beginAgain_33 : decode cX16_beginAgain 33 = .ok (.iconst 0, 1) := by decide +kernel
theorem dX16_beginAgain_34 : decode cX16_beginAgain 34 = .ok (.istore_n 2, 1) := by decide +kernel
theorem dX16_beginAgain_35 : decode cX16_beginAgain 35 = .ok (.iload_n 2, 1) := by decide +kernel
theorem dX16_beginAgain_36 : decode cX16_beginAgain 36 = .ok (.aload_n 0, 1) := by decide +kernel
theorem dX16_beginAgain_37 : decode cX16_beginAgain 37 = .ok (.getfield 356, 3) := by decide +kernel
theorem dX16_beginAgain_40 : decode cX16_beginAgain 40 = .ok (.getfield 321, 3) := by decide +kernel
theorem dX16_beginAgain_43 : decode cX16_beginAgain 43 = .ok (.if_icmp .ge 25, 3) := by decide +kernel
theorem dX16_beginAgain_46 : decode cX16_beginAgain 46 = .ok (.aload_n 0, 1) := by decide +kernel
theorem dX16_beginAgain_47 : decode cX16_beginAgain 47 = .ok (.iconst 3, 1) := by decide +kernel
theorem dX16_beginAgain_48 : decode cX16_beginAgain 48 = .ok (.iload_n 2, 1) := by decide +kernel
theorem dX16_beginAgain_49 : decode cX16_beginAgain 49 = .ok (.imul, 1) := by decide +kernel
theorem dX16_beginAgain_50 : decode cX16_beginAgain 50 = .ok (.invokevirtual 846, 3) := by decide +kernel
theorem dX16_beginAgain_53 : decode cX16_beginAgain 53 = .ok (.aload_n 0, 1) := by decide +kernel
theorem dX16_beginAgain_54 : decode cX16_beginAgain 54 = .ok (.iconst 3, 1) := by decide +kernel
theorem dX16_beginAgain_55 : decode cX16_beginAgain 55 = .ok (.iload_n 2, 1) := by decide +kernel
theorem dX16_beginAgain_56 : decode cX16_beginAgain 56 = .ok (.imul, 1) := by decide +kernel
theorem dX16_beginAgain_57 : decode cX16_beginAgain 57 = .ok (.iconst 1, 1) := by decide +kernel
theorem dX16_beginAgain_58 : decode cX16_beginAgain 58 = .ok (.iadd, 1) := by decide +kernel
theorem dX16_beginAgain_59 : decode cX16_beginAgain 59 = .ok (.invokevirtual 846, 3) := by decide +kernel
theorem dX16_beginAgain_62 : decode cX16_beginAgain 62 = .ok (.iinc 2 1, 3) := by decide +kernel
theorem dX16_beginAgain_65 : decode cX16_beginAgain 65 = .ok (.goto (-30), 3) := by decide +kernel
theorem dX16_beginAgain_68 : decode cX16_beginAgain 68 = .ok (.aload_n 0, 1) := by decide +kernel
theorem dX16_beginAgain_69 : decode cX16_beginAgain 69 = .ok (.invokevirtual 849, 3) := by decide +kernel
theorem dX16_beginAgain_72 : decode cX16_beginAgain 72 = .ok (.aload_n 0, 1) := by decide +kernel
theorem dX16_beginAgain_73 : decode cX16_beginAgain 73 = .ok (.getfield 745, 3) := by decide +kernel
theorem dX16_beginAgain_76 : decode cX16_beginAgain 76 = .ok (.ireturn, 1) := by decide +kernel
set_option maxRecDepth 20000 in
theorem a_X16_beginAgain_68 {Q : Sg → Int → Prop} {X : Sg → String → Prop} (K : MC R p s m args c cX16_beginAgain 3 RX16 D cA tys A n0 s0 4 95 []) (hQ : HQI p l e R s m args below meth c cX16_beginAgain D cA A n0 s0 QM dm ra jx rm Q) (hX : HX p l e R s m args below meth c 3 D cA A n0 s0 QM dm ra jx rm X) : ∀ (σ : Sg), w_X16_beginAgain_68 ra jx rm Q X σ → RG σ → Shp dm ra jx rm σ → JJ p l e R s m args below meth c 3 D cA A n0 s0 QM σ 68 [(0, .ref rm)] [] := by
  intro σ h hGσ hS H locs ls hH hl hc
  have B := K.1
  unfold w_X16_beginAgain_68 at h
  refine lv_aload_n B.1 B.2.1 dX16_beginAgain_68 rfl (lv_at hl 0 rfl) ?_
  refine c_V B hH hl hc K.2.2.1 (C := RX16) (T := TX16) (N := 123) (ci := 16) (As := []) (ok_X16_restore K.2.1 σ hGσ hS h) wc_X16_849 0 hd_X16_restore ⟨Nat.le_trans (Nat.le_of_ble_eq_true rfl) K.2.2.2.1, Nat.le_trans (Nat.le_of_ble_eq_true rfl) K.2.2.2.2.1⟩ hS.1.1 hS.1.2 (by decide) rfl rfl (rest := []) rfl (Nat.le_of_ble_eq_true rfl) dX16_beginAgain_69 (fun σ21 w hq => ?_) (fun σ9 E9 hx9 => hX σ9 E9 _ _ _ (tb_out K.2.2.2.2.2 rfl) hx9.1 hx9.2.1 hx9.2.2)
  obtain ⟨rfl, h, hGσ21, hS⟩ := hq
  intro H locs ls hH hl hc
  refine W.eq (g2 := F0 m 72 ls []) (rfl) ?_
  try dsimp only at h
  refine lv_aload_n B.1 B.2.1 dX16_beginAgain_72 rfl (lv_at hl 0 rfl) ?_
  refine r_geti B hH hS 92 (by decide) wf_X16_745 rfl rfl dX16_beginAgain_73 ?_
  exact hQ _ _ _ _ _ _ (hGσ21 _ _) dX16_beginAgain_76 hH hc h hGσ21 hS
set_option maxRecDepth 20000 in
theorem a_X16_beginAgain_46 {Q : Sg → Int → Prop} {X : Sg → String → Prop} (K : MC R p s m args c cX16_beginAgain 3 RX16 D cA tys A n0 s0 4 95 []) (hQ : HQI p l e R s m args below meth c cX16_beginAgain D cA A n0 s0 QM dm ra jx rm Q) (hX : HX p l e R s m args below meth c 3 D cA A n0 s0 QM dm ra jx rm X) {K35 : Sg → Int → Prop} (hK35 : ∀ (σ : Sg) (v2 : Int) (g2 : rng v2), K35 σ v2 → RG σ → Shp dm ra jx rm σ → JJ p l e R s m args below meth c 3 D cA A n0 s0 QM σ 35 [(0, .ref rm), (2, .int (i32 v2))] []) : ∀ (σ : Sg) (v2 : Int) (g2 : rng v2), w_X16_beginAgain_46 ra jx rm K35 Q X σ v2 → RG σ → Shp dm ra jx rm σ → JJ p l e R s m args below meth c 3 D cA A n0 s0 QM σ 46 [(0, .ref rm), (2, .int (i32 v2))] [] := by
  intro σ v2 g2 h hGσ hS H locs ls hH hl hc
  have B := K.1
  unfold w_X16_beginAgain_46 at h
  refine lv_aload_n B.1 B.2.1 dX16_beginAgain_46 rfl (lv_at hl 0 rfl) ?_
  refine lv_iconst (v := i32 3) B.1 B.2.1 dX16_beginAgain_47 (by decide) ?_
  refine lv_iload_n B.1 B.2.1 dX16_beginAgain_48 rfl (lv_at hl 1 rfl) ?_
  obtain ⟨q1, h⟩ := h
  refine lv_imul B.1 B.2.1 dX16_beginAgain_49 ?_
  rw [i32_mul]
  refine c_V B hH hl hc K.2.2.1 (C := RX16) (T := TX16) (N := 123) (ci := 16) (As := [.int (i32 (3 * v2))]) (ok_X16_letGo K.2.1 σ (3 * v2) q1 hGσ hS h) wc_X16_846 1 hd_X16_letGo ⟨Nat.le_trans (Nat.le_of_ble_eq_true rfl) K.2.2.2.1, Nat.le_trans (Nat.le_of_ble_eq_true rfl) K.2.2.2.2.1⟩ hS.1.1 hS.1.2 (by decide) rfl rfl (rest := []) rfl (Nat.le_of_ble_eq_true rfl) dX16_beginAgain_50 (fun σ22 w hq => ?_) (fun σ9 E9 hx9 => hX σ9 E9 _ _ _ (tb_out K.2.2.2.2.2 rfl) hx9.1 hx9.2.1 hx9.2.2)
  obtain ⟨rfl, h, hGσ22, hS⟩ := hq
  intro H locs ls hH hl hc
  refine W.eq (g2 := F0 m 53 ls []) (rfl) ?_
  try dsimp only at h
  refine lv_aload_n B.1 B.2.1 dX16_beginAgain_53 rfl (lv_at hl 0 rfl) ?_
  refine lv_iconst (v := i32 3) B.1 B.2.1 dX16_beginAgain_54 (by decide) ?_
  refine lv_iload_n B.1 B.2.1 dX16_beginAgain_55 rfl (lv_at hl 1 rfl) ?_
  obtain ⟨q2, h⟩ := h
  refine lv_imul B.1 B.2.1 dX16_beginAgain_56 ?_
  rw [i32_mul]
  refine lv_iconst (v := i32 1) B.1 B.2.1 dX16_beginAgain_57 (by decide) ?_
  obtain ⟨q3, h⟩ := h
  refine lv_iadd B.1 B.2.1 dX16_beginAgain_58 ?_
  rw [i32_add]
  refine c_V B hH hl hc K.2.2.1 (C := RX16) (T := TX16) (N := 123) (ci := 16) (As := [.int (i32 ((3 * v2) + 1))]) (ok_X16_letGo K.2.1 σ22 ((3 * v2) + 1) q3 hGσ22 hS h) wc_X16_846 1 hd_X16_letGo ⟨Nat.le_trans (Nat.le_of_ble_eq_true rfl) K.2.2.2.1, Nat.le_trans (Nat.le_of_ble_eq_true rfl) K.2.2.2.2.1⟩ hS.1.1 hS.1.2 (by decide) rfl rfl (rest := []) rfl (Nat.le_of_ble_eq_true rfl) dX16_beginAgain_59 (fun σ23 w hq => ?_) (fun σ9 E9 hx9 => hX σ9 E9 _ _ _ (tb_out K.2.2.2.2.2 rfl) hx9.1 hx9.2.1 hx9.2.2)
  obtain ⟨rfl, h, hGσ23, hS⟩ := hq
  intro H locs ls hH hl hc
  refine W.eq (g2 := F0 m 62 ls []) (rfl) ?_
  try dsimp only at h
  obtain ⟨q4, h⟩ := h
  refine lv_iinc (k := 1) (v := i32 (v2 + 1)) (lv' := [(2, .int (i32 (v2 + 1))), (0, .ref rm)]) B.1 B.2.1 dX16_beginAgain_62 hl rfl (i32_add _ _) (by decide) rfl (fun ls hl => ?_)
  refine lv_goto (tgt := 35) B.1 B.2.1 dX16_beginAgain_65 (by decide) ?_
  exact hK35 _ _ q4 h hGσ23 hS _ _ _ hH (lv_sub (l' := [(0, .ref rm), (2, .int (i32 (v2 + 1)))]) hl [1, 0] rfl) hc
set_option maxRecDepth 20000 in
theorem a_X16_beginAgain_35 {Q : Sg → Int → Prop} {X : Sg → String → Prop} (K : MC R p s m args c cX16_beginAgain 3 RX16 D cA tys A n0 s0 4 95 []) (hQ : HQI p l e R s m args below meth c cX16_beginAgain D cA A n0 s0 QM dm ra jx rm Q) (hX : HX p l e R s m args below meth c 3 D cA A n0 s0 QM dm ra jx rm X) {K35 : Sg → Int → Prop} (hK35 : ∀ (σ : Sg) (v2 : Int) (g2 : rng v2), K35 σ v2 → RG σ → Shp dm ra jx rm σ → JJ p l e R s m args below meth c 3 D cA A n0 s0 QM σ 35 [(0, .ref rm), (2, .int (i32 v2))] []) : ∀ (σ : Sg) (v2 : Int) (g2 : rng v2), w_X16_beginAgain_35 ra jx rm K35 Q X σ v2 → RG σ → Shp dm ra jx rm σ → JJ p l e R s m args below meth c 3 D cA A n0 s0 QM σ 35 [(0, .ref rm), (2, .int (i32 v2))] [] := by
  intro σ v2 g2 h hGσ hS H locs ls hH hl hc
  have B := K.1
  unfold w_X16_beginAgain_35 at h
  refine lv_iload_n B.1 B.2.1 dX16_beginAgain_35 rfl (lv_at hl 1 rfl) ?_
  refine lv_aload_n B.1 B.2.1 dX16_beginAgain_36 rfl (lv_at hl 0 rfl) ?_
  refine r_getp B hH hS 17 (by decide) wf_X16_356 rfl rfl dX16_beginAgain_37 ?_
  obtain ⟨a24, ea24, ja24, h⟩ := h
  refine W.eq (g2 := F0 m 40 ls [.ref a24, .int (i32 v2)]) (by rw [ea24]; rfl) ?_
  refine n_geti B hH hS ja24 1 (by decide) (List.mem_of_getElem? (i := 1) rfl) rfl dX16_beginAgain_40 ?_
  refine lv_icmp_ge (tgt := 68) B.1 B.2.1 dX16_beginAgain_43 (by decide) (fun h9 => ?_) (fun h9 => ?_)
  · rw [if_pos ((i32_le (hGσ _ _) g2).mp h9)] at h
    exact a_X16_beginAgain_68 K hQ hX _ h hGσ hS _ _ _ hH (lv_sub (l' := [(0, .ref rm)]) hl [0] rfl) hc
  · rw [if_neg (fun q => h9 ((i32_le (hGσ _ _) g2).mpr q))] at h
    exact a_X16_beginAgain_46 K hQ hX hK35 _ _ g2 h hGσ hS _ _ _ hH (lv_sub (l' := [(0, .ref rm), (2, .int (i32 v2))]) hl [0, 1] rfl) hc
theorem al_X16_beginAgain_35 {Q : Sg → Int → Prop} {X : Sg → String → Prop} (K : MC R p s m args c cX16_beginAgain 3 RX16 D cA tys A n0 s0 4 95 []) (hQ : HQI p l e R s m args below meth c cX16_beginAgain D cA A n0 s0 QM dm ra jx rm Q) (hX : HX p l e R s m args below meth c 3 D cA A n0 s0 QM dm ra jx rm X) : ∀ (n : Nat), ∀ (σ : Sg) (v2 : Int) (g2 : rng v2), wl_X16_beginAgain_35 ra jx rm Q X n σ v2 → RG σ → Shp dm ra jx rm σ → JJ p l e R s m args below meth c 3 D cA A n0 s0 QM σ 35 [(0, .ref rm), (2, .int (i32 v2))] [] := by
  intro n
  induction n with
  | zero => intro σ v2 g2 h; exact h.elim
  | succ n ih => exact fun σ v2 g2 h => a_X16_beginAgain_35 K hQ hX ih σ v2 g2 h
set_option maxRecDepth 20000 in
theorem a_X16_beginAgain_0 {Q : Sg → Int → Prop} {X : Sg → String → Prop} (K : MC R p s m args c cX16_beginAgain 3 RX16 D cA tys A n0 s0 4 95 []) (hQ : HQI p l e R s m args below meth c cX16_beginAgain D cA A n0 s0 QM dm ra jx rm Q) (hX : HX p l e R s m args below meth c 3 D cA A n0 s0 QM dm ra jx rm X) : ∀ (σ : Sg) (v1 : Int) (g1 : rng v1), w_X16_beginAgain_0 ra jx rm Q X σ v1 → RG σ → Shp dm ra jx rm σ → JJ p l e R s m args below meth c 3 D cA A n0 s0 QM σ 0 [(0, .ref rm), (1, .int (i32 v1))] [] := by
  intro σ v1 g1 h hGσ hS H locs ls hH hl hc
  have B := K.1
  unfold w_X16_beginAgain_0 at h
  refine lv_aload_n B.1 B.2.1 dX16_beginAgain_0 rfl (lv_at hl 0 rfl) ?_
  refine lv_iload_n B.1 B.2.1 dX16_beginAgain_1 rfl (lv_at hl 1 rfl) ?_
  obtain ⟨σ25, eσ25⟩ : ∃ z, z = pI σ rm 33 v1 := ⟨_, rfl⟩
  have h := h σ25 eσ25
  refine r_puti B hH hS 33 (ty := .int) (by decide) wf_X16_365 rfl rfl rfl rfl rfl rfl dX16_beginAgain_2 (fun H locs hH => ?_)
  have hH : Hd D cA A s (pI σ rm 33 v1) H locs := hH
  rw [← eσ25] at hH
  have hGσ25 : RG σ25 := by rw [eσ25]; exact hGσ.pI g1
  have hS : Shp dm ra jx rm σ25 := by rw [eσ25]; exact hS
  have hc : CB n0 s0 σ25 := by rw [eσ25]; exact hc
  rw [show gc σ = gc σ25 by rw [eσ25], show gs σ = gs σ25 by rw [eσ25]]
  refine lv_aload_n B.1 B.2.1 dX16_beginAgain_5 rfl (lv_at hl 0 rfl) ?_
  refine lv_iconst (v := i32 0) B.1 B.2.1 dX16_beginAgain_6 (by decide) ?_
  obtain ⟨σ26, eσ26⟩ : ∃ z, z = pI σ25 rm 93 0 := ⟨_, rfl⟩
  have h := h σ26 eσ26
  refine r_puti B hH hS 93 (ty := .int) (by decide) wf_X16_742 rfl rfl rfl rfl rfl rfl dX16_beginAgain_7 (fun H locs hH => ?_)
  have hH : Hd D cA A s (pI σ25 rm 93 0) H locs := hH
  rw [← eσ26] at hH
  have hGσ26 : RG σ26 := by rw [eσ26]; exact hGσ25.pI (by unfold rng; omega)
  have hS : Shp dm ra jx rm σ26 := by rw [eσ26]; exact hS
  have hc : CB n0 s0 σ26 := by rw [eσ26]; exact hc
  rw [show gc σ25 = gc σ26 by rw [eσ26], show gs σ25 = gs σ26 by rw [eσ26]]
  refine lv_aload_n B.1 B.2.1 dX16_beginAgain_10 rfl (lv_at hl 0 rfl) ?_
  refine lv_iconst (v := i32 0) B.1 B.2.1 dX16_beginAgain_11 (by decide) ?_
  obtain ⟨σ27, eσ27⟩ : ∃ z, z = pI σ26 rm 31 0 := ⟨_, rfl⟩
  have h := h σ27 eσ27
  refine r_puti B hH hS 31 (ty := .boolean) (by decide) wf_X16_831 rfl rfl rfl rfl rfl rfl dX16_beginAgain_12 (fun H locs hH => ?_)
  have hH : Hd D cA A s (pI σ26 rm 31 0) H locs := hH
  rw [← eσ27] at hH
  have hGσ27 : RG σ27 := by rw [eσ27]; exact hGσ26.pI (by unfold rng; omega)
  have hS : Shp dm ra jx rm σ27 := by rw [eσ27]; exact hS
  have hc : CB n0 s0 σ27 := by rw [eσ27]; exact hc
  rw [show gc σ26 = gc σ27 by rw [eσ27], show gs σ26 = gs σ27 by rw [eσ27]]
  refine lv_aload_n B.1 B.2.1 dX16_beginAgain_15 rfl (lv_at hl 0 rfl) ?_
  refine lv_dup B.1 B.2.1 dX16_beginAgain_16 rfl ?_
  refine r_geti B hH hS 112 (by decide) wf_X16_837 rfl rfl dX16_beginAgain_17 ?_
  refine lv_iconst (v := i32 1) B.1 B.2.1 dX16_beginAgain_20 (by decide) ?_
  refine lv_iadd B.1 B.2.1 dX16_beginAgain_21 ?_
  rw [i32_add]
  refine W.eq (g2 := F0 m 22 ls [.int (i32 (wr (gI σ27 rm 112 + 1))), .ref rm]) (by rw [i32_wr]) ?_
  obtain ⟨σ28, eσ28⟩ : ∃ z, z = pI σ27 rm 112 (wr (gI σ27 rm 112 + 1)) := ⟨_, rfl⟩
  have h := h σ28 eσ28
  refine r_puti B hH hS 112 (ty := .int) (by decide) wf_X16_837 rfl rfl rfl rfl rfl rfl dX16_beginAgain_22 (fun H locs hH => ?_)
  have hH : Hd D cA A s (pI σ27 rm 112 (wr (gI σ27 rm 112 + 1))) H locs := hH
  rw [← eσ28] at hH
  have hGσ28 : RG σ28 := by rw [eσ28]; exact hGσ27.pI (rng_wr _)
  have hS : Shp dm ra jx rm σ28 := by rw [eσ28]; exact hS
  have hc : CB n0 s0 σ28 := by rw [eσ28]; exact hc
  rw [show gc σ27 = gc σ28 by rw [eσ28], show gs σ27 = gs σ28 by rw [eσ28]]
  refine lv_aload_n B.1 B.2.1 dX16_beginAgain_25 rfl (lv_at hl 0 rfl) ?_
  refine c_V B hH hl hc K.2.2.1 (C := RX16) (T := TX16) (N := 123) (ci := 16) (As := []) (ok_X16_layOut K.2.1 σ28 hGσ28 hS h) wc_X16_840 0 hd_X16_layOut ⟨Nat.le_trans (Nat.le_of_ble_eq_true rfl) K.2.2.2.1, Nat.le_trans (Nat.le_of_ble_eq_true rfl) K.2.2.2.2.1⟩ hS.1.1 hS.1.2 (by decide) rfl rfl (rest := []) rfl (Nat.le_of_ble_eq_true rfl) dX16_beginAgain_26 (fun σ29 w hq => ?_) (fun σ9 E9 hx9 => hX σ9 E9 _ _ _ (tb_out K.2.2.2.2.2 rfl) hx9.1 hx9.2.1 hx9.2.2)
  obtain ⟨rfl, h, hGσ29, hS⟩ := hq
  intro H locs ls hH hl hc
  refine W.eq (g2 := F0 m 29 ls []) (rfl) ?_
  try dsimp only at h
  refine lv_aload_n B.1 B.2.1 dX16_beginAgain_29 rfl (lv_at hl 0 rfl) ?_
  refine c_V B hH hl hc K.2.2.1 (C := RX16) (T := TX16) (N := 123) (ci := 16) (As := []) (ok_X16_empty K.2.1 σ29 hGσ29 hS h) wc_X16_843 0 hd_X16_empty ⟨Nat.le_trans (Nat.le_of_ble_eq_true rfl) K.2.2.2.1, Nat.le_trans (Nat.le_of_ble_eq_true rfl) K.2.2.2.2.1⟩ hS.1.1 hS.1.2 (by decide) rfl rfl (rest := []) rfl (Nat.le_of_ble_eq_true rfl) dX16_beginAgain_30 (fun σ30 w hq => ?_) (fun σ9 E9 hx9 => hX σ9 E9 _ _ _ (tb_out K.2.2.2.2.2 rfl) hx9.1 hx9.2.1 hx9.2.2)
  obtain ⟨rfl, h, hGσ30, hS⟩ := hq
  intro H locs ls hH hl hc
  refine W.eq (g2 := F0 m 33 ls []) (rfl) ?_
  try dsimp only at h
  refine lv_iconst (v := i32 0) B.1 B.2.1 dX16_beginAgain_33 (by decide) ?_
  refine lv_istore_n (lv' := [(2, .int (i32 0)), (0, .ref rm), (1, .int (i32 v1))]) B.1 B.2.1 dX16_beginAgain_34 rfl hl (by decide) rfl (fun ls hl => ?_)
  obtain ⟨n9, h⟩ := h
  exact al_X16_beginAgain_35 K hQ hX n9 _ _ (by unfold rng; omega) h hGσ30 hS _ _ _ hH (lv_sub (l' := [(0, .ref rm), (2, .int (i32 0))]) hl [1, 0] rfl) hc
theorem ok_X16_beginAgain (hT : Tys cA tys) {Q : Sg → Int → Prop} {X : Sg → String → Prop} (σ : Sg) (v1 : Int) (g1 : rng v1) (hG : RG σ) (hS : Shp dm ra jx rm σ) (h : wp_X16_beginAgain ra jx rm v1 σ Q X) : Ok l D cA tys A yX16_beginAgain (.code yX16_beginAgain cX16_beginAgain 3 (some .int)) 4 95 [.ref rm, .int (i32 v1)] σ (QnI dm ra jx rm Q) (QxR dm ra jx rm X) := by
  unfold wp_X16_beginAgain at h
  exact ok_I (plainFor_of_name (by decide)) (by exact Nat.le_of_ble_eq_true rfl) hT (fun p e R s m args below meth c K hQ hX H locs ls hH hl hc => a_X16_beginAgain_0 K hQ hX σ v1 g1 h hG hS H locs ls hH (lv_sub (l' := [(0, .ref rm), (1, .int (i32 v1))]) hl [0, 1] rfl) hc)
theorem dX16_fail_0 : decode cX16_fail 0 = .ok (.aload_n 0, 1) := by decide +kernel
theorem dX16_fail_1 : decode cX16_fail 1 = .ok (.iload_n 1, 1) := by decide +kernel
theorem dX16_fail_2 : decode cX16_fail 2 = .ok (.putfield 7, 3) := by decide +kernel
theorem dX16_fail_5 : decode cX16_fail 5 = .ok (.aload_n 0, 1) := by decide +kernel
theorem dX16_fail_6 : decode cX16_fail 6 = .ok (.aload_n 0, 1) := by decide +kernel
theorem dX16_fail_7 : decode cX16_fail 7 = .ok (.getfield 10, 3) := by decide +kernel
theorem dX16_fail_10 : decode cX16_fail 10 = .ok (.putfield 13, 3) := by decide +kernel
theorem dX16_fail_13 : decode cX16_fail 13 = .ok (.aload_n 0, 1) := by decide +kernel
theorem dX16_fail_14 : decode cX16_fail 14 = .ok (.getfield 16, 3) := by decide +kernel
theorem dX16_fail_17 : decode cX16_fail 17 = .ok (.areturn, 1) := by decide +kernel
set_option maxRecDepth 20000 in
theorem a_X16_fail_0 {Q : Sg → Option Nat → Prop} {X : Sg → String → Prop} (K : MC R p s m args c cX16_fail 2 RX16 D cA tys A n0 s0 0 0 []) (hQ : HQA p l e R s m args below meth c cX16_fail D cA A n0 s0 QM dm ra jx rm Q) (hX : HX p l e R s m args below meth c 2 D cA A n0 s0 QM dm ra jx rm X) : ∀ (σ : Sg) (v1 : Int) (g1 : rng v1), w_X16_fail_0 ra jx rm Q X σ v1 → RG σ → Shp dm ra jx rm σ → JJ p l e R s m args below meth c 2 D cA A n0 s0 QM σ 0 [(0, .ref rm), (1, .int (i32 v1))] [] := by
  intro σ v1 g1 h hGσ hS H locs ls hH hl hc
  have B := K.1
  unfold w_X16_fail_0 at h
  refine lv_aload_n B.1 B.2.1 dX16_fail_0 rfl (lv_at hl 0 rfl) ?_
  refine lv_iload_n B.1 B.2.1 dX16_fail_1 rfl (lv_at hl 1 rfl) ?_
  obtain ⟨σ5, eσ5⟩ : ∃ z, z = pI σ rm 4 v1 := ⟨_, rfl⟩
  have h := h σ5 eσ5
  refine r_puti B hH hS 4 (ty := .int) (by decide) wf_X16_7 rfl rfl rfl rfl rfl rfl dX16_fail_2 (fun H locs hH => ?_)
  have hH : Hd D cA A s (pI σ rm 4 v1) H locs := hH
  rw [← eσ5] at hH
  have hGσ5 : RG σ5 := by rw [eσ5]; exact hGσ.pI g1
  have hS : Shp dm ra jx rm σ5 := by rw [eσ5]; exact hS
  have hc : CB n0 s0 σ5 := by rw [eσ5]; exact hc
  rw [show gc σ = gc σ5 by rw [eσ5], show gs σ = gs σ5 by rw [eσ5]]
  refine lv_aload_n B.1 B.2.1 dX16_fail_5 rfl (lv_at hl 0 rfl) ?_
  refine lv_aload_n B.1 B.2.1 dX16_fail_6 rfl (lv_at hl 0 rfl) ?_
  refine r_geti B hH hS 10 (by decide) wf_X16_10 rfl rfl dX16_fail_7 ?_
  obtain ⟨σ6, eσ6⟩ : ∃ z, z = pI σ5 rm 5 (gI σ5 rm 10) := ⟨_, rfl⟩
  have h := h σ6 eσ6
  refine r_puti B hH hS 5 (ty := .int) (by decide) wf_X16_13 rfl rfl rfl rfl rfl rfl dX16_fail_10 (fun H locs hH => ?_)
  have hH : Hd D cA A s (pI σ5 rm 5 (gI σ5 rm 10)) H locs := hH
  rw [← eσ6] at hH
  have hGσ6 : RG σ6 := by rw [eσ6]; exact hGσ5.pI (hGσ5 _ _)
  have hS : Shp dm ra jx rm σ6 := by rw [eσ6]; exact hS
  have hc : CB n0 s0 σ6 := by rw [eσ6]; exact hc
  rw [show gc σ5 = gc σ6 by rw [eσ6], show gs σ5 = gs σ6 by rw [eσ6]]
  refine lv_aload_n B.1 B.2.1 dX16_fail_13 rfl (lv_at hl 0 rfl) ?_
  refine r_obj B hH hS 1 (ci := 14) (by decide) (by decide) wf_X16_16 rfl rfl dX16_fail_14 ?_
  refine W.eq (g2 := F0 m 17 ls [va_rf (some (ra 1))]) (rfl) ?_
  exact hQ _ _ _ _ _ _ dX16_fail_17 hH hc h hGσ6 hS
theorem ok_X16_fail (hT : Tys cA tys) {Q : Sg → Option Nat → Prop} {X : Sg → String → Prop} (σ : Sg) (v1 : Int) (g1 : rng v1) (hG : RG σ) (hS : Shp dm ra jx rm σ) (h : wp_X16_fail ra jx rm v1 σ Q X) : Ok l D cA tys A yX16_fail (.code yX16_fail cX16_fail 2 (some (.object "StreamHouseModel$Fault"))) 0 0 [.ref rm, .int (i32 v1)] σ (QnA dm ra jx rm Q) (QxR dm ra jx rm X) := by
  unfold wp_X16_fail at h
  exact ok_A (plainFor_of_name (by decide)) (by exact Nat.le_of_ble_eq_true rfl) hT (fun p e R s m args below meth c K hQ hX H locs ls hH hl hc => a_X16_fail_0 K hQ hX σ v1 g1 h hG hS H locs ls hH (lv_sub (l' := [(0, .ref rm), (1, .int (i32 v1))]) hl [0, 1] rfl) hc)
theorem dX16_byteAt_0 : decode cX16_byteAt 0 = .ok (.aload_n 0, 1) := by decide +kernel
theorem dX16_byteAt_1 : decode cX16_byteAt 1 = .ok (.getfield 20, 3) := by decide +kernel
theorem dX16_byteAt_4 : decode cX16_byteAt 4 = .ok (.iload_n 1, 1) := by decide +kernel
theorem dX16_byteAt_5 : decode cX16_byteAt 5 = .ok (.baload, 1) := by decide +kernel
theorem dX16_byteAt_6 : decode cX16_byteAt 6 = .ok (.sipush 255, 3) := by decide +kernel
theorem dX16_byteAt_9 : decode cX16_byteAt 9 = .ok (.iand, 1) := by decide +kernel
theorem dX16_byteAt_10 : decode cX16_byteAt 10 = .ok (.ireturn, 1) := by decide +kernel
set_option maxRecDepth 20000 in
theorem a_X16_byteAt_0 {Q : Sg → Int → Prop} {X : Sg → String → Prop} (K : MC R p s m args c cX16_byteAt 2 RX16 D cA tys A n0 s0 0 0 []) (hQ : HQI p l e R s m args below meth c cX16_byteAt D cA A n0 s0 QM dm ra jx rm Q) (hX : HX p l e R s m args below meth c 2 D cA A n0 s0 QM dm ra jx rm X) : ∀ (σ : Sg) (v1 : Int) (g1 : rng v1), w_X16_byteAt_0 ra jx rm Q X σ v1 → RG σ → Shp dm ra jx rm σ → JJ p l e R s m args below meth c 2 D cA A n0 s0 QM σ 0 [(0, .ref rm), (1, .int (i32 v1))] [] := by
  intro σ v1 g1 h hGσ hS H locs ls hH hl hc
  have B := K.1
  unfold w_X16_byteAt_0 at h
  refine lv_aload_n B.1 B.2.1 dX16_byteAt_0 rfl (lv_at hl 0 rfl) ?_
  refine r_arr B hH hS 2 (kd := 102) (n := 1500) (by decide) (by decide) wf_X16_20 rfl rfl dX16_byteAt_1 ?_
  refine lv_iload_n B.1 B.2.1 dX16_byteAt_4 rfl (lv_at hl 1 rfl) ?_
  obtain ⟨q1, h⟩ := h
  refine x_bald B K.2.1 hH (hS.ar (k := 2) (kd := 102) (n := 1500) (by decide)) (by decide) q1 dX16_byteAt_5 ?_
  refine lv_sipush (v := i32 255) B.1 B.2.1 dX16_byteAt_6 (by decide) ?_
  refine lv_iand B.1 B.2.1 dX16_byteAt_9 ?_
  refine W.eq (g2 := F0 m 10 ls [.int (i32 ((i32 (gI σ (ra 2) v1.toNat) &&& i32 255).toInt))]) (by simp only [i32_self]) ?_
  exact hQ _ _ _ _ _ _ (rng_toInt _) dX16_byteAt_10 hH hc h hGσ hS
theorem ok_X16_byteAt (hT : Tys cA tys) {Q : Sg → Int → Prop} {X : Sg → String → Prop} (σ : Sg) (v1 : Int) (g1 : rng v1) (hG : RG σ) (hS : Shp dm ra jx rm σ) (h : wp_X16_byteAt ra jx rm v1 σ Q X) : Ok l D cA tys A yX16_byteAt (.code yX16_byteAt cX16_byteAt 2 (some .int)) 0 0 [.ref rm, .int (i32 v1)] σ (QnI dm ra jx rm Q) (QxR dm ra jx rm X) := by
  unfold wp_X16_byteAt at h
  exact ok_I (plainFor_of_name (by decide)) (by exact Nat.le_of_ble_eq_true rfl) hT (fun p e R s m args below meth c K hQ hX H locs ls hH hl hc => a_X16_byteAt_0 K hQ hX σ v1 g1 h hG hS H locs ls hH (lv_sub (l' := [(0, .ref rm), (1, .int (i32 v1))]) hl [0, 1] rfl) hc)
theorem dX16_see_0 : decode cX16_see 0 = .ok (.aload_n 0, 1) := by decide +kernel
theorem dX16_see_1 : decode cX16_see 1 = .ok (.getfield 24, 3) := by decide +kernel
theorem dX16_see_4 : decode cX16_see 4 = .ok (.ifCond .eq 4, 3) := by decide +kernel
theorem dX16_see_7 : decode cX16_see 7 = .ok (.return_, 1) := by decide +kernel
theorem dX16_see_8 : decode cX16_see 8 = .ok (.aload_n 0, 1) := by decide +kernel
theorem dX16_see_9 : decode cX16_see 9 = .ok (.getfield 28, 3) := by decide +kernel
theorem dX16_see_12 : decode cX16_see 12 = .ok (.aload_n 0, 1) := by decide +kernel
theorem dX16_see_13 : decode cX16_see 13 = .ok (.getfield 31, 3) := by decide +kernel
theorem dX16_see_16 : decode cX16_see 16 = .ok (.if_icmp .ge 29, 3) := by decide +kernel
theorem dX16_see_19 : decode cX16_see 19 = .ok (.aload_n 0, 1) := by decide +kernel
theorem dX16_see_20 : decode cX16_see 20 = .ok (.aload_n 0, 1) := by decide +kernel
theorem dX16_see_21 : decode cX16_see 21 = .ok (.getfield 28, 3) := by decide +kernel
theorem dX16_see_24 : decode cX16_see 24 = .ok (.invokevirtual 34, 3) := by decide +kernel
theorem dX16_see_27 : decode cX16_see 27 = .ok (.bipush 32, 2) := by decide +kernel
theorem dX16_see_29 : decode cX16_see 29 = .ok (.if_icmp .gt 16, 3) := by decide +kernel
theorem dX16_see_32 : decode cX16_see 32 = .ok (.aload_n 0, 1) := by decide +kernel
theorem dX16_see_33 : decode cX16_see 33 = .ok (.dup, 1) := by decide +kernel
theorem dX16_see_34 : decode cX16_see 34 = .ok (.getfield 28, 3) := by decide +kernel
theorem dX16_see_37 : decode cX16_see 37 = .ok (.iconst 1, 1) := by decide +kernel
theorem dX16_see_38 : decode cX16_see 38 = .ok (.iadd, 1) := by decide +kernel
theorem dX16_see_39 : decode cX16_see 39 = .ok (.putfield 28, 3) := by decide +kernel
theorem dX16_see_42 : decode cX16_see 42 = .ok (.goto (-34), 3) := by decide +kernel
theorem dX16_see_45 : decode cX16_see 45 = .ok (.aload_n 0, 1) := by decide +kernel
theorem dX16_see_46 : decode cX16_see 46 = .ok (.iconst 1, 1) := by decide +kernel
theorem dX16_see_47 : decode cX16_see 47 = .ok (.putfield 24, 3) := by decide +kernel
theorem dX16_see_50 : decode cX16_see 50 = .ok (.aload_n 0, 1) := by decide +kernel
theorem dX16_see_51 : decode cX16_see 51 = .ok (.aload_n 0, 1) := by decide +kernel
theorem dX16_see_52 : decode cX16_see 52 = .ok (.getfield 28, 3) := by decide +kernel
theorem dX16_see_55 : decode cX16_see 55 = .ok (.putfield 10, 3) := by decide +kernel
theorem dX16_see_58 : decode cX16_see 58 = .ok (.aload_n 0, 1) := by decide +kernel
theorem dX16_see_59 : decode cX16_see 59 = .ok (.getfield 28, 3) := by decide +kernel
theorem dX16_see_62 : decode cX16_see 62 = .ok (.aload_n 0, 1) := by decide +kernel
theorem dX16_see_63 : decode cX16_see 63 = .ok (.getfield 31, 3) := by decide +kernel
theorem dX16_see_66 : decode cX16_see 66 = .ok (.if_icmp .ne 9, 3) := by decide +kernel
theorem dX16_see_69 : decode cX16_see 69 = .ok (.aload_n 0, 1) := by decide +kernel
theorem dX16_see_70 : decode cX16_see 70 = .ok (.iconst 3, 1) := by decide +kernel
theorem dX16_see_71 : decode cX16_see 71 = .ok (.putfield 38, 3) := by decide +kernel
theorem dX16_see_74 : decode cX16_see 74 = .ok (.return_, 1) := by decide +kernel
theorem dX16_see_75 : decode cX16_see 75 = .ok (.aload_n 0, 1) := by decide +kernel
theorem dX16_see_76 : decode cX16_see 76 = .ok (.aload_n 0, 1) := by decide +kernel
theorem dX16_see_77 : decode cX16_see 77 = .ok (.getfield 28, 3) := by decide +kernel
theorem dX16_see_80 : decode cX16_see 80 = .ok (.invokevirtual 34, 3) := by decide +kernel
theorem dX16_see_83 : decode cX16_see 83 = .ok (.istore_n 1, 1) := by decide +kernel
theorem dX16_see_84 : decode cX16_see 84 = .ok (.iload_n 1, 1) := by decide +kernel
theorem dX16_see_85 : decode cX16_see 85 = .ok (.i2l, 1) := by decide +kernel
theorem dX16_see_86 : decode cX16_see 86 = .ok (.ldc2_w 41, 3) := by decide +kernel
theorem dX16_see_89 : decode cX16_see 89 = .ok (.ldc2_w 43, 3) := by decide +kernel
theorem dX16_see_92 : decode cX16_see 92 = .ok (.invokestatic 45, 3) := by decide +kernel
theorem dX16_see_95 : decode cX16_see 95 = .ok (.ifCond .eq 110, 3) := by decide +kernel
theorem dX16_see_98 : decode cX16_see 98 = .ok (.aload_n 0, 1) := by decide +kernel
theorem dX16_see_99 : decode cX16_see 99 = .ok (.iconst 1, 1) := by decide +kernel
theorem dX16_see_100 : decode cX16_see 100 = .ok (.putfield 38, 3) := by decide +kernel
theorem dX16_see_103 : decode cX16_see 103 = .ok (.aload_n 0, 1) := by decide +kernel
theorem dX16_see_104 : decode cX16_see 104 = .ok (.lconst 0, 1) := by decide +kernel
theorem dX16_see_105 : decode cX16_see 105 = .ok (.putfield 49, 3) := by decide +kernel
theorem dX16_see_108 : decode cX16_see 108 = .ok (.aload_n 0, 1) := by decide +kernel
theorem dX16_see_109 : decode cX16_see 109 = .ok (.iconst 0, 1) := by decide +kernel
theorem dX16_see_110 : decode cX16_see 110 = .ok (.putfield 53, 3) := by decide +kernel
theorem dX16_see_113 : decode cX16_see 113 = .ok (.aload_n 0, 1) := by decide +kernel
theorem dX16_see_114 : decode cX16_see 114 = .ok (.getfield 28, 3) := by decide +kernel
theorem dX16_see_117 : decode cX16_see 117 = .ok (.aload_n 0, 1) := by decide +kernel
theorem dX16_see_118 : decode cX16_see 118 = .ok (.getfield 31, 3) := by decide +kernel
theorem dX16_see_121 : decode cX16_see 121 = .ok (.if_icmp .ge 240, 3) := by decide +kernel
theorem dX16_see_124 : decode cX16_see 124 = .ok (.aload_n 0, 1) := by decide +kernel
theorem dX16_see_125 : decode cX16_see 125 = .ok (.aload_n 0, 1) := by decide +kernel
theorem dX16_see_126 : decode cX16_see 126 = .ok (.getfield 28, 3) := by decide +kernel
theorem dX16_see_129 : decode cX16_see 129 = .ok (.invokevirtual 34, 3) := by decide +kernel
theorem dX16_see_132 : decode cX16_see 132 = .ok (.i2l, 1) := by decide +kernel
theorem dX16_see_133 : decode cX16_see 133 = .ok (.ldc2_w 41, 3) := by decide +kernel
theorem dX16_see_136 : decode cX16_see 136 = .ok (.ldc2_w 43, 3) := by decide +kernel
theorem dX16_see_139 : decode cX16_see 139 = .ok (.invokestatic 45, 3) := by decide +kernel
theorem dX16_see_142 : decode cX16_see 142 = .ok (.ifCond .eq 219, 3) := by decide +kernel
theorem dX16_see_145 : decode cX16_see 145 = .ok (.aload_n 0, 1) := by decide +kernel
theorem dX16_see_146 : decode cX16_see 146 = .ok (.aload_n 0, 1) := by decide +kernel
theorem dX16_see_147 : decode cX16_see 147 = .ok (.getfield 53, 3) := by decide +kernel
theorem dX16_see_150 : decode cX16_see 150 = .ok (.bipush 8, 2) := by decide +kernel
theorem dX16_see_152 : decode cX16_see 152 = .ok (.if_icmp .ge 23, 3) := by decide +kernel
theorem dX16_see_155 : decode cX16_see 155 = .ok (.aload_n 0, 1) := by decide +kernel
theorem dX16_see_156 : decode cX16_see 156 = .ok (.getfield 49, 3) := by decide +kernel
theorem dX16_see_159 : decode cX16_see 159 = .ok (.bipush 8, 2) := by decide +kernel
theorem dX16_see_161 : decode cX16_see 161 = .ok (.lshl, 1) := by decide +kernel
theorem dX16_see_162 : decode cX16_see 162 = .ok (.aload_n 0, 1) := by decide +kernel
theorem dX16_see_163 : decode cX16_see 163 = .ok (.aload_n 0, 1) := by decide +kernel
theorem dX16_see_164 : decode cX16_see 164 = .ok (.getfield 28, 3) := by decide +kernel
theorem dX16_see_167 : decode cX16_see 167 = .ok (.invokevirtual 34, 3) := by decide +kernel
theorem dX16_see_170 : decode cX16_see 170 = .ok (.i2l, 1) := by decide +kernel
theorem dX16_see_171 : decode cX16_see 171 = .ok (.lor, 1) := by decide +kernel
theorem dX16_see_172 : decode cX16_see 172 = .ok (.goto 7, 3) := by decide +kernel
theorem dX16_see_175 : decode cX16_see 175 = .ok (.aload_n 0, 1) := by decide +kernel
theorem dX16_see_176 : decode cX16_see 176 = .ok (.getfield 49, 3) := by decide +kernel
theorem dX16_see_179 : decode cX16_see 179 = .ok (.putfield 49, 3) := by decide +kernel
theorem dX16_see_182 : decode cX16_see 182 = .ok (.aload_n 0, 1) := by decide +kernel
theorem dX16_see_183 : decode cX16_see 183 = .ok (.dup, 1) := by decide +kernel
theorem dX16_see_184 : decode cX16_see 184 = .ok (.getfield 53, 3) := by decide +kernel
theorem dX16_see_187 : decode cX16_see 187 = .ok (.iconst 1, 1) := by decide +kernel
theorem dX16_see_188 : decode cX16_see 188 = .ok (.iadd, 1) := by decide +kernel
theorem dX16_see_189 : decode cX16_see 189 = .ok (.putfield 53, 3) := by decide +kernel
theorem dX16_see_192 : decode cX16_see 192 = .ok (.aload_n 0, 1) := by decide +kernel
theorem dX16_see_193 : decode cX16_see 193 = .ok (.dup, 1) := by decide +kernel
theorem dX16_see_194 : decode cX16_see 194 = .ok (.getfield 28, 3) := by decide +kernel
theorem dX16_see_197 : decode cX16_see 197 = .ok (.iconst 1, 1) := by decide +kernel
theorem dX16_see_198 : decode cX16_see 198 = .ok (.iadd, 1) := by decide +kernel
theorem dX16_see_199 : decode cX16_see 199 = .ok (.putfield 28, 3) := by decide +kernel
theorem dX16_see_202 : decode cX16_see 202 = .ok (.goto (-89), 3) := by decide +kernel
theorem dX16_see_205 : decode cX16_see 205 = .ok (.iload_n 1, 1) := by decide +kernel
theorem dX16_see_206 : decode cX16_see 206 = .ok (.i2l, 1) := by decide +kernel
theorem dX16_see_207 : decode cX16_see 207 = .ok (.ldc2_w 56, 3) := by decide +kernel
theorem dX16_see_210 : decode cX16_see 210 = .ok (.ldc2_w 58, 3) := by decide +kernel
theorem dX16_see_213 : decode cX16_see 213 = .ok (.invokestatic 45, 3) := by decide +kernel
theorem dX16_see_216 : decode cX16_see 216 = .ok (.ifCond .eq 104, 3) := by decide +kernel
theorem dX16_see_219 : decode cX16_see 219 = .ok (.aload_n 0, 1) := by decide +kernel
theorem dX16_see_220 : decode cX16_see 220 = .ok (.iconst 2, 1) := by decide +kernel
theorem dX16_see_221 : decode cX16_see 221 = .ok (.putfield 38, 3) := by decide +kernel
theorem dX16_see_224 : decode cX16_see 224 = .ok (.aload_n 0, 1) := by decide +kernel
theorem dX16_see_225 : decode cX16_see 225 = .ok (.lconst 0, 1) := by decide +kernel
theorem dX16_see_226 : decode cX16_see 226 = .ok (.putfield 60, 3) := by decide +kernel
theorem dX16_see_229 : decode cX16_see 229 = .ok (.iconst 0, 1) := by decide +kernel
theorem dX16_see_230 : decode cX16_see 230 = .ok (.istore_n 2, 1) := by decide +kernel
theorem dX16_see_231 : decode cX16_see 231 = .ok (.aload_n 0, 1) := by decide +kernel
theorem dX16_see_232 : decode cX16_see 232 = .ok (.getfield 28, 3) := by decide +kernel
theorem dX16_see_235 : decode cX16_see 235 = .ok (.aload_n 0, 1) := by decide +kernel
theorem dX16_see_236 : decode cX16_see 236 = .ok (.getfield 31, 3) := by decide +kernel
theorem dX16_see_239 : decode cX16_see 239 = .ok (.if_icmp .ge 66, 3) := by decide +kernel
theorem dX16_see_242 : decode cX16_see 242 = .ok (.aload_n 0, 1) := by decide +kernel
theorem dX16_see_243 : decode cX16_see 243 = .ok (.aload_n 0, 1) := by decide +kernel
theorem dX16_see_244 : decode cX16_see 244 = .ok (.getfield 28, 3) := by decide +kernel
theorem dX16_see_247 : decode cX16_see 247 = .ok (.invokevirtual 34, 3) := by decide +kernel
theorem dX16_see_250 : decode cX16_see 250 = .ok (.i2l, 1) := by decide +kernel
theorem dX16_see_251 : decode cX16_see 251 = .ok (.ldc2_w 56, 3) := by decide +kernel
theorem dX16_see_254 : decode cX16_see 254 = .ok (.ldc2_w 58, 3) := by decide +kernel
theorem dX16_see_257 : decode cX16_see 257 = .ok (.invokestatic 45, 3) := by decide +kernel
theorem dX16_see_260 : decode cX16_see 260 = .ok (.ifCond .eq 45, 3) := by decide +kernel
theorem dX16_see_263 : decode cX16_see 263 = .ok (.aload_n 0, 1) := by decide +kernel
theorem dX16_see_264 : decode cX16_see 264 = .ok (.ldc2_w 63, 3) := by decide +kernel
theorem dX16_see_267 : decode cX16_see 267 = .ok (.aload_n 0, 1) := by decide +kernel
theorem dX16_see_268 : decode cX16_see 268 = .ok (.getfield 60, 3) := by decide +kernel
theorem dX16_see_271 : decode cX16_see 271 = .ok (.lmul, 1) := by decide +kernel
theorem dX16_see_272 : decode cX16_see 272 = .ok (.aload_n 0, 1) := by decide +kernel
theorem dX16_see_273 : decode cX16_see 273 = .ok (.aload_n 0, 1) := by decide +kernel
theorem dX16_see_274 : decode cX16_see 274 = .ok (.getfield 28, 3) := by decide +kernel
theorem dX16_see_277 : decode cX16_see 277 = .ok (.invokevirtual 34, 3) := by decide +kernel
theorem dX16_see_280 : decode cX16_see 280 = .ok (.i2l, 1) := by decide +kernel
theorem dX16_see_281 : decode cX16_see 281 = .ok (.ladd, 1) := by decide +kernel
theorem dX16_see_282 : decode cX16_see 282 = .ok (.ldc2_w 56, 3) := by decide +kernel
theorem dX16_see_285 : decode cX16_see 285 = .ok (.lsub, 1) := by decide +kernel
theorem dX16_see_286 : decode cX16_see 286 = .ok (.putfield 60, 3) := by decide +kernel
theorem dX16_see_289 : decode cX16_see 289 = .ok (.iinc 2 1, 3) := by decide +kernel
theorem dX16_see_292 : decode cX16_see 292 = .ok (.aload_n 0, 1) := by decide +kernel
theorem dX16_see_293 : decode cX16_see 293 = .ok (.dup, 1) := by decide +kernel
theorem dX16_see_294 : decode cX16_see 294 = .ok (.getfield 28, 3) := by decide +kernel
theorem dX16_see_297 : decode cX16_see 297 = .ok (.iconst 1, 1) := by decide +kernel
theorem dX16_see_298 : decode cX16_see 298 = .ok (.iadd, 1) := by decide +kernel
theorem dX16_see_299 : decode cX16_see 299 = .ok (.putfield 28, 3) := by decide +kernel
theorem dX16_see_302 : decode cX16_see 302 = .ok (.goto (-71), 3) := by decide +kernel
theorem dX16_see_305 : decode cX16_see 305 = .ok (.iload_n 2, 1) := by decide +kernel
theorem dX16_see_306 : decode cX16_see 306 = .ok (.bipush 18, 2) := by decide +kernel
theorem dX16_see_308 : decode cX16_see 308 = .ok (.if_icmp .le 9, 3) := by decide +kernel
theorem dX16_see_311 : decode cX16_see 311 = .ok (.aload_n 0, 1) := by decide +kernel
theorem dX16_see_312 : decode cX16_see 312 = .ok (.iconst 2, 1) := by decide +kernel
theorem dX16_see_313 : decode cX16_see 313 = .ok (.invokevirtual 65, 3) := by decide +kernel
theorem dX16_see_316 : decode cX16_see 316 = .ok (.athrow, 1) := by decide +kernel
theorem dX16_see_317 : decode cX16_see 317 = .ok (.goto 44, 3) := by decide +kernel
theorem dX16_see_320 : decode cX16_see 320 = .ok (.iload_n 1, 1) := by decide +kernel
theorem dX16_see_321 : decode cX16_see 321 = .ok (.sipush 128, 3) := by decide +kernel
theorem dX16_see_324 : decode cX16_see 324 = .ok (.if_icmp .ge 31, 3) := by decide +kernel
theorem dX16_see_327 : decode cX16_see 327 = .ok (.ldc 69, 2) := by decide +kernel
theorem dX16_see_329 : decode cX16_see 329 = .ok (.iload_n 1, 1) := by decide +kernel
theorem dX16_see_330 : decode cX16_see 330 = .ok (.i2c, 1) := by decide +kernel
theorem dX16_see_331 : decode cX16_see 331 = .ok (.invokevirtual 71, 3) := by decide +kernel
theorem dX16_see_334 : decode cX16_see 334 = .ok (.ifCond .lt 21, 3) := by decide +kernel
theorem dX16_see_337 : decode cX16_see 337 = .ok (.aload_n 0, 1) := by decide +kernel
theorem dX16_see_338 : decode cX16_see 338 = .ok (.iload_n 1, 1) := by decide +kernel
theorem dX16_see_339 : decode cX16_see 339 = .ok (.putfield 38, 3) := by decide +kernel
theorem dX16_see_342 : decode cX16_see 342 = .ok (.aload_n 0, 1) := by decide +kernel
theorem dX16_see_343 : decode cX16_see 343 = .ok (.dup, 1) := by decide +kernel
theorem dX16_see_344 : decode cX16_see 344 = .ok (.getfield 28, 3) := by decide +kernel
theorem dX16_see_347 : decode cX16_see 347 = .ok (.iconst 1, 1) := by decide +kernel
theorem dX16_see_348 : decode cX16_see 348 = .ok (.iadd, 1) := by decide +kernel
theorem dX16_see_349 : decode cX16_see 349 = .ok (.putfield 28, 3) := by decide +kernel
theorem dX16_see_352 : decode cX16_see 352 = .ok (.goto 9, 3) := by decide +kernel
theorem dX16_see_355 : decode cX16_see 355 = .ok (.aload_n 0, 1) := by decide +kernel
theorem dX16_see_356 : decode cX16_see 356 = .ok (.iconst 1, 1) := by decide +kernel
theorem dX16_see_357 : decode cX16_see 357 = .ok (.invokevirtual 65, 3) := by decide +kernel
theorem dX16_see_360 : decode cX16_see 360 = .ok (.athrow, 1) := by decide +kernel
theorem dX16_see_361 : decode cX16_see 361 = .ok (.return_, 1) := by decide +kernel
set_option maxRecDepth 20000 in
theorem a_X16_see_355 {Q : Sg → Unit → Prop} {X : Sg → String → Prop} (K : MC R p s m args c cX16_see 3 RX16 D cA tys A n0 s0 4 91 []) (hQ : HQV p l e R s m args below meth c cX16_see D cA A n0 s0 QM dm ra jx rm Q) (hX : HX p l e R s m args below meth c 3 D cA A n0 s0 QM dm ra jx rm X) : ∀ (σ : Sg), w_X16_see_355 ra jx rm Q X σ → RG σ → Shp dm ra jx rm σ → JJ p l e R s m args below meth c 3 D cA A n0 s0 QM σ 355 [(0, .ref rm)] [] := by
  intro σ h hGσ hS H locs ls hH hl hc
  have B := K.1
  unfold w_X16_see_355 at h
  refine lv_aload_n B.1 B.2.1 dX16_see_355 rfl (lv_at hl 0 rfl) ?_
  refine lv_iconst (v := i32 1) B.1 B.2.1 dX16_see_356 (by decide) ?_
  refine c_V B hH hl hc K.2.2.1 (C := RX16) (T := TX16) (N := 123) (ci := 16) (As := [.int (i32 1)]) (ok_X16_fail K.2.1 σ 1 (by unfold rng; omega) hGσ hS h) wc_X16_65 1 hd_X16_fail ⟨Nat.le_trans (Nat.le_of_ble_eq_true rfl) K.2.2.2.1, Nat.le_trans (Nat.le_of_ble_eq_true rfl) K.2.2.2.2.1⟩ hS.1.1 hS.1.2 (by decide) rfl rfl (rest := []) rfl (Nat.le_of_ble_eq_true rfl) dX16_see_357 (fun σ83 w hq => ?_) (fun σ9 E9 hx9 => hX σ9 E9 _ _ _ (tb_out K.2.2.2.2.2 rfl) hx9.1 hx9.2.1 hx9.2.2)
  obtain ⟨r84, rfl, h, hGσ83, hS⟩ := hq
  intro H locs ls hH hl hc
  refine W.eq (g2 := F0 m 360 ls [va_rf r84]) (rfl) ?_
  try dsimp only at h
  obtain ⟨qt, h⟩ := h
  refine W.eq (g2 := F0 m 360 ls [.ref (ra 1)]) (by rw [qt]; rfl) ?_
  have hx9 := And.intro h (And.intro hGσ83 hS)
  refine h_athrow B hH hl hc (ci := 14) (hS.ob (k := 1) (ci := 14) (by decide)).1 (hS.ob (k := 1) (ci := 14) (by decide)).2 (by decide) rfl dX16_see_360 ?_
  exact hX σ83 _ _ _ _ (tb_out K.2.2.2.2.2 rfl) hx9.1 hx9.2.1 hx9.2.2
set_option maxRecDepth 20000 in
theorem a_X16_see_361 {Q : Sg → Unit → Prop} {X : Sg → String → Prop} (K : MC R p s m args c cX16_see 3 RX16 D cA tys A n0 s0 4 91 []) (hQ : HQV p l e R s m args below meth c cX16_see D cA A n0 s0 QM dm ra jx rm Q) (hX : HX p l e R s m args below meth c 3 D cA A n0 s0 QM dm ra jx rm X) : ∀ (σ : Sg), w_X16_see_361 ra jx rm Q X σ → RG σ → Shp dm ra jx rm σ → JJ p l e R s m args below meth c 3 D cA A n0 s0 QM σ 361 [(0, .ref rm)] [] := by
  intro σ h hGσ hS H locs ls hH hl hc
  have B := K.1
  unfold w_X16_see_361 at h
  exact hQ _ _ _ _ _ dX16_see_361 hH hc h hGσ hS
set_option maxRecDepth 20000 in
theorem a_X16_see_337 {Q : Sg → Unit → Prop} {X : Sg → String → Prop} (K : MC R p s m args c cX16_see 3 RX16 D cA tys A n0 s0 4 91 []) (hQ : HQV p l e R s m args below meth c cX16_see D cA A n0 s0 QM dm ra jx rm Q) (hX : HX p l e R s m args below meth c 3 D cA A n0 s0 QM dm ra jx rm X) : ∀ (σ : Sg) (v1 : Int) (g1 : rng v1), w_X16_see_337 ra jx rm Q X σ v1 → RG σ → Shp dm ra jx rm σ → JJ p l e R s m args below meth c 3 D cA A n0 s0 QM σ 337 [(0, .ref rm), (1, .int (i32 v1))] [] := by
  intro σ v1 g1 h hGσ hS H locs ls hH hl hc
  have B := K.1
  unfold w_X16_see_337 at h
  refine lv_aload_n B.1 B.2.1 dX16_see_337 rfl (lv_at hl 0 rfl) ?_
  refine lv_iload_n B.1 B.2.1 dX16_see_338 rfl (lv_at hl 1 rfl) ?_
  obtain ⟨σ85, eσ85⟩ : ∃ z, z = pI σ rm 9 v1 := ⟨_, rfl⟩
  have h := h σ85 eσ85
  refine r_puti B hH hS 9 (ty := .int) (by decide) wf_X16_38 rfl rfl rfl rfl rfl rfl dX16_see_339 (fun H locs hH => ?_)
  have hH : Hd D cA A s (pI σ rm 9 v1) H locs := hH
  rw [← eσ85] at hH
  have hGσ85 : RG σ85 := by rw [eσ85]; exact hGσ.pI g1
  have hS : Shp dm ra jx rm σ85 := by rw [eσ85]; exact hS
  have hc : CB n0 s0 σ85 := by rw [eσ85]; exact hc
  rw [show gc σ = gc σ85 by rw [eσ85], show gs σ = gs σ85 by rw [eσ85]]
  refine lv_aload_n B.1 B.2.1 dX16_see_342 rfl (lv_at hl 0 rfl) ?_
  refine lv_dup B.1 B.2.1 dX16_see_343 rfl ?_
  refine r_geti B hH hS 7 (by decide) wf_X16_28 rfl rfl dX16_see_344 ?_
  refine lv_iconst (v := i32 1) B.1 B.2.1 dX16_see_347 (by decide) ?_
  obtain ⟨q2, h⟩ := h
  refine lv_iadd B.1 B.2.1 dX16_see_348 ?_
  rw [i32_add]
  obtain ⟨σ86, eσ86⟩ : ∃ z, z = pI σ85 rm 7 (gI σ85 rm 7 + 1) := ⟨_, rfl⟩
  have h := h σ86 eσ86
  refine r_puti B hH hS 7 (ty := .int) (by decide) wf_X16_28 rfl rfl rfl rfl rfl rfl dX16_see_349 (fun H locs hH => ?_)
  have hH : Hd D cA A s (pI σ85 rm 7 (gI σ85 rm 7 + 1)) H locs := hH
  rw [← eσ86] at hH
  have hGσ86 : RG σ86 := by rw [eσ86]; exact hGσ85.pI q2
  have hS : Shp dm ra jx rm σ86 := by rw [eσ86]; exact hS
  have hc : CB n0 s0 σ86 := by rw [eσ86]; exact hc
  rw [show gc σ85 = gc σ86 by rw [eσ86], show gs σ85 = gs σ86 by rw [eσ86]]
  refine lv_goto (tgt := 361) B.1 B.2.1 dX16_see_352 (by decide) ?_
  exact a_X16_see_361 K hQ hX _ h hGσ86 hS _ _ _ hH (lv_sub (l' := [(0, .ref rm)]) hl [0] rfl) hc
set_option maxRecDepth 20000 in
theorem a_X16_see_327 {Q : Sg → Unit → Prop} {X : Sg → String → Prop} (K : MC R p s m args c cX16_see 3 RX16 D cA tys A n0 s0 4 91 []) (hQ : HQV p l e R s m args below meth c cX16_see D cA A n0 s0 QM dm ra jx rm Q) (hX : HX p l e R s m args below meth c 3 D cA A n0 s0 QM dm ra jx rm X) : ∀ (σ : Sg) (v1 : Int) (g1 : rng v1), w_X16_see_327 ra jx rm Q X σ v1 → RG σ → Shp dm ra jx rm σ → JJ p l e R s m args below meth c 3 D cA A n0 s0 QM σ 327 [(0, .ref rm), (1, .int (i32 v1))] [] := by
  intro σ v1 g1 h hGσ hS H locs ls hH hl hc
  have B := K.1
  unfold w_X16_see_327 at h
  refine xs_ldc B.1 B.2.1 B.2.2.1 (B.2.2.2.2.2.2.2.2.2.2.1 _ (List.mem_of_getElem? (l := stL) (i := 0) rfl)).1 dX16_see_327 ?_
  refine lv_iload_n B.1 B.2.1 dX16_see_329 rfl (lv_at hl 1 rfl) ?_
  refine lv_i2c B.1 B.2.1 dX16_see_330 rfl ?_
  refine W.eq (g2 := F0 m 331 ls [.int (i32 (((i32 v1).toUInt32 % 65536).toInt32.toInt)), .ref (cA (1000 + 69))]) (by simp only [i32_self]) ?_
  refine c_VS B hH hl hc K.2.2.1 (C := RJ0) (As := [.int (i32 (((i32 v1).toUInt32 % 65536).toInt32.toInt))]) (ok_J0_indexOf_0f7a4 (dm := dm) (ra := ra) (jx := jx) (rm := rm) K.2.1 σ 69 (((i32 v1).toUInt32 % 65536).toInt32.toInt) st_69.1 (rng_toInt _) hGσ hS (jl_idx (Q := fun σ9 _ => σ = σ9) (X := fun _ _ => False) st_69.1 (rng_toInt _) (fun _ _ => rfl))) wc_X16_71 1 hd_J0_indexOf_0f7a4 ⟨Nat.le_trans (Nat.le_of_ble_eq_true rfl) K.2.2.2.1, Nat.le_trans (Nat.le_of_ble_eq_true rfl) K.2.2.2.2.1⟩ (xs_recv B hH st_69.1) rfl (rest := []) rfl (Nat.le_of_ble_eq_true rfl) dX16_see_331 (fun σm9 w hq => ?_) (fun σ9 E9 hx9 => False.elim hx9.1)
  obtain ⟨r87, rfl, gr87, e9, hG9, hS9⟩ := hq
  subst e9
  intro H locs ls hH hl hc
  refine W.eq (g2 := F0 m 334 ls [.int (i32 r87)]) (rfl) ?_
  have h := h r87 gr87
  refine lv_if_lt (tgt := 355) B.1 B.2.1 dX16_see_334 (by decide) (fun h9 => ?_) (fun h9 => ?_)
  · rw [if_pos ((z_lt gr87).mp h9)] at h
    exact a_X16_see_355 K hQ hX _ h hGσ hS _ _ _ hH (lv_sub (l' := [(0, .ref rm)]) hl [0] rfl) hc
  · rw [if_neg (fun q => h9 ((z_lt gr87).mpr q))] at h
    exact a_X16_see_337 K hQ hX _ _ g1 h hGσ hS _ _ _ hH (lv_sub (l' := [(0, .ref rm), (1, .int (i32 v1))]) hl [0, 1] rfl) hc
set_option maxRecDepth 20000 in
theorem a_X16_see_320 {Q : Sg → Unit → Prop} {X : Sg → String → Prop} (K : MC R p s m args c cX16_see 3 RX16 D cA tys A n0 s0 4 91 []) (hQ : HQV p l e R s m args below meth c cX16_see D cA A n0 s0 QM dm ra jx rm Q) (hX : HX p l e R s m args below meth c 3 D cA A n0 s0 QM dm ra jx rm X) : ∀ (σ : Sg) (v1 : Int) (g1 : rng v1), w_X16_see_320 ra jx rm Q X σ v1 → RG σ → Shp dm ra jx rm σ → JJ p l e R s m args below meth c 3 D cA A n0 s0 QM σ 320 [(0, .ref rm), (1, .int (i32 v1))] [] := by
  intro σ v1 g1 h hGσ hS H locs ls hH hl hc
  have B := K.1
  unfold w_X16_see_320 at h
  refine lv_iload_n B.1 B.2.1 dX16_see_320 rfl (lv_at hl 1 rfl) ?_
  refine lv_sipush (v := i32 128) B.1 B.2.1 dX16_see_321 (by decide) ?_
  refine lv_icmp_ge (tgt := 355) B.1 B.2.1 dX16_see_324 (by decide) (fun h9 => ?_) (fun h9 => ?_)
  · rw [if_pos ((i32_le (by unfold rng; omega) g1).mp h9)] at h
    exact a_X16_see_355 K hQ hX _ h hGσ hS _ _ _ hH (lv_sub (l' := [(0, .ref rm)]) hl [0] rfl) hc
  · rw [if_neg (fun q => h9 ((i32_le (by unfold rng; omega) g1).mpr q))] at h
    exact a_X16_see_327 K hQ hX _ _ g1 h hGσ hS _ _ _ hH (lv_sub (l' := [(0, .ref rm), (1, .int (i32 v1))]) hl [0, 1] rfl) hc
set_option maxRecDepth 20000 in
theorem a_X16_see_317 {Q : Sg → Unit → Prop} {X : Sg → String → Prop} (K : MC R p s m args c cX16_see 3 RX16 D cA tys A n0 s0 4 91 []) (hQ : HQV p l e R s m args below meth c cX16_see D cA A n0 s0 QM dm ra jx rm Q) (hX : HX p l e R s m args below meth c 3 D cA A n0 s0 QM dm ra jx rm X) : ∀ (σ : Sg), w_X16_see_317 ra jx rm Q X σ → RG σ → Shp dm ra jx rm σ → JJ p l e R s m args below meth c 3 D cA A n0 s0 QM σ 317 [(0, .ref rm)] [] := by
  intro σ h hGσ hS H locs ls hH hl hc
  have B := K.1
  unfold w_X16_see_317 at h
  refine lv_goto (tgt := 361) B.1 B.2.1 dX16_see_317 (by decide) ?_
  exact a_X16_see_361 K hQ hX _ h hGσ hS _ _ _ hH (lv_sub (l' := [(0, .ref rm)]) hl [0] rfl) hc
set_option maxRecDepth 20000 in
theorem a_X16_see_311 {Q : Sg → Unit → Prop} {X : Sg → String → Prop} (K : MC R p s m args c cX16_see 3 RX16 D cA tys A n0 s0 4 91 []) (hQ : HQV p l e R s m args below meth c cX16_see D cA A n0 s0 QM dm ra jx rm Q) (hX : HX p l e R s m args below meth c 3 D cA A n0 s0 QM dm ra jx rm X) : ∀ (σ : Sg), w_X16_see_311 ra jx rm Q X σ → RG σ → Shp dm ra jx rm σ → JJ p l e R s m args below meth c 3 D cA A n0 s0 QM σ 311 [(0, .ref rm)] [] := by
  intro σ h hGσ hS H locs ls hH hl hc
  have B := K.1
  unfold w_X16_see_311 at h
  refine lv_aload_n B.1 B.2.1 dX16_see_311 rfl (lv_at hl 0 rfl) ?_
  refine lv_iconst (v := i32 2) B.1 B.2.1 dX16_see_312 (by decide) ?_
  refine c_V B hH hl hc K.2.2.1 (C := RX16) (T := TX16) (N := 123) (ci := 16) (As := [.int (i32 2)]) (ok_X16_fail K.2.1 σ 2 (by unfold rng; omega) hGσ hS h) wc_X16_65 1 hd_X16_fail ⟨Nat.le_trans (Nat.le_of_ble_eq_true rfl) K.2.2.2.1, Nat.le_trans (Nat.le_of_ble_eq_true rfl) K.2.2.2.2.1⟩ hS.1.1 hS.1.2 (by decide) rfl rfl (rest := []) rfl (Nat.le_of_ble_eq_true rfl) dX16_see_313 (fun σ88 w hq => ?_) (fun σ9 E9 hx9 => hX σ9 E9 _ _ _ (tb_out K.2.2.2.2.2 rfl) hx9.1 hx9.2.1 hx9.2.2)
  obtain ⟨r89, rfl, h, hGσ88, hS⟩ := hq
  intro H locs ls hH hl hc
  refine W.eq (g2 := F0 m 316 ls [va_rf r89]) (rfl) ?_
  try dsimp only at h
  obtain ⟨qt, h⟩ := h
  refine W.eq (g2 := F0 m 316 ls [.ref (ra 1)]) (by rw [qt]; rfl) ?_
  have hx9 := And.intro h (And.intro hGσ88 hS)
  refine h_athrow B hH hl hc (ci := 14) (hS.ob (k := 1) (ci := 14) (by decide)).1 (hS.ob (k := 1) (ci := 14) (by decide)).2 (by decide) rfl dX16_see_316 ?_
  exact hX σ88 _ _ _ _ (tb_out K.2.2.2.2.2 rfl) hx9.1 hx9.2.1 hx9.2.2
set_option maxRecDepth 20000 in
theorem a_X16_see_305 {Q : Sg → Unit → Prop} {X : Sg → String → Prop} (K : MC R p s m args c cX16_see 3 RX16 D cA tys A n0 s0 4 91 []) (hQ : HQV p l e R s m args below meth c cX16_see D cA A n0 s0 QM dm ra jx rm Q) (hX : HX p l e R s m args below meth c 3 D cA A n0 s0 QM dm ra jx rm X) : ∀ (σ : Sg) (v2 : Int) (g2 : rng v2), w_X16_see_305 ra jx rm Q X σ v2 → RG σ → Shp dm ra jx rm σ → JJ p l e R s m args below meth c 3 D cA A n0 s0 QM σ 305 [(0, .ref rm), (2, .int (i32 v2))] [] := by
  intro σ v2 g2 h hGσ hS H locs ls hH hl hc
  have B := K.1
  unfold w_X16_see_305 at h
  refine lv_iload_n B.1 B.2.1 dX16_see_305 rfl (lv_at hl 1 rfl) ?_
  refine lv_bipush (v := i32 18) B.1 B.2.1 dX16_see_306 (by decide) ?_
  refine lv_icmp_le (tgt := 317) B.1 B.2.1 dX16_see_308 (by decide) (fun h9 => ?_) (fun h9 => ?_)
  · rw [if_pos ((i32_le g2 (by unfold rng; omega)).mp h9)] at h
    exact a_X16_see_317 K hQ hX _ h hGσ hS _ _ _ hH (lv_sub (l' := [(0, .ref rm)]) hl [0] rfl) hc
  · rw [if_neg (fun q => h9 ((i32_le g2 (by unfold rng; omega)).mpr q))] at h
    exact a_X16_see_311 K hQ hX _ h hGσ hS _ _ _ hH (lv_sub (l' := [(0, .ref rm)]) hl [0] rfl) hc
set_option maxRecDepth 20000 in
theorem a_X16_see_263 {Q : Sg → Unit → Prop} {X : Sg → String → Prop} (K : MC R p s m args c cX16_see 3 RX16 D cA tys A n0 s0 4 91 []) (hQ : HQV p l e R s m args below meth c cX16_see D cA A n0 s0 QM dm ra jx rm Q) (hX : HX p l e R s m args below meth c 3 D cA A n0 s0 QM dm ra jx rm X) {K231 : Sg → Int → Prop} (hK231 : ∀ (σ : Sg) (v2 : Int) (g2 : rng v2), K231 σ v2 → RG σ → Shp dm ra jx rm σ → JJ p l e R s m args below meth c 3 D cA A n0 s0 QM σ 231 [(0, .ref rm), (2, .int (i32 v2))] []) : ∀ (σ : Sg) (v2 : Int) (g2 : rng v2), w_X16_see_263 ra jx rm K231 Q X σ v2 → RG σ → Shp dm ra jx rm σ → JJ p l e R s m args below meth c 3 D cA A n0 s0 QM σ 263 [(0, .ref rm), (2, .int (i32 v2))] [] := by
  intro σ v2 g2 h hGσ hS H locs ls hH hl hc
  have B := K.1
  unfold w_X16_see_263 at h
  refine lv_aload_n B.1 B.2.1 dX16_see_263 rfl (lv_at hl 0 rfl) ?_
  refine lv_ldc2 B.1 B.2.1 B.2.2.1 (B.2.2.2.1 _ (wk_X16_63)) dX16_see_264 ?_
  refine lv_aload_n B.1 B.2.1 dX16_see_267 rfl (lv_at hl 0 rfl) ?_
  refine r_getl B hH hS 13 (by decide) wf_X16_60 rfl rfl dX16_see_268 ?_
  refine lv_lmul B.1 B.2.1 dX16_see_271 ?_
  refine lv_aload_n B.1 B.2.1 dX16_see_272 rfl (lv_at hl 0 rfl) ?_
  refine lv_aload_n B.1 B.2.1 dX16_see_273 rfl (lv_at hl 0 rfl) ?_
  refine r_geti B hH hS 7 (by decide) wf_X16_28 rfl rfl dX16_see_274 ?_
  refine c_V B hH hl hc K.2.2.1 (C := RX16) (T := TX16) (N := 123) (ci := 16) (As := [.int (i32 (gI σ rm 7))]) (ok_X16_byteAt K.2.1 σ (gI σ rm 7) (hGσ _ _) hGσ hS h) wc_X16_34 1 hd_X16_byteAt ⟨Nat.le_trans (Nat.le_of_ble_eq_true rfl) K.2.2.2.1, Nat.le_trans (Nat.le_of_ble_eq_true rfl) K.2.2.2.2.1⟩ hS.1.1 hS.1.2 (by decide) rfl rfl (rest := [.long (10 * gJ σ rm 13), .ref rm]) rfl (Nat.le_of_ble_eq_true rfl) dX16_see_277 (fun σ90 w hq => ?_) (fun σ9 E9 hx9 => hX σ9 E9 _ _ _ (tb_out K.2.2.2.2.2 rfl) hx9.1 hx9.2.1 hx9.2.2)
  obtain ⟨r91, rfl, gr91, h, hGσ90, hS⟩ := hq
  intro H locs ls hH hl hc
  refine W.eq (g2 := F0 m 280 ls [.int (i32 r91), .long (10 * gJ σ rm 13), .ref rm]) (rfl) ?_
  try dsimp only at h
  refine lv_i2l B.1 B.2.1 dX16_see_280 (i32_i64 gr91) ?_
  refine lv_ladd B.1 B.2.1 dX16_see_281 ?_
  refine lv_ldc2 B.1 B.2.1 B.2.2.1 (B.2.2.2.1 _ (wk_X16_56)) dX16_see_282 ?_
  refine lv_lsub B.1 B.2.1 dX16_see_285 ?_
  obtain ⟨σ92, eσ92⟩ : ∃ z, z = pJ σ90 rm 13 (((10 * gJ σ rm 13) + (Int64.ofInt r91)) - 48) := ⟨_, rfl⟩
  have h := h σ92 eσ92
  refine r_putl B hH hS 13 (by decide) wf_X16_60 rfl rfl rfl rfl dX16_see_286 (fun H locs hH => ?_)
  have hH : Hd D cA A s (pJ σ90 rm 13 (((10 * gJ σ rm 13) + (Int64.ofInt r91)) - 48)) H locs := hH
  rw [← eσ92] at hH
  have hGσ92 : RG σ92 := by rw [eσ92]; exact hGσ90.pJ
  have hS : Shp dm ra jx rm σ92 := by rw [eσ92]; exact hS
  have hc : CB n0 s0 σ92 := by rw [eσ92]; exact hc
  rw [show gc σ90 = gc σ92 by rw [eσ92], show gs σ90 = gs σ92 by rw [eσ92]]
  obtain ⟨q2, h⟩ := h
  refine lv_iinc (k := 1) (v := i32 (v2 + 1)) (lv' := [(2, .int (i32 (v2 + 1))), (0, .ref rm)]) B.1 B.2.1 dX16_see_289 hl rfl (i32_add _ _) (by decide) rfl (fun ls hl => ?_)
  refine lv_aload_n B.1 B.2.1 dX16_see_292 rfl (lv_at hl 1 rfl) ?_
  refine lv_dup B.1 B.2.1 dX16_see_293 rfl ?_
  refine r_geti B hH hS 7 (by decide) wf_X16_28 rfl rfl dX16_see_294 ?_
  refine lv_iconst (v := i32 1) B.1 B.2.1 dX16_see_297 (by decide) ?_
  obtain ⟨q3, h⟩ := h
  refine lv_iadd B.1 B.2.1 dX16_see_298 ?_
  rw [i32_add]
  obtain ⟨σ93, eσ93⟩ : ∃ z, z = pI σ92 rm 7 (gI σ92 rm 7 + 1) := ⟨_, rfl⟩
  have h := h σ93 eσ93
  refine r_puti B hH hS 7 (ty := .int) (by decide) wf_X16_28 rfl rfl rfl rfl rfl rfl dX16_see_299 (fun H locs hH => ?_)
  have hH : Hd D cA A s (pI σ92 rm 7 (gI σ92 rm 7 + 1)) H locs := hH
  rw [← eσ93] at hH
  have hGσ93 : RG σ93 := by rw [eσ93]; exact hGσ92.pI q3
  have hS : Shp dm ra jx rm σ93 := by rw [eσ93]; exact hS
  have hc : CB n0 s0 σ93 := by rw [eσ93]; exact hc
  rw [show gc σ92 = gc σ93 by rw [eσ93], show gs σ92 = gs σ93 by rw [eσ93]]
  refine lv_goto (tgt := 231) B.1 B.2.1 dX16_see_302 (by decide) ?_
  exact hK231 _ _ q2 h hGσ93 hS _ _ _ hH (lv_sub (l' := [(0, .ref rm), (2, .int (i32 (v2 + 1)))]) hl [1, 0] rfl) hc
set_option maxRecDepth 20000 in
theorem a_X16_see_242 {Q : Sg → Unit → Prop} {X : Sg → String → Prop} (K : MC R p s m args c cX16_see 3 RX16 D cA tys A n0 s0 4 91 []) (hQ : HQV p l e R s m args below meth c cX16_see D cA A n0 s0 QM dm ra jx rm Q) (hX : HX p l e R s m args below meth c 3 D cA A n0 s0 QM dm ra jx rm X) {K231 : Sg → Int → Prop} (hK231 : ∀ (σ : Sg) (v2 : Int) (g2 : rng v2), K231 σ v2 → RG σ → Shp dm ra jx rm σ → JJ p l e R s m args below meth c 3 D cA A n0 s0 QM σ 231 [(0, .ref rm), (2, .int (i32 v2))] []) : ∀ (σ : Sg) (v2 : Int) (g2 : rng v2), w_X16_see_242 ra jx rm K231 Q X σ v2 → RG σ → Shp dm ra jx rm σ → JJ p l e R s m args below meth c 3 D cA A n0 s0 QM σ 242 [(0, .ref rm), (2, .int (i32 v2))] [] := by
  intro σ v2 g2 h hGσ hS H locs ls hH hl hc
  have B := K.1
  unfold w_X16_see_242 at h
  refine lv_aload_n B.1 B.2.1 dX16_see_242 rfl (lv_at hl 0 rfl) ?_
  refine lv_aload_n B.1 B.2.1 dX16_see_243 rfl (lv_at hl 0 rfl) ?_
  refine r_geti B hH hS 7 (by decide) wf_X16_28 rfl rfl dX16_see_244 ?_
  refine c_V B hH hl hc K.2.2.1 (C := RX16) (T := TX16) (N := 123) (ci := 16) (As := [.int (i32 (gI σ rm 7))]) (ok_X16_byteAt K.2.1 σ (gI σ rm 7) (hGσ _ _) hGσ hS h) wc_X16_34 1 hd_X16_byteAt ⟨Nat.le_trans (Nat.le_of_ble_eq_true rfl) K.2.2.2.1, Nat.le_trans (Nat.le_of_ble_eq_true rfl) K.2.2.2.2.1⟩ hS.1.1 hS.1.2 (by decide) rfl rfl (rest := []) rfl (Nat.le_of_ble_eq_true rfl) dX16_see_247 (fun σ94 w hq => ?_) (fun σ9 E9 hx9 => hX σ9 E9 _ _ _ (tb_out K.2.2.2.2.2 rfl) hx9.1 hx9.2.1 hx9.2.2)
  obtain ⟨r95, rfl, gr95, h, hGσ94, hS⟩ := hq
  intro H locs ls hH hl hc
  refine W.eq (g2 := F0 m 250 ls [.int (i32 r95)]) (rfl) ?_
  try dsimp only at h
  refine lv_i2l B.1 B.2.1 dX16_see_250 (i32_i64 gr95) ?_
  refine lv_ldc2 B.1 B.2.1 B.2.2.1 (B.2.2.2.1 _ (wk_X16_56)) dX16_see_251 ?_
  refine lv_ldc2 B.1 B.2.1 B.2.2.1 (B.2.2.2.1 _ (wk_X16_58)) dX16_see_254 ?_
  refine c_S B hH hl hc K.2.2.1 (As := [.long (Int64.ofInt r95), .long 48, .long 57]) (ok_X16_within K.2.1 σ94 (Int64.ofInt r95) 48 57 hGσ94 hS h) wc_X16_45 3 hd_X16_within ⟨Nat.le_trans (Nat.le_of_ble_eq_true rfl) K.2.2.2.1, Nat.le_trans (Nat.le_of_ble_eq_true rfl) K.2.2.2.2.1⟩ rfl (rest := []) rfl (Nat.le_of_ble_eq_true rfl) dX16_see_257 (fun σ96 w hq => ?_) (fun σ9 E9 hx9 => hX σ9 E9 _ _ _ (tb_out K.2.2.2.2.2 rfl) hx9.1 hx9.2.1 hx9.2.2)
  obtain ⟨r97, rfl, ⟨gr97, gzr97⟩, h, hGσ96, hS⟩ := hq
  intro H locs ls hH hl hc
  refine W.eq (g2 := F0 m 260 ls [.int (i32 r97)]) (rfl) ?_
  try dsimp only at h
  refine lv_if_eq (tgt := 305) B.1 B.2.1 dX16_see_260 (by decide) (fun h9 => ?_) (fun h9 => ?_)
  · rw [if_pos ((z_eq gr97).mp h9)] at h
    exact a_X16_see_305 K hQ hX _ _ g2 h hGσ96 hS _ _ _ hH (lv_sub (l' := [(0, .ref rm), (2, .int (i32 v2))]) hl [0, 1] rfl) hc
  · rw [if_neg (fun q => h9 ((z_eq gr97).mpr q))] at h
    exact a_X16_see_263 K hQ hX hK231 _ _ g2 h hGσ96 hS _ _ _ hH (lv_sub (l' := [(0, .ref rm), (2, .int (i32 v2))]) hl [0, 1] rfl) hc
set_option maxRecDepth 20000 in
theorem a_X16_see_231 {Q : Sg → Unit → Prop} {X : Sg → String → Prop} (K : MC R p s m args c cX16_see 3 RX16 D cA tys A n0 s0 4 91 []) (hQ : HQV p l e R s m args below meth c cX16_see D cA A n0 s0 QM dm ra jx rm Q) (hX : HX p l e R s m args below meth c 3 D cA A n0 s0 QM dm ra jx rm X) {K231 : Sg → Int → Prop} (hK231 : ∀ (σ : Sg) (v2 : Int) (g2 : rng v2), K231 σ v2 → RG σ → Shp dm ra jx rm σ → JJ p l e R s m args below meth c 3 D cA A n0 s0 QM σ 231 [(0, .ref rm), (2, .int (i32 v2))] []) : ∀ (σ : Sg) (v2 : Int) (g2 : rng v2), w_X16_see_231 ra jx rm K231 Q X σ v2 → RG σ → Shp dm ra jx rm σ → JJ p l e R s m args below meth c 3 D cA A n0 s0 QM σ 231 [(0, .ref rm), (2, .int (i32 v2))] [] := by
  intro σ v2 g2 h hGσ hS H locs ls hH hl hc
  have B := K.1
  unfold w_X16_see_231 at h
  refine lv_aload_n B.1 B.2.1 dX16_see_231 rfl (lv_at hl 0 rfl) ?_
  refine r_geti B hH hS 7 (by decide) wf_X16_28 rfl rfl dX16_see_232 ?_
  refine lv_aload_n B.1 B.2.1 dX16_see_235 rfl (lv_at hl 0 rfl) ?_
  refine r_geti B hH hS 6 (by decide) wf_X16_31 rfl rfl dX16_see_236 ?_
  refine lv_icmp_ge (tgt := 305) B.1 B.2.1 dX16_see_239 (by decide) (fun h9 => ?_) (fun h9 => ?_)
  · rw [if_pos ((i32_le (hGσ _ _) (hGσ _ _)).mp h9)] at h
    exact a_X16_see_305 K hQ hX _ _ g2 h hGσ hS _ _ _ hH (lv_sub (l' := [(0, .ref rm), (2, .int (i32 v2))]) hl [0, 1] rfl) hc
  · rw [if_neg (fun q => h9 ((i32_le (hGσ _ _) (hGσ _ _)).mpr q))] at h
    exact a_X16_see_242 K hQ hX hK231 _ _ g2 h hGσ hS _ _ _ hH (lv_sub (l' := [(0, .ref rm), (2, .int (i32 v2))]) hl [0, 1] rfl) hc
theorem al_X16_see_231 {Q : Sg → Unit → Prop} {X : Sg → String → Prop} (K : MC R p s m args c cX16_see 3 RX16 D cA tys A n0 s0 4 91 []) (hQ : HQV p l e R s m args below meth c cX16_see D cA A n0 s0 QM dm ra jx rm Q) (hX : HX p l e R s m args below meth c 3 D cA A n0 s0 QM dm ra jx rm X) : ∀ (n : Nat), ∀ (σ : Sg) (v2 : Int) (g2 : rng v2), wl_X16_see_231 ra jx rm Q X n σ v2 → RG σ → Shp dm ra jx rm σ → JJ p l e R s m args below meth c 3 D cA A n0 s0 QM σ 231 [(0, .ref rm), (2, .int (i32 v2))] [] := by
  intro n
  induction n with
  | zero => intro σ v2 g2 h; exact h.elim
  | succ n ih => exact fun σ v2 g2 h => a_X16_see_231 K hQ hX ih σ v2 g2 h
set_option maxRecDepth 20000 in
theorem a_X16_see_219 {Q : Sg → Unit → Prop} {X : Sg → String → Prop} (K : MC R p s m args c cX16_see 3 RX16 D cA tys A n0 s0 4 91 []) (hQ : HQV p l e R s m args below meth c cX16_see D cA A n0 s0 QM dm ra jx rm Q) (hX : HX p l e R s m args below meth c 3 D cA A n0 s0 QM dm ra jx rm X) : ∀ (σ : Sg), w_X16_see_219 ra jx rm Q X σ → RG σ → Shp dm ra jx rm σ → JJ p l e R s m args below meth c 3 D cA A n0 s0 QM σ 219 [(0, .ref rm)] [] := by
  intro σ h hGσ hS H locs ls hH hl hc
  have B := K.1
  unfold w_X16_see_219 at h
  refine lv_aload_n B.1 B.2.1 dX16_see_219 rfl (lv_at hl 0 rfl) ?_
  refine lv_iconst (v := i32 2) B.1 B.2.1 dX16_see_220 (by decide) ?_
  obtain ⟨σ98, eσ98⟩ : ∃ z, z = pI σ rm 9 2 := ⟨_, rfl⟩
  have h := h σ98 eσ98
  refine r_puti B hH hS 9 (ty := .int) (by decide) wf_X16_38 rfl rfl rfl rfl rfl rfl dX16_see_221 (fun H locs hH => ?_)
  have hH : Hd D cA A s (pI σ rm 9 2) H locs := hH
  rw [← eσ98] at hH
  have hGσ98 : RG σ98 := by rw [eσ98]; exact hGσ.pI (by unfold rng; omega)
  have hS : Shp dm ra jx rm σ98 := by rw [eσ98]; exact hS
  have hc : CB n0 s0 σ98 := by rw [eσ98]; exact hc
  rw [show gc σ = gc σ98 by rw [eσ98], show gs σ = gs σ98 by rw [eσ98]]
  refine lv_aload_n B.1 B.2.1 dX16_see_224 rfl (lv_at hl 0 rfl) ?_
  refine lv_lconst (v := 0) B.1 B.2.1 dX16_see_225 (by decide) ?_
  obtain ⟨σ99, eσ99⟩ : ∃ z, z = pJ σ98 rm 13 0 := ⟨_, rfl⟩
  have h := h σ99 eσ99
  refine r_putl B hH hS 13 (by decide) wf_X16_60 rfl rfl rfl rfl dX16_see_226 (fun H locs hH => ?_)
  have hH : Hd D cA A s (pJ σ98 rm 13 0) H locs := hH
  rw [← eσ99] at hH
  have hGσ99 : RG σ99 := by rw [eσ99]; exact hGσ98.pJ
  have hS : Shp dm ra jx rm σ99 := by rw [eσ99]; exact hS
  have hc : CB n0 s0 σ99 := by rw [eσ99]; exact hc
  rw [show gc σ98 = gc σ99 by rw [eσ99], show gs σ98 = gs σ99 by rw [eσ99]]
  refine lv_iconst (v := i32 0) B.1 B.2.1 dX16_see_229 (by decide) ?_
  refine lv_istore_n (lv' := [(2, .int (i32 0)), (0, .ref rm)]) B.1 B.2.1 dX16_see_230 rfl hl (by decide) rfl (fun ls hl => ?_)
  obtain ⟨n9, h⟩ := h
  exact al_X16_see_231 K hQ hX n9 _ _ (by unfold rng; omega) h hGσ99 hS _ _ _ hH (lv_sub (l' := [(0, .ref rm), (2, .int (i32 0))]) hl [1, 0] rfl) hc
set_option maxRecDepth 20000 in
theorem a_X16_see_205 {Q : Sg → Unit → Prop} {X : Sg → String → Prop} (K : MC R p s m args c cX16_see 3 RX16 D cA tys A n0 s0 4 91 []) (hQ : HQV p l e R s m args below meth c cX16_see D cA A n0 s0 QM dm ra jx rm Q) (hX : HX p l e R s m args below meth c 3 D cA A n0 s0 QM dm ra jx rm X) : ∀ (σ : Sg) (v1 : Int) (g1 : rng v1), w_X16_see_205 ra jx rm Q X σ v1 → RG σ → Shp dm ra jx rm σ → JJ p l e R s m args below meth c 3 D cA A n0 s0 QM σ 205 [(0, .ref rm), (1, .int (i32 v1))] [] := by
  intro σ v1 g1 h hGσ hS H locs ls hH hl hc
  have B := K.1
  unfold w_X16_see_205 at h
  refine lv_iload_n B.1 B.2.1 dX16_see_205 rfl (lv_at hl 1 rfl) ?_
  refine lv_i2l B.1 B.2.1 dX16_see_206 (i32_i64 g1) ?_
  refine lv_ldc2 B.1 B.2.1 B.2.2.1 (B.2.2.2.1 _ (wk_X16_56)) dX16_see_207 ?_
  refine lv_ldc2 B.1 B.2.1 B.2.2.1 (B.2.2.2.1 _ (wk_X16_58)) dX16_see_210 ?_
  refine c_S B hH hl hc K.2.2.1 (As := [.long (Int64.ofInt v1), .long 48, .long 57]) (ok_X16_within K.2.1 σ (Int64.ofInt v1) 48 57 hGσ hS h) wc_X16_45 3 hd_X16_within ⟨Nat.le_trans (Nat.le_of_ble_eq_true rfl) K.2.2.2.1, Nat.le_trans (Nat.le_of_ble_eq_true rfl) K.2.2.2.2.1⟩ rfl (rest := []) rfl (Nat.le_of_ble_eq_true rfl) dX16_see_213 (fun σ100 w hq => ?_) (fun σ9 E9 hx9 => hX σ9 E9 _ _ _ (tb_out K.2.2.2.2.2 rfl) hx9.1 hx9.2.1 hx9.2.2)
  obtain ⟨r101, rfl, ⟨gr101, gzr101⟩, h, hGσ100, hS⟩ := hq
  intro H locs ls hH hl hc
  refine W.eq (g2 := F0 m 216 ls [.int (i32 r101)]) (rfl) ?_
  try dsimp only at h
  refine lv_if_eq (tgt := 320) B.1 B.2.1 dX16_see_216 (by decide) (fun h9 => ?_) (fun h9 => ?_)
  · rw [if_pos ((z_eq gr101).mp h9)] at h
    exact a_X16_see_320 K hQ hX _ _ g1 h hGσ100 hS _ _ _ hH (lv_sub (l' := [(0, .ref rm), (1, .int (i32 v1))]) hl [0, 1] rfl) hc
  · rw [if_neg (fun q => h9 ((z_eq gr101).mpr q))] at h
    exact a_X16_see_219 K hQ hX _ h hGσ100 hS _ _ _ hH (lv_sub (l' := [(0, .ref rm)]) hl [0] rfl) hc
set_option maxRecDepth 20000 in
theorem a_X16_see_179 {Q : Sg → Unit → Prop} {X : Sg → String → Prop} (K : MC R p s m args c cX16_see 3 RX16 D cA tys A n0 s0 4 91 []) (hQ : HQV p l e R s m args below meth c cX16_see D cA A n0 s0 QM dm ra jx rm Q) (hX : HX p l e R s m args below meth c 3 D cA A n0 s0 QM dm ra jx rm X) {K113 : Sg → Prop} (hK113 : ∀ (σ : Sg), K113 σ → RG σ → Shp dm ra jx rm σ → JJ p l e R s m args below meth c 3 D cA A n0 s0 QM σ 113 [(0, .ref rm)] []) : ∀ (σ : Sg) (u0 : Int64), w_X16_see_179 ra jx rm K113 Q X σ u0 → RG σ → Shp dm ra jx rm σ → JJ p l e R s m args below meth c 3 D cA A n0 s0 QM σ 179 [(0, .ref rm)] [.long u0, .ref rm] := by
  intro σ u0 h hGσ hS H locs ls hH hl hc
  have B := K.1
  unfold w_X16_see_179 at h
  obtain ⟨σ102, eσ102⟩ : ∃ z, z = pJ σ rm 11 u0 := ⟨_, rfl⟩
  have h := h σ102 eσ102
  refine r_putl B hH hS 11 (by decide) wf_X16_49 rfl rfl rfl rfl dX16_see_179 (fun H locs hH => ?_)
  have hH : Hd D cA A s (pJ σ rm 11 u0) H locs := hH
  rw [← eσ102] at hH
  have hGσ102 : RG σ102 := by rw [eσ102]; exact hGσ.pJ
  have hS : Shp dm ra jx rm σ102 := by rw [eσ102]; exact hS
  have hc : CB n0 s0 σ102 := by rw [eσ102]; exact hc
  rw [show gc σ = gc σ102 by rw [eσ102], show gs σ = gs σ102 by rw [eσ102]]
  refine lv_aload_n B.1 B.2.1 dX16_see_182 rfl (lv_at hl 0 rfl) ?_
  refine lv_dup B.1 B.2.1 dX16_see_183 rfl ?_
  refine r_geti B hH hS 12 (by decide) wf_X16_53 rfl rfl dX16_see_184 ?_
  refine lv_iconst (v := i32 1) B.1 B.2.1 dX16_see_187 (by decide) ?_
  obtain ⟨q2, h⟩ := h
  refine lv_iadd B.1 B.2.1 dX16_see_188 ?_
  rw [i32_add]
  obtain ⟨σ103, eσ103⟩ : ∃ z, z = pI σ102 rm 12 (gI σ102 rm 12 + 1) := ⟨_, rfl⟩
  have h := h σ103 eσ103
  refine r_puti B hH hS 12 (ty := .int) (by decide) wf_X16_53 rfl rfl rfl rfl rfl rfl dX16_see_189 (fun H locs hH => ?_)
  have hH : Hd D cA A s (pI σ102 rm 12 (gI σ102 rm 12 + 1)) H locs := hH
  rw [← eσ103] at hH
  have hGσ103 : RG σ103 := by rw [eσ103]; exact hGσ102.pI q2
  have hS : Shp dm ra jx rm σ103 := by rw [eσ103]; exact hS
  have hc : CB n0 s0 σ103 := by rw [eσ103]; exact hc
  rw [show gc σ102 = gc σ103 by rw [eσ103], show gs σ102 = gs σ103 by rw [eσ103]]
  refine lv_aload_n B.1 B.2.1 dX16_see_192 rfl (lv_at hl 0 rfl) ?_
  refine lv_dup B.1 B.2.1 dX16_see_193 rfl ?_
  refine r_geti B hH hS 7 (by decide) wf_X16_28 rfl rfl dX16_see_194 ?_
  refine lv_iconst (v := i32 1) B.1 B.2.1 dX16_see_197 (by decide) ?_
  obtain ⟨q4, h⟩ := h
  refine lv_iadd B.1 B.2.1 dX16_see_198 ?_
  rw [i32_add]
  obtain ⟨σ104, eσ104⟩ : ∃ z, z = pI σ103 rm 7 (gI σ103 rm 7 + 1) := ⟨_, rfl⟩
  have h := h σ104 eσ104
  refine r_puti B hH hS 7 (ty := .int) (by decide) wf_X16_28 rfl rfl rfl rfl rfl rfl dX16_see_199 (fun H locs hH => ?_)
  have hH : Hd D cA A s (pI σ103 rm 7 (gI σ103 rm 7 + 1)) H locs := hH
  rw [← eσ104] at hH
  have hGσ104 : RG σ104 := by rw [eσ104]; exact hGσ103.pI q4
  have hS : Shp dm ra jx rm σ104 := by rw [eσ104]; exact hS
  have hc : CB n0 s0 σ104 := by rw [eσ104]; exact hc
  rw [show gc σ103 = gc σ104 by rw [eσ104], show gs σ103 = gs σ104 by rw [eσ104]]
  refine lv_goto (tgt := 113) B.1 B.2.1 dX16_see_202 (by decide) ?_
  exact hK113 _ h hGσ104 hS _ _ _ hH (lv_sub (l' := [(0, .ref rm)]) hl [0] rfl) hc
set_option maxRecDepth 20000 in
theorem a_X16_see_175 {Q : Sg → Unit → Prop} {X : Sg → String → Prop} (K : MC R p s m args c cX16_see 3 RX16 D cA tys A n0 s0 4 91 []) (hQ : HQV p l e R s m args below meth c cX16_see D cA A n0 s0 QM dm ra jx rm Q) (hX : HX p l e R s m args below meth c 3 D cA A n0 s0 QM dm ra jx rm X) {K113 : Sg → Prop} (hK113 : ∀ (σ : Sg), K113 σ → RG σ → Shp dm ra jx rm σ → JJ p l e R s m args below meth c 3 D cA A n0 s0 QM σ 113 [(0, .ref rm)] []) : ∀ (σ : Sg), w_X16_see_175 ra jx rm K113 Q X σ → RG σ → Shp dm ra jx rm σ → JJ p l e R s m args below meth c 3 D cA A n0 s0 QM σ 175 [(0, .ref rm)] [.ref rm] := by
  intro σ h hGσ hS H locs ls hH hl hc
  have B := K.1
  unfold w_X16_see_175 at h
  refine lv_aload_n B.1 B.2.1 dX16_see_175 rfl (lv_at hl 0 rfl) ?_
  refine r_getl B hH hS 11 (by decide) wf_X16_49 rfl rfl dX16_see_176 ?_
  exact a_X16_see_179 K hQ hX hK113 _ _ h hGσ hS _ _ _ hH (lv_sub (l' := [(0, .ref rm)]) hl [0] rfl) hc
set_option maxRecDepth 20000 in
theorem a_X16_see_155 {Q : Sg → Unit → Prop} {X : Sg → String → Prop} (K : MC R p s m args c cX16_see 3 RX16 D cA tys A n0 s0 4 91 []) (hQ : HQV p l e R s m args below meth c cX16_see D cA A n0 s0 QM dm ra jx rm Q) (hX : HX p l e R s m args below meth c 3 D cA A n0 s0 QM dm ra jx rm X) {K113 : Sg → Prop} (hK113 : ∀ (σ : Sg), K113 σ → RG σ → Shp dm ra jx rm σ → JJ p l e R s m args below meth c 3 D cA A n0 s0 QM σ 113 [(0, .ref rm)] []) : ∀ (σ : Sg), w_X16_see_155 ra jx rm K113 Q X σ → RG σ → Shp dm ra jx rm σ → JJ p l e R s m args below meth c 3 D cA A n0 s0 QM σ 155 [(0, .ref rm)] [.ref rm] := by
  intro σ h hGσ hS H locs ls hH hl hc
  have B := K.1
  unfold w_X16_see_155 at h
  refine lv_aload_n B.1 B.2.1 dX16_see_155 rfl (lv_at hl 0 rfl) ?_
  refine r_getl B hH hS 11 (by decide) wf_X16_49 rfl rfl dX16_see_156 ?_
  refine lv_bipush (v := i32 8) B.1 B.2.1 dX16_see_159 (by decide) ?_
  refine lv_lshl B.1 B.2.1 dX16_see_161 rfl ?_
  refine lv_aload_n B.1 B.2.1 dX16_see_162 rfl (lv_at hl 0 rfl) ?_
  refine lv_aload_n B.1 B.2.1 dX16_see_163 rfl (lv_at hl 0 rfl) ?_
  refine r_geti B hH hS 7 (by decide) wf_X16_28 rfl rfl dX16_see_164 ?_
  refine c_V B hH hl hc K.2.2.1 (C := RX16) (T := TX16) (N := 123) (ci := 16) (As := [.int (i32 (gI σ rm 7))]) (ok_X16_byteAt K.2.1 σ (gI σ rm 7) (hGσ _ _) hGσ hS h) wc_X16_34 1 hd_X16_byteAt ⟨Nat.le_trans (Nat.le_of_ble_eq_true rfl) K.2.2.2.1, Nat.le_trans (Nat.le_of_ble_eq_true rfl) K.2.2.2.2.1⟩ hS.1.1 hS.1.2 (by decide) rfl rfl (rest := [.long (gJ σ rm 11 <<< ((i32 8).toInt64 &&& 63)), .ref rm]) rfl (Nat.le_of_ble_eq_true rfl) dX16_see_167 (fun σ105 w hq => ?_) (fun σ9 E9 hx9 => hX σ9 E9 _ _ _ (tb_out K.2.2.2.2.2 rfl) hx9.1 hx9.2.1 hx9.2.2)
  obtain ⟨r106, rfl, gr106, h, hGσ105, hS⟩ := hq
  intro H locs ls hH hl hc
  refine W.eq (g2 := F0 m 170 ls [.int (i32 r106), .long (gJ σ rm 11 <<< ((i32 8).toInt64 &&& 63)), .ref rm]) (rfl) ?_
  try dsimp only at h
  refine lv_i2l B.1 B.2.1 dX16_see_170 (i32_i64 gr106) ?_
  refine lv_lor B.1 B.2.1 dX16_see_171 ?_
  refine lv_goto (tgt := 179) B.1 B.2.1 dX16_see_172 (by decide) ?_
  exact a_X16_see_179 K hQ hX hK113 _ _ h hGσ105 hS _ _ _ hH (lv_sub (l' := [(0, .ref rm)]) hl [0] rfl) hc
set_option maxRecDepth 20000 in
theorem a_X16_see_145 {Q : Sg → Unit → Prop} {X : Sg → String → Prop} (K : MC R p s m args c cX16_see 3 RX16 D cA tys A n0 s0 4 91 []) (hQ : HQV p l e R s m args below meth c cX16_see D cA A n0 s0 QM dm ra jx rm Q) (hX : HX p l e R s m args below meth c 3 D cA A n0 s0 QM dm ra jx rm X) {K113 : Sg → Prop} (hK113 : ∀ (σ : Sg), K113 σ → RG σ → Shp dm ra jx rm σ → JJ p l e R s m args below meth c 3 D cA A n0 s0 QM σ 113 [(0, .ref rm)] []) : ∀ (σ : Sg), w_X16_see_145 ra jx rm K113 Q X σ → RG σ → Shp dm ra jx rm σ → JJ p l e R s m args below meth c 3 D cA A n0 s0 QM σ 145 [(0, .ref rm)] [] := by
  intro σ h hGσ hS H locs ls hH hl hc
  have B := K.1
  unfold w_X16_see_145 at h
  refine lv_aload_n B.1 B.2.1 dX16_see_145 rfl (lv_at hl 0 rfl) ?_
  refine lv_aload_n B.1 B.2.1 dX16_see_146 rfl (lv_at hl 0 rfl) ?_
  refine r_geti B hH hS 12 (by decide) wf_X16_53 rfl rfl dX16_see_147 ?_
  refine lv_bipush (v := i32 8) B.1 B.2.1 dX16_see_150 (by decide) ?_
  refine lv_icmp_ge (tgt := 175) B.1 B.2.1 dX16_see_152 (by decide) (fun h9 => ?_) (fun h9 => ?_)
  · rw [if_pos ((i32_le (by unfold rng; omega) (hGσ _ _)).mp h9)] at h
    exact a_X16_see_175 K hQ hX hK113 _ h hGσ hS _ _ _ hH (lv_sub (l' := [(0, .ref rm)]) hl [0] rfl) hc
  · rw [if_neg (fun q => h9 ((i32_le (by unfold rng; omega) (hGσ _ _)).mpr q))] at h
    exact a_X16_see_155 K hQ hX hK113 _ h hGσ hS _ _ _ hH (lv_sub (l' := [(0, .ref rm)]) hl [0] rfl) hc
set_option maxRecDepth 20000 in
theorem a_X16_see_124 {Q : Sg → Unit → Prop} {X : Sg → String → Prop} (K : MC R p s m args c cX16_see 3 RX16 D cA tys A n0 s0 4 91 []) (hQ : HQV p l e R s m args below meth c cX16_see D cA A n0 s0 QM dm ra jx rm Q) (hX : HX p l e R s m args below meth c 3 D cA A n0 s0 QM dm ra jx rm X) {K113 : Sg → Prop} (hK113 : ∀ (σ : Sg), K113 σ → RG σ → Shp dm ra jx rm σ → JJ p l e R s m args below meth c 3 D cA A n0 s0 QM σ 113 [(0, .ref rm)] []) : ∀ (σ : Sg), w_X16_see_124 ra jx rm K113 Q X σ → RG σ → Shp dm ra jx rm σ → JJ p l e R s m args below meth c 3 D cA A n0 s0 QM σ 124 [(0, .ref rm)] [] := by
  intro σ h hGσ hS H locs ls hH hl hc
  have B := K.1
  unfold w_X16_see_124 at h
  refine lv_aload_n B.1 B.2.1 dX16_see_124 rfl (lv_at hl 0 rfl) ?_
  refine lv_aload_n B.1 B.2.1 dX16_see_125 rfl (lv_at hl 0 rfl) ?_
  refine r_geti B hH hS 7 (by decide) wf_X16_28 rfl rfl dX16_see_126 ?_
  refine c_V B hH hl hc K.2.2.1 (C := RX16) (T := TX16) (N := 123) (ci := 16) (As := [.int (i32 (gI σ rm 7))]) (ok_X16_byteAt K.2.1 σ (gI σ rm 7) (hGσ _ _) hGσ hS h) wc_X16_34 1 hd_X16_byteAt ⟨Nat.le_trans (Nat.le_of_ble_eq_true rfl) K.2.2.2.1, Nat.le_trans (Nat.le_of_ble_eq_true rfl) K.2.2.2.2.1⟩ hS.1.1 hS.1.2 (by decide) rfl rfl (rest := []) rfl (Nat.le_of_ble_eq_true rfl) dX16_see_129 (fun σ107 w hq => ?_) (fun σ9 E9 hx9 => hX σ9 E9 _ _ _ (tb_out K.2.2.2.2.2 rfl) hx9.1 hx9.2.1 hx9.2.2)
  obtain ⟨r108, rfl, gr108, h, hGσ107, hS⟩ := hq
  intro H locs ls hH hl hc
  refine W.eq (g2 := F0 m 132 ls [.int (i32 r108)]) (rfl) ?_
  try dsimp only at h
  refine lv_i2l B.1 B.2.1 dX16_see_132 (i32_i64 gr108) ?_
  refine lv_ldc2 B.1 B.2.1 B.2.2.1 (B.2.2.2.1 _ (wk_X16_41)) dX16_see_133 ?_
  refine lv_ldc2 B.1 B.2.1 B.2.2.1 (B.2.2.2.1 _ (wk_X16_43)) dX16_see_136 ?_
  refine c_S B hH hl hc K.2.2.1 (As := [.long (Int64.ofInt r108), .long 97, .long 122]) (ok_X16_within K.2.1 σ107 (Int64.ofInt r108) 97 122 hGσ107 hS h) wc_X16_45 3 hd_X16_within ⟨Nat.le_trans (Nat.le_of_ble_eq_true rfl) K.2.2.2.1, Nat.le_trans (Nat.le_of_ble_eq_true rfl) K.2.2.2.2.1⟩ rfl (rest := []) rfl (Nat.le_of_ble_eq_true rfl) dX16_see_139 (fun σ109 w hq => ?_) (fun σ9 E9 hx9 => hX σ9 E9 _ _ _ (tb_out K.2.2.2.2.2 rfl) hx9.1 hx9.2.1 hx9.2.2)
  obtain ⟨r110, rfl, ⟨gr110, gzr110⟩, h, hGσ109, hS⟩ := hq
  intro H locs ls hH hl hc
  refine W.eq (g2 := F0 m 142 ls [.int (i32 r110)]) (rfl) ?_
  try dsimp only at h
  refine lv_if_eq (tgt := 361) B.1 B.2.1 dX16_see_142 (by decide) (fun h9 => ?_) (fun h9 => ?_)
  · rw [if_pos ((z_eq gr110).mp h9)] at h
    exact a_X16_see_361 K hQ hX _ h hGσ109 hS _ _ _ hH (lv_sub (l' := [(0, .ref rm)]) hl [0] rfl) hc
  · rw [if_neg (fun q => h9 ((z_eq gr110).mpr q))] at h
    exact a_X16_see_145 K hQ hX hK113 _ h hGσ109 hS _ _ _ hH (lv_sub (l' := [(0, .ref rm)]) hl [0] rfl) hc
set_option maxRecDepth 20000 in
theorem a_X16_see_113 {Q : Sg → Unit → Prop} {X : Sg → String → Prop} (K : MC R p s m args c cX16_see 3 RX16 D cA tys A n0 s0 4 91 []) (hQ : HQV p l e R s m args below meth c cX16_see D cA A n0 s0 QM dm ra jx rm Q) (hX : HX p l e R s m args below meth c 3 D cA A n0 s0 QM dm ra jx rm X) {K113 : Sg → Prop} (hK113 : ∀ (σ : Sg), K113 σ → RG σ → Shp dm ra jx rm σ → JJ p l e R s m args below meth c 3 D cA A n0 s0 QM σ 113 [(0, .ref rm)] []) : ∀ (σ : Sg), w_X16_see_113 ra jx rm K113 Q X σ → RG σ → Shp dm ra jx rm σ → JJ p l e R s m args below meth c 3 D cA A n0 s0 QM σ 113 [(0, .ref rm)] [] := by
  intro σ h hGσ hS H locs ls hH hl hc
  have B := K.1
  unfold w_X16_see_113 at h
  refine lv_aload_n B.1 B.2.1 dX16_see_113 rfl (lv_at hl 0 rfl) ?_
  refine r_geti B hH hS 7 (by decide) wf_X16_28 rfl rfl dX16_see_114 ?_
  refine lv_aload_n B.1 B.2.1 dX16_see_117 rfl (lv_at hl 0 rfl) ?_
  refine r_geti B hH hS 6 (by decide) wf_X16_31 rfl rfl dX16_see_118 ?_
  refine lv_icmp_ge (tgt := 361) B.1 B.2.1 dX16_see_121 (by decide) (fun h9 => ?_) (fun h9 => ?_)
  · rw [if_pos ((i32_le (hGσ _ _) (hGσ _ _)).mp h9)] at h
    exact a_X16_see_361 K hQ hX _ h hGσ hS _ _ _ hH (lv_sub (l' := [(0, .ref rm)]) hl [0] rfl) hc
  · rw [if_neg (fun q => h9 ((i32_le (hGσ _ _) (hGσ _ _)).mpr q))] at h
    exact a_X16_see_124 K hQ hX hK113 _ h hGσ hS _ _ _ hH (lv_sub (l' := [(0, .ref rm)]) hl [0] rfl) hc
theorem al_X16_see_113 {Q : Sg → Unit → Prop} {X : Sg → String → Prop} (K : MC R p s m args c cX16_see 3 RX16 D cA tys A n0 s0 4 91 []) (hQ : HQV p l e R s m args below meth c cX16_see D cA A n0 s0 QM dm ra jx rm Q) (hX : HX p l e R s m args below meth c 3 D cA A n0 s0 QM dm ra jx rm X) : ∀ (n : Nat), ∀ (σ : Sg), wl_X16_see_113 ra jx rm Q X n σ → RG σ → Shp dm ra jx rm σ → JJ p l e R s m args below meth c 3 D cA A n0 s0 QM σ 113 [(0, .ref rm)] [] := by
  intro n
  induction n with
  | zero => intro σ h; exact h.elim
  | succ n ih => exact fun σ h => a_X16_see_113 K hQ hX ih σ h
set_option maxRecDepth 20000 in
theorem a_X16_see_98 {Q : Sg → Unit → Prop} {X : Sg → String → Prop} (K : MC R p s m args c cX16_see 3 RX16 D cA tys A n0 s0 4 91 []) (hQ : HQV p l e R s m args below meth c cX16_see D cA A n0 s0 QM dm ra jx rm Q) (hX : HX p l e R s m args below meth c 3 D cA A n0 s0 QM dm ra jx rm X) : ∀ (σ : Sg), w_X16_see_98 ra jx rm Q X σ → RG σ → Shp dm ra jx rm σ → JJ p l e R s m args below meth c 3 D cA A n0 s0 QM σ 98 [(0, .ref rm)] [] := by
  intro σ h hGσ hS H locs ls hH hl hc
  have B := K.1
  unfold w_X16_see_98 at h
  refine lv_aload_n B.1 B.2.1 dX16_see_98 rfl (lv_at hl 0 rfl) ?_
  refine lv_iconst (v := i32 1) B.1 B.2.1 dX16_see_99 (by decide) ?_
  obtain ⟨σ111, eσ111⟩ : ∃ z, z = pI σ rm 9 1 := ⟨_, rfl⟩
  have h := h σ111 eσ111
  refine r_puti B hH hS 9 (ty := .int) (by decide) wf_X16_38 rfl rfl rfl rfl rfl rfl dX16_see_100 (fun H locs hH => ?_)
  have hH : Hd D cA A s (pI σ rm 9 1) H locs := hH
  rw [← eσ111] at hH
  have hGσ111 : RG σ111 := by rw [eσ111]; exact hGσ.pI (by unfold rng; omega)
  have hS : Shp dm ra jx rm σ111 := by rw [eσ111]; exact hS
  have hc : CB n0 s0 σ111 := by rw [eσ111]; exact hc
  rw [show gc σ = gc σ111 by rw [eσ111], show gs σ = gs σ111 by rw [eσ111]]
  refine lv_aload_n B.1 B.2.1 dX16_see_103 rfl (lv_at hl 0 rfl) ?_
  refine lv_lconst (v := 0) B.1 B.2.1 dX16_see_104 (by decide) ?_
  obtain ⟨σ112, eσ112⟩ : ∃ z, z = pJ σ111 rm 11 0 := ⟨_, rfl⟩
  have h := h σ112 eσ112
  refine r_putl B hH hS 11 (by decide) wf_X16_49 rfl rfl rfl rfl dX16_see_105 (fun H locs hH => ?_)
  have hH : Hd D cA A s (pJ σ111 rm 11 0) H locs := hH
  rw [← eσ112] at hH
  have hGσ112 : RG σ112 := by rw [eσ112]; exact hGσ111.pJ
  have hS : Shp dm ra jx rm σ112 := by rw [eσ112]; exact hS
  have hc : CB n0 s0 σ112 := by rw [eσ112]; exact hc
  rw [show gc σ111 = gc σ112 by rw [eσ112], show gs σ111 = gs σ112 by rw [eσ112]]
  refine lv_aload_n B.1 B.2.1 dX16_see_108 rfl (lv_at hl 0 rfl) ?_
  refine lv_iconst (v := i32 0) B.1 B.2.1 dX16_see_109 (by decide) ?_
  obtain ⟨σ113, eσ113⟩ : ∃ z, z = pI σ112 rm 12 0 := ⟨_, rfl⟩
  have h := h σ113 eσ113
  refine r_puti B hH hS 12 (ty := .int) (by decide) wf_X16_53 rfl rfl rfl rfl rfl rfl dX16_see_110 (fun H locs hH => ?_)
  have hH : Hd D cA A s (pI σ112 rm 12 0) H locs := hH
  rw [← eσ113] at hH
  have hGσ113 : RG σ113 := by rw [eσ113]; exact hGσ112.pI (by unfold rng; omega)
  have hS : Shp dm ra jx rm σ113 := by rw [eσ113]; exact hS
  have hc : CB n0 s0 σ113 := by rw [eσ113]; exact hc
  rw [show gc σ112 = gc σ113 by rw [eσ113], show gs σ112 = gs σ113 by rw [eσ113]]
  obtain ⟨n9, h⟩ := h
  exact al_X16_see_113 K hQ hX n9 _ h hGσ113 hS _ _ _ hH (lv_sub (l' := [(0, .ref rm)]) hl [0] rfl) hc
set_option maxRecDepth 20000 in
theorem a_X16_see_75 {Q : Sg → Unit → Prop} {X : Sg → String → Prop} (K : MC R p s m args c cX16_see 3 RX16 D cA tys A n0 s0 4 91 []) (hQ : HQV p l e R s m args below meth c cX16_see D cA A n0 s0 QM dm ra jx rm Q) (hX : HX p l e R s m args below meth c 3 D cA A n0 s0 QM dm ra jx rm X) : ∀ (σ : Sg), w_X16_see_75 ra jx rm Q X σ → RG σ → Shp dm ra jx rm σ → JJ p l e R s m args below meth c 3 D cA A n0 s0 QM σ 75 [(0, .ref rm)] [] := by
  intro σ h hGσ hS H locs ls hH hl hc
  have B := K.1
  unfold w_X16_see_75 at h
  refine lv_aload_n B.1 B.2.1 dX16_see_75 rfl (lv_at hl 0 rfl) ?_
  refine lv_aload_n B.1 B.2.1 dX16_see_76 rfl (lv_at hl 0 rfl) ?_
  refine r_geti B hH hS 7 (by decide) wf_X16_28 rfl rfl dX16_see_77 ?_
  refine c_V B hH hl hc K.2.2.1 (C := RX16) (T := TX16) (N := 123) (ci := 16) (As := [.int (i32 (gI σ rm 7))]) (ok_X16_byteAt K.2.1 σ (gI σ rm 7) (hGσ _ _) hGσ hS h) wc_X16_34 1 hd_X16_byteAt ⟨Nat.le_trans (Nat.le_of_ble_eq_true rfl) K.2.2.2.1, Nat.le_trans (Nat.le_of_ble_eq_true rfl) K.2.2.2.2.1⟩ hS.1.1 hS.1.2 (by decide) rfl rfl (rest := []) rfl (Nat.le_of_ble_eq_true rfl) dX16_see_80 (fun σ114 w hq => ?_) (fun σ9 E9 hx9 => hX σ9 E9 _ _ _ (tb_out K.2.2.2.2.2 rfl) hx9.1 hx9.2.1 hx9.2.2)
  obtain ⟨r115, rfl, gr115, h, hGσ114, hS⟩ := hq
  intro H locs ls hH hl hc
  refine W.eq (g2 := F0 m 83 ls [.int (i32 r115)]) (rfl) ?_
  try dsimp only at h
  refine lv_istore_n (lv' := [(1, .int (i32 r115)), (0, .ref rm)]) B.1 B.2.1 dX16_see_83 rfl hl (by decide) rfl (fun ls hl => ?_)
  refine lv_iload_n B.1 B.2.1 dX16_see_84 rfl (lv_at hl 0 rfl) ?_
  refine lv_i2l B.1 B.2.1 dX16_see_85 (i32_i64 gr115) ?_
  refine lv_ldc2 B.1 B.2.1 B.2.2.1 (B.2.2.2.1 _ (wk_X16_41)) dX16_see_86 ?_
  refine lv_ldc2 B.1 B.2.1 B.2.2.1 (B.2.2.2.1 _ (wk_X16_43)) dX16_see_89 ?_
  refine c_S B hH hl hc K.2.2.1 (As := [.long (Int64.ofInt r115), .long 97, .long 122]) (ok_X16_within K.2.1 σ114 (Int64.ofInt r115) 97 122 hGσ114 hS h) wc_X16_45 3 hd_X16_within ⟨Nat.le_trans (Nat.le_of_ble_eq_true rfl) K.2.2.2.1, Nat.le_trans (Nat.le_of_ble_eq_true rfl) K.2.2.2.2.1⟩ rfl (rest := []) rfl (Nat.le_of_ble_eq_true rfl) dX16_see_92 (fun σ116 w hq => ?_) (fun σ9 E9 hx9 => hX σ9 E9 _ _ _ (tb_out K.2.2.2.2.2 rfl) hx9.1 hx9.2.1 hx9.2.2)
  obtain ⟨r117, rfl, ⟨gr117, gzr117⟩, h, hGσ116, hS⟩ := hq
  intro H locs ls hH hl hc
  refine W.eq (g2 := F0 m 95 ls [.int (i32 r117)]) (rfl) ?_
  try dsimp only at h
  refine lv_if_eq (tgt := 205) B.1 B.2.1 dX16_see_95 (by decide) (fun h9 => ?_) (fun h9 => ?_)
  · rw [if_pos ((z_eq gr117).mp h9)] at h
    exact a_X16_see_205 K hQ hX _ _ gr115 h hGσ116 hS _ _ _ hH (lv_sub (l' := [(0, .ref rm), (1, .int (i32 r115))]) hl [1, 0] rfl) hc
  · rw [if_neg (fun q => h9 ((z_eq gr117).mpr q))] at h
    exact a_X16_see_98 K hQ hX _ h hGσ116 hS _ _ _ hH (lv_sub (l' := [(0, .ref rm)]) hl [1] rfl) hc
set_option maxRecDepth 20000 in
theorem a_X16_see_69 {Q : Sg → Unit → Prop} {X : Sg → String → Prop} (K : MC R p s m args c cX16_see 3 RX16 D cA tys A n0 s0 4 91 []) (hQ : HQV p l e R s m args below meth c cX16_see D cA A n0 s0 QM dm ra jx rm Q) (hX : HX p l e R s m args below meth c 3 D cA A n0 s0 QM dm ra jx rm X) : ∀ (σ : Sg), w_X16_see_69 ra jx rm Q X σ → RG σ → Shp dm ra jx rm σ → JJ p l e R s m args below meth c 3 D cA A n0 s0 QM σ 69 [(0, .ref rm)] [] := by
  intro σ h hGσ hS H locs ls hH hl hc
  have B := K.1
  unfold w_X16_see_69 at h
  refine lv_aload_n B.1 B.2.1 dX16_see_69 rfl (lv_at hl 0 rfl) ?_
  refine lv_iconst (v := i32 3) B.1 B.2.1 dX16_see_70 (by decide) ?_
  obtain ⟨σ118, eσ118⟩ : ∃ z, z = pI σ rm 9 3 := ⟨_, rfl⟩
  have h := h σ118 eσ118
  refine r_puti B hH hS 9 (ty := .int) (by decide) wf_X16_38 rfl rfl rfl rfl rfl rfl dX16_see_71 (fun H locs hH => ?_)
  have hH : Hd D cA A s (pI σ rm 9 3) H locs := hH
  rw [← eσ118] at hH
  have hGσ118 : RG σ118 := by rw [eσ118]; exact hGσ.pI (by unfold rng; omega)
  have hS : Shp dm ra jx rm σ118 := by rw [eσ118]; exact hS
  have hc : CB n0 s0 σ118 := by rw [eσ118]; exact hc
  rw [show gc σ = gc σ118 by rw [eσ118], show gs σ = gs σ118 by rw [eσ118]]
  exact hQ _ _ _ _ _ dX16_see_74 hH hc h hGσ118 hS
set_option maxRecDepth 20000 in
theorem a_X16_see_45 {Q : Sg → Unit → Prop} {X : Sg → String → Prop} (K : MC R p s m args c cX16_see 3 RX16 D cA tys A n0 s0 4 91 []) (hQ : HQV p l e R s m args below meth c cX16_see D cA A n0 s0 QM dm ra jx rm Q) (hX : HX p l e R s m args below meth c 3 D cA A n0 s0 QM dm ra jx rm X) : ∀ (σ : Sg), w_X16_see_45 ra jx rm Q X σ → RG σ → Shp dm ra jx rm σ → JJ p l e R s m args below meth c 3 D cA A n0 s0 QM σ 45 [(0, .ref rm)] [] := by
  intro σ h hGσ hS H locs ls hH hl hc
  have B := K.1
  unfold w_X16_see_45 at h
  refine lv_aload_n B.1 B.2.1 dX16_see_45 rfl (lv_at hl 0 rfl) ?_
  refine lv_iconst (v := i32 1) B.1 B.2.1 dX16_see_46 (by decide) ?_
  obtain ⟨σ119, eσ119⟩ : ∃ z, z = pI σ rm 8 1 := ⟨_, rfl⟩
  have h := h σ119 eσ119
  refine r_puti B hH hS 8 (ty := .boolean) (by decide) wf_X16_24 rfl rfl rfl rfl rfl rfl dX16_see_47 (fun H locs hH => ?_)
  have hH : Hd D cA A s (pI σ rm 8 1) H locs := hH
  rw [← eσ119] at hH
  have hGσ119 : RG σ119 := by rw [eσ119]; exact hGσ.pI (by unfold rng; omega)
  have hS : Shp dm ra jx rm σ119 := by rw [eσ119]; exact hS
  have hc : CB n0 s0 σ119 := by rw [eσ119]; exact hc
  rw [show gc σ = gc σ119 by rw [eσ119], show gs σ = gs σ119 by rw [eσ119]]
  refine lv_aload_n B.1 B.2.1 dX16_see_50 rfl (lv_at hl 0 rfl) ?_
  refine lv_aload_n B.1 B.2.1 dX16_see_51 rfl (lv_at hl 0 rfl) ?_
  refine r_geti B hH hS 7 (by decide) wf_X16_28 rfl rfl dX16_see_52 ?_
  obtain ⟨σ120, eσ120⟩ : ∃ z, z = pI σ119 rm 10 (gI σ119 rm 7) := ⟨_, rfl⟩
  have h := h σ120 eσ120
  refine r_puti B hH hS 10 (ty := .int) (by decide) wf_X16_10 rfl rfl rfl rfl rfl rfl dX16_see_55 (fun H locs hH => ?_)
  have hH : Hd D cA A s (pI σ119 rm 10 (gI σ119 rm 7)) H locs := hH
  rw [← eσ120] at hH
  have hGσ120 : RG σ120 := by rw [eσ120]; exact hGσ119.pI (hGσ119 _ _)
  have hS : Shp dm ra jx rm σ120 := by rw [eσ120]; exact hS
  have hc : CB n0 s0 σ120 := by rw [eσ120]; exact hc
  rw [show gc σ119 = gc σ120 by rw [eσ120], show gs σ119 = gs σ120 by rw [eσ120]]
  refine lv_aload_n B.1 B.2.1 dX16_see_58 rfl (lv_at hl 0 rfl) ?_
  refine r_geti B hH hS 7 (by decide) wf_X16_28 rfl rfl dX16_see_59 ?_
  refine lv_aload_n B.1 B.2.1 dX16_see_62 rfl (lv_at hl 0 rfl) ?_
  refine r_geti B hH hS 6 (by decide) wf_X16_31 rfl rfl dX16_see_63 ?_
  refine lv_icmp_ne (tgt := 75) B.1 B.2.1 dX16_see_66 (by decide) (fun h9 => ?_) (fun h9 => ?_)
  · rw [if_pos (fun q => h9 ((i32_eq (hGσ120 _ _) (hGσ120 _ _)).mpr q))] at h
    exact a_X16_see_75 K hQ hX _ h hGσ120 hS _ _ _ hH (lv_sub (l' := [(0, .ref rm)]) hl [0] rfl) hc
  · rw [if_neg (fun q => q ((i32_eq (hGσ120 _ _) (hGσ120 _ _)).mp h9))] at h
    exact a_X16_see_69 K hQ hX _ h hGσ120 hS _ _ _ hH (lv_sub (l' := [(0, .ref rm)]) hl [0] rfl) hc
set_option maxRecDepth 20000 in
theorem a_X16_see_32 {Q : Sg → Unit → Prop} {X : Sg → String → Prop} (K : MC R p s m args c cX16_see 3 RX16 D cA tys A n0 s0 4 91 []) (hQ : HQV p l e R s m args below meth c cX16_see D cA A n0 s0 QM dm ra jx rm Q) (hX : HX p l e R s m args below meth c 3 D cA A n0 s0 QM dm ra jx rm X) {K8 : Sg → Prop} (hK8 : ∀ (σ : Sg), K8 σ → RG σ → Shp dm ra jx rm σ → JJ p l e R s m args below meth c 3 D cA A n0 s0 QM σ 8 [(0, .ref rm)] []) : ∀ (σ : Sg), w_X16_see_32 ra jx rm K8 Q X σ → RG σ → Shp dm ra jx rm σ → JJ p l e R s m args below meth c 3 D cA A n0 s0 QM σ 32 [(0, .ref rm)] [] := by
  intro σ h hGσ hS H locs ls hH hl hc
  have B := K.1
  unfold w_X16_see_32 at h
  refine lv_aload_n B.1 B.2.1 dX16_see_32 rfl (lv_at hl 0 rfl) ?_
  refine lv_dup B.1 B.2.1 dX16_see_33 rfl ?_
  refine r_geti B hH hS 7 (by decide) wf_X16_28 rfl rfl dX16_see_34 ?_
  refine lv_iconst (v := i32 1) B.1 B.2.1 dX16_see_37 (by decide) ?_
  obtain ⟨q1, h⟩ := h
  refine lv_iadd B.1 B.2.1 dX16_see_38 ?_
  rw [i32_add]
  obtain ⟨σ121, eσ121⟩ : ∃ z, z = pI σ rm 7 (gI σ rm 7 + 1) := ⟨_, rfl⟩
  have h := h σ121 eσ121
  refine r_puti B hH hS 7 (ty := .int) (by decide) wf_X16_28 rfl rfl rfl rfl rfl rfl dX16_see_39 (fun H locs hH => ?_)
  have hH : Hd D cA A s (pI σ rm 7 (gI σ rm 7 + 1)) H locs := hH
  rw [← eσ121] at hH
  have hGσ121 : RG σ121 := by rw [eσ121]; exact hGσ.pI q1
  have hS : Shp dm ra jx rm σ121 := by rw [eσ121]; exact hS
  have hc : CB n0 s0 σ121 := by rw [eσ121]; exact hc
  rw [show gc σ = gc σ121 by rw [eσ121], show gs σ = gs σ121 by rw [eσ121]]
  refine lv_goto (tgt := 8) B.1 B.2.1 dX16_see_42 (by decide) ?_
  exact hK8 _ h hGσ121 hS _ _ _ hH (lv_sub (l' := [(0, .ref rm)]) hl [0] rfl) hc
set_option maxRecDepth 20000 in
theorem a_X16_see_19 {Q : Sg → Unit → Prop} {X : Sg → String → Prop} (K : MC R p s m args c cX16_see 3 RX16 D cA tys A n0 s0 4 91 []) (hQ : HQV p l e R s m args below meth c cX16_see D cA A n0 s0 QM dm ra jx rm Q) (hX : HX p l e R s m args below meth c 3 D cA A n0 s0 QM dm ra jx rm X) {K8 : Sg → Prop} (hK8 : ∀ (σ : Sg), K8 σ → RG σ → Shp dm ra jx rm σ → JJ p l e R s m args below meth c 3 D cA A n0 s0 QM σ 8 [(0, .ref rm)] []) : ∀ (σ : Sg), w_X16_see_19 ra jx rm K8 Q X σ → RG σ → Shp dm ra jx rm σ → JJ p l e R s m args below meth c 3 D cA A n0 s0 QM σ 19 [(0, .ref rm)] [] := by
  intro σ h hGσ hS H locs ls hH hl hc
  have B := K.1
  unfold w_X16_see_19 at h
  refine lv_aload_n B.1 B.2.1 dX16_see_19 rfl (lv_at hl 0 rfl) ?_
  refine lv_aload_n B.1 B.2.1 dX16_see_20 rfl (lv_at hl 0 rfl) ?_
  refine r_geti B hH hS 7 (by decide) wf_X16_28 rfl rfl dX16_see_21 ?_
  refine c_V B hH hl hc K.2.2.1 (C := RX16) (T := TX16) (N := 123) (ci := 16) (As := [.int (i32 (gI σ rm 7))]) (ok_X16_byteAt K.2.1 σ (gI σ rm 7) (hGσ _ _) hGσ hS h) wc_X16_34 1 hd_X16_byteAt ⟨Nat.le_trans (Nat.le_of_ble_eq_true rfl) K.2.2.2.1, Nat.le_trans (Nat.le_of_ble_eq_true rfl) K.2.2.2.2.1⟩ hS.1.1 hS.1.2 (by decide) rfl rfl (rest := []) rfl (Nat.le_of_ble_eq_true rfl) dX16_see_24 (fun σ122 w hq => ?_) (fun σ9 E9 hx9 => hX σ9 E9 _ _ _ (tb_out K.2.2.2.2.2 rfl) hx9.1 hx9.2.1 hx9.2.2)
  obtain ⟨r123, rfl, gr123, h, hGσ122, hS⟩ := hq
  intro H locs ls hH hl hc
  refine W.eq (g2 := F0 m 27 ls [.int (i32 r123)]) (rfl) ?_
  try dsimp only at h
  refine lv_bipush (v := i32 32) B.1 B.2.1 dX16_see_27 (by decide) ?_
  refine lv_icmp_gt (tgt := 45) B.1 B.2.1 dX16_see_29 (by decide) (fun h9 => ?_) (fun h9 => ?_)
  · rw [if_pos ((i32_lt (by unfold rng; omega) gr123).mp h9)] at h
    exact a_X16_see_45 K hQ hX _ h hGσ122 hS _ _ _ hH (lv_sub (l' := [(0, .ref rm)]) hl [0] rfl) hc
  · rw [if_neg (fun q => h9 ((i32_lt (by unfold rng; omega) gr123).mpr q))] at h
    exact a_X16_see_32 K hQ hX hK8 _ h hGσ122 hS _ _ _ hH (lv_sub (l' := [(0, .ref rm)]) hl [0] rfl) hc
set_option maxRecDepth 20000 in
theorem a_X16_see_8 {Q : Sg → Unit → Prop} {X : Sg → String → Prop} (K : MC R p s m args c cX16_see 3 RX16 D cA tys A n0 s0 4 91 []) (hQ : HQV p l e R s m args below meth c cX16_see D cA A n0 s0 QM dm ra jx rm Q) (hX : HX p l e R s m args below meth c 3 D cA A n0 s0 QM dm ra jx rm X) {K8 : Sg → Prop} (hK8 : ∀ (σ : Sg), K8 σ → RG σ → Shp dm ra jx rm σ → JJ p l e R s m args below meth c 3 D cA A n0 s0 QM σ 8 [(0, .ref rm)] []) : ∀ (σ : Sg), w_X16_see_8 ra jx rm K8 Q X σ → RG σ → Shp dm ra jx rm σ → JJ p l e R s m args below meth c 3 D cA A n0 s0 QM σ 8 [(0, .ref rm)] [] := by
  intro σ h hGσ hS H locs ls hH hl hc
  have B := K.1
  unfold w_X16_see_8 at h
  refine lv_aload_n B.1 B.2.1 dX16_see_8 rfl (lv_at hl 0 rfl) ?_
  refine r_geti B hH hS 7 (by decide) wf_X16_28 rfl rfl dX16_see_9 ?_
  refine lv_aload_n B.1 B.2.1 dX16_see_12 rfl (lv_at hl 0 rfl) ?_
  refine r_geti B hH hS 6 (by decide) wf_X16_31 rfl rfl dX16_see_13 ?_
  refine lv_icmp_ge (tgt := 45) B.1 B.2.1 dX16_see_16 (by decide) (fun h9 => ?_) (fun h9 => ?_)
  · rw [if_pos ((i32_le (hGσ _ _) (hGσ _ _)).mp h9)] at h
    exact a_X16_see_45 K hQ hX _ h hGσ hS _ _ _ hH (lv_sub (l' := [(0, .ref rm)]) hl [0] rfl) hc
  · rw [if_neg (fun q => h9 ((i32_le (hGσ _ _) (hGσ _ _)).mpr q))] at h
    exact a_X16_see_19 K hQ hX hK8 _ h hGσ hS _ _ _ hH (lv_sub (l' := [(0, .ref rm)]) hl [0] rfl) hc
theorem al_X16_see_8 {Q : Sg → Unit → Prop} {X : Sg → String → Prop} (K : MC R p s m args c cX16_see 3 RX16 D cA tys A n0 s0 4 91 []) (hQ : HQV p l e R s m args below meth c cX16_see D cA A n0 s0 QM dm ra jx rm Q) (hX : HX p l e R s m args below meth c 3 D cA A n0 s0 QM dm ra jx rm X) : ∀ (n : Nat), ∀ (σ : Sg), wl_X16_see_8 ra jx rm Q X n σ → RG σ → Shp dm ra jx rm σ → JJ p l e R s m args below meth c 3 D cA A n0 s0 QM σ 8 [(0, .ref rm)] [] := by
  intro n
  induction n with
  | zero => intro σ h; exact h.elim
  | succ n ih => exact fun σ h => a_X16_see_8 K hQ hX ih σ h
set_option maxRecDepth 20000 in
theorem a_X16_see_7 {Q : Sg → Unit → Prop} {X : Sg → String → Prop} (K : MC R p s m args c cX16_see 3 RX16 D cA tys A n0 s0 4 91 []) (hQ : HQV p l e R s m args below meth c cX16_see D cA A n0 s0 QM dm ra jx rm Q) (hX : HX p l e R s m args below meth c 3 D cA A n0 s0 QM dm ra jx rm X) : ∀ (σ : Sg), w_X16_see_7 ra jx rm Q X σ → RG σ → Shp dm ra jx rm σ → JJ p l e R s m args below meth c 3 D cA A n0 s0 QM σ 7 [(0, .ref rm)] [] := by
  intro σ h hGσ hS H locs ls hH hl hc
  have B := K.1
  unfold w_X16_see_7 at h
  exact hQ _ _ _ _ _ dX16_see_7 hH hc h hGσ hS
set_option maxRecDepth 20000 in
theorem a_X16_see_0 {Q : Sg → Unit → Prop} {X : Sg → String → Prop} (K : MC R p s m args c cX16_see 3 RX16 D cA tys A n0 s0 4 91 []) (hQ : HQV p l e R s m args below meth c cX16_see D cA A n0 s0 QM dm ra jx rm Q) (hX : HX p l e R s m args below meth c 3 D cA A n0 s0 QM dm ra jx rm X) : ∀ (σ : Sg), w_X16_see_0 ra jx rm Q X σ → RG σ → Shp dm ra jx rm σ → JJ p l e R s m args below meth c 3 D cA A n0 s0 QM σ 0 [(0, .ref rm)] [] := by
  intro σ h hGσ hS H locs ls hH hl hc
  have B := K.1
  unfold w_X16_see_0 at h
  refine lv_aload_n B.1 B.2.1 dX16_see_0 rfl (lv_at hl 0 rfl) ?_
  refine r_geti B hH hS 8 (by decide) wf_X16_24 rfl rfl dX16_see_1 ?_
  refine lv_if_eq (tgt := 8) B.1 B.2.1 dX16_see_4 (by decide) (fun h9 => ?_) (fun h9 => ?_)
  · rw [if_pos ((z_eq (hGσ _ _)).mp h9)] at h
    obtain ⟨n9, h⟩ := h
    exact al_X16_see_8 K hQ hX n9 _ h hGσ hS _ _ _ hH (lv_sub (l' := [(0, .ref rm)]) hl [0] rfl) hc
  · rw [if_neg (fun q => h9 ((z_eq (hGσ _ _)).mpr q))] at h
    exact a_X16_see_7 K hQ hX _ h hGσ hS _ _ _ hH (lv_sub (l' := [(0, .ref rm)]) hl [0] rfl) hc
theorem ok_X16_see (hT : Tys cA tys) {Q : Sg → Unit → Prop} {X : Sg → String → Prop} (σ : Sg) (hG : RG σ) (hS : Shp dm ra jx rm σ) (h : wp_X16_see ra jx rm σ Q X) : Ok l D cA tys A yX16_see (.code yX16_see cX16_see 3 none) 4 91 [.ref rm] σ (QnV dm ra jx rm Q) (QxR dm ra jx rm X) := by
  unfold wp_X16_see at h
  exact ok_V (plainFor_of_name (by decide)) (by exact Nat.le_of_ble_eq_true rfl) hT (fun p e R s m args below meth c K hQ hX H locs ls hH hl hc => a_X16_see_0 K hQ hX σ h hG hS H locs ls hH (lv_sub (l' := [(0, .ref rm)]) hl [0] rfl) hc)
theorem dX16_isWord_0 : decode cX16_isWord 0 = .ok (.aload_n 0, 1) := by decide +kernel
theorem dX16_isWord_1 : decode cX16_isWord 1 = .ok (.invokevirtual 76, 3) := by decide +kernel
theorem dX16_isWord_4 : decode cX16_isWord 4 = .ok (.aload_n 0, 1) := by decide +kernel
theorem dX16_isWord_5 : decode cX16_isWord 5 = .ok (.getfield 38, 3) := by decide +kernel
theorem dX16_isWord_8 : decode cX16_isWord 8 = .ok (.iconst 1, 1) := by decide +kernel
theorem dX16_isWord_9 : decode cX16_isWord 9 = .ok (.if_icmp .ne 30, 3) := by decide +kernel
theorem dX16_isWord_12 : decode cX16_isWord 12 = .ok (.aload_n 0, 1) := by decide +kernel
theorem dX16_isWord_13 : decode cX16_isWord 13 = .ok (.getfield 53, 3) := by decide +kernel
theorem dX16_isWord_16 : decode cX16_isWord 16 = .ok (.aload_n 1, 1) := by decide +kernel
theorem dX16_isWord_17 : decode cX16_isWord 17 = .ok (.invokevirtual 87, 3) := by decide +kernel
theorem dX16_isWord_20 : decode cX16_isWord 20 = .ok (.if_icmp .ne 19, 3) := by decide +kernel
theorem dX16_isWord_23 : decode cX16_isWord 23 = .ok (.aload_n 0, 1) := by decide +kernel
theorem dX16_isWord_24 : decode cX16_isWord 24 = .ok (.getfield 49, 3) := by decide +kernel
theorem dX16_isWord_27 : decode cX16_isWord 27 = .ok (.aload_n 1, 1) := by decide +kernel
theorem dX16_isWord_28 : decode cX16_isWord 28 = .ok (.invokestatic 99, 3) := by decide +kernel
theorem dX16_isWord_31 : decode cX16_isWord 31 = .ok (.lcmp, 1) := by decide +kernel
theorem dX16_isWord_32 : decode cX16_isWord 32 = .ok (.ifCond .ne 7, 3) := by decide +kernel
theorem dX16_isWord_35 : decode cX16_isWord 35 = .ok (.iconst 1, 1) := by decide +kernel
theorem dX16_isWord_36 : decode cX16_isWord 36 = .ok (.goto 4, 3) := by decide +kernel
theorem dX16_isWord_39 : decode cX16_isWord 39 = .ok (.iconst 0, 1) := by decide +kernel
theorem dX16_isWord_40 : decode cX16_isWord 40 = .ok (.ireturn, 1) := by decide +kernel
set_option maxRecDepth 20000 in
theorem a_X16_isWord_40 {Q : Sg → Int → Prop} {X : Sg → String → Prop} (K : MC R p s m args c cX16_isWord 2 RX16 D cA tys A n0 s0 5 113 []) (hQ : HQZ p l e R s m args below meth c cX16_isWord D cA A n0 s0 QM dm ra jx rm Q) (hX : HX p l e R s m args below meth c 2 D cA A n0 s0 QM dm ra jx rm X) : ∀ (σ : Sg) (u0 : Int) (gu0 : rng u0), w_X16_isWord_40 ra jx rm Q X σ u0 → RG σ → Shp dm ra jx rm σ → JJ p l e R s m args below meth c 2 D cA A n0 s0 QM σ 40 [(0, .ref rm)] [.int (i32 u0)] := by
  intro σ u0 gu0 h hGσ hS H locs ls hH hl hc
  have B := K.1
  unfold w_X16_isWord_40 at h
  obtain ⟨qz, h⟩ := h
  exact hQ _ _ _ _ _ _ gu0 qz dX16_isWord_40 hH hc h hGσ hS
set_option maxRecDepth 20000 in
theorem a_X16_isWord_39 {Q : Sg → Int → Prop} {X : Sg → String → Prop} (K : MC R p s m args c cX16_isWord 2 RX16 D cA tys A n0 s0 5 113 []) (hQ : HQZ p l e R s m args below meth c cX16_isWord D cA A n0 s0 QM dm ra jx rm Q) (hX : HX p l e R s m args below meth c 2 D cA A n0 s0 QM dm ra jx rm X) : ∀ (σ : Sg), w_X16_isWord_39 ra jx rm Q X σ → RG σ → Shp dm ra jx rm σ → JJ p l e R s m args below meth c 2 D cA A n0 s0 QM σ 39 [(0, .ref rm)] [] := by
  intro σ h hGσ hS H locs ls hH hl hc
  have B := K.1
  unfold w_X16_isWord_39 at h
  refine lv_iconst (v := i32 0) B.1 B.2.1 dX16_isWord_39 (by decide) ?_
  exact a_X16_isWord_40 K hQ hX _ _ (by unfold rng; omega) h hGσ hS _ _ _ hH (lv_sub (l' := [(0, .ref rm)]) hl [0] rfl) hc
set_option maxRecDepth 20000 in
theorem a_X16_isWord_35 {Q : Sg → Int → Prop} {X : Sg → String → Prop} (K : MC R p s m args c cX16_isWord 2 RX16 D cA tys A n0 s0 5 113 []) (hQ : HQZ p l e R s m args below meth c cX16_isWord D cA A n0 s0 QM dm ra jx rm Q) (hX : HX p l e R s m args below meth c 2 D cA A n0 s0 QM dm ra jx rm X) : ∀ (σ : Sg), w_X16_isWord_35 ra jx rm Q X σ → RG σ → Shp dm ra jx rm σ → JJ p l e R s m args below meth c 2 D cA A n0 s0 QM σ 35 [(0, .ref rm)] [] := by
  intro σ h hGσ hS H locs ls hH hl hc
  have B := K.1
  unfold w_X16_isWord_35 at h
  refine lv_iconst (v := i32 1) B.1 B.2.1 dX16_isWord_35 (by decide) ?_
  refine lv_goto (tgt := 40) B.1 B.2.1 dX16_isWord_36 (by decide) ?_
  exact a_X16_isWord_40 K hQ hX _ _ (by unfold rng; omega) h hGσ hS _ _ _ hH (lv_sub (l' := [(0, .ref rm)]) hl [0] rfl) hc
set_option maxRecDepth 20000 in
theorem a_X16_isWord_23 {Q : Sg → Int → Prop} {X : Sg → String → Prop} (K : MC R p s m args c cX16_isWord 2 RX16 D cA tys A n0 s0 5 113 []) (hQ : HQZ p l e R s m args below meth c cX16_isWord D cA A n0 s0 QM dm ra jx rm Q) (hX : HX p l e R s m args below meth c 2 D cA A n0 s0 QM dm ra jx rm X) : ∀ (σ : Sg) (v1 : Nat) (g1 : strK v1), w_X16_isWord_23 ra jx rm Q X σ v1 → RG σ → Shp dm ra jx rm σ → JJ p l e R s m args below meth c 2 D cA A n0 s0 QM σ 23 [(0, .ref rm), (1, .ref (cA (1000 + v1)))] [] := by
  intro σ v1 g1 h hGσ hS H locs ls hH hl hc
  have B := K.1
  unfold w_X16_isWord_23 at h
  refine lv_aload_n B.1 B.2.1 dX16_isWord_23 rfl (lv_at hl 0 rfl) ?_
  refine r_getl B hH hS 11 (by decide) wf_X16_49 rfl rfl dX16_isWord_24 ?_
  refine lv_aload_n B.1 B.2.1 dX16_isWord_27 rfl (lv_at hl 1 rfl) ?_
  refine c_S B hH hl hc K.2.2.1 (As := [.ref (cA (1000 + v1))]) (ok_X16_nameOf K.2.1 σ v1 g1 hGσ hS h) wc_X16_99 1 hd_X16_nameOf ⟨Nat.le_trans (Nat.le_of_ble_eq_true rfl) K.2.2.2.1, Nat.le_trans (Nat.le_of_ble_eq_true rfl) K.2.2.2.2.1⟩ rfl (rest := [.long (gJ σ rm 11)]) rfl (Nat.le_of_ble_eq_true rfl) dX16_isWord_28 (fun σ7 w hq => ?_) (fun σ9 E9 hx9 => hX σ9 E9 _ _ _ (tb_out K.2.2.2.2.2 rfl) hx9.1 hx9.2.1 hx9.2.2)
  obtain ⟨r8, rfl, h, hGσ7, hS⟩ := hq
  intro H locs ls hH hl hc
  refine W.eq (g2 := F0 m 31 ls [.long r8, .long (gJ σ rm 11)]) (rfl) ?_
  try dsimp only at h
  refine W.lcmp B.1 B.2.1 dX16_isWord_31 ?_
  refine lv_if_ne (tgt := 39) B.1 B.2.1 dX16_isWord_32 (by decide) (fun h9 => ?_) (fun h9 => ?_)
  · rw [if_pos (fun q => h9 ((lg_cmp_eq _ _).mpr q))] at h
    exact a_X16_isWord_39 K hQ hX _ h hGσ7 hS _ _ _ hH (lv_sub (l' := [(0, .ref rm)]) hl [0] rfl) hc
  · rw [if_neg (fun q => q ((lg_cmp_eq _ _).mp h9))] at h
    exact a_X16_isWord_35 K hQ hX _ h hGσ7 hS _ _ _ hH (lv_sub (l' := [(0, .ref rm)]) hl [0] rfl) hc
set_option maxRecDepth 20000 in
theorem a_X16_isWord_12 {Q : Sg → Int → Prop} {X : Sg → String → Prop} (K : MC R p s m args c cX16_isWord 2 RX16 D cA tys A n0 s0 5 113 []) (hQ : HQZ p l e R s m args below meth c cX16_isWord D cA A n0 s0 QM dm ra jx rm Q) (hX : HX p l e R s m args below meth c 2 D cA A n0 s0 QM dm ra jx rm X) : ∀ (σ : Sg) (v1 : Nat) (g1 : strK v1), w_X16_isWord_12 ra jx rm Q X σ v1 → RG σ → Shp dm ra jx rm σ → JJ p l e R s m args below meth c 2 D cA A n0 s0 QM σ 12 [(0, .ref rm), (1, .ref (cA (1000 + v1)))] [] := by
  intro σ v1 g1 h hGσ hS H locs ls hH hl hc
  have B := K.1
  unfold w_X16_isWord_12 at h
  refine lv_aload_n B.1 B.2.1 dX16_isWord_12 rfl (lv_at hl 0 rfl) ?_
  refine r_geti B hH hS 12 (by decide) wf_X16_53 rfl rfl dX16_isWord_13 ?_
  refine lv_aload_n B.1 B.2.1 dX16_isWord_16 rfl (lv_at hl 1 rfl) ?_
  refine c_VS B hH hl hc K.2.2.1 (C := RJ0) (As := []) (ok_J0_length_8abf5 (dm := dm) (ra := ra) (jx := jx) (rm := rm) K.2.1 σ v1 g1.1 hGσ hS (jl_len (Q := fun σ9 r9 => σ = σ9 ∧ r9 = bln v1) (X := fun _ _ => False) g1.1 ⟨rfl, rfl⟩)) wc_X16_87 0 hd_J0_length_8abf5 ⟨Nat.le_trans (Nat.le_of_ble_eq_true rfl) K.2.2.2.1, Nat.le_trans (Nat.le_of_ble_eq_true rfl) K.2.2.2.2.1⟩ (xs_recv B hH g1.1) rfl (rest := [.int (i32 (gI σ rm 12))]) rfl (Nat.le_of_ble_eq_true rfl) dX16_isWord_17 (fun σm1 w hq => ?_) (fun σ9 E9 hx9 => False.elim hx9.1)
  obtain ⟨r9, rfl, gr9, ⟨e9, rfl⟩, hG9, hS9⟩ := hq
  subst e9
  intro H locs ls hH hl hc
  refine W.eq (g2 := F0 m 20 ls [.int (i32 (sl v1)), .int (i32 (gI σ rm 12))]) (by rw [g1.2.1]; rfl) ?_
  refine lv_icmp_ne (tgt := 39) B.1 B.2.1 dX16_isWord_20 (by decide) (fun h9 => ?_) (fun h9 => ?_)
  · rw [if_pos (fun q => h9 ((i32_eq (hGσ _ _) (rng_sl _)).mpr q))] at h
    exact a_X16_isWord_39 K hQ hX _ h hGσ hS _ _ _ hH (lv_sub (l' := [(0, .ref rm)]) hl [0] rfl) hc
  · rw [if_neg (fun q => q ((i32_eq (hGσ _ _) (rng_sl _)).mp h9))] at h
    exact a_X16_isWord_23 K hQ hX _ _ g1 h hGσ hS _ _ _ hH (lv_sub (l' := [(0, .ref rm), (1, .ref (cA (1000 + v1)))]) hl [0, 1] rfl) hc
set_option maxRecDepth 20000 in
theorem a_X16_isWord_0 {Q : Sg → Int → Prop} {X : Sg → String → Prop} (K : MC R p s m args c cX16_isWord 2 RX16 D cA tys A n0 s0 5 113 []) (hQ : HQZ p l e R s m args below meth c cX16_isWord D cA A n0 s0 QM dm ra jx rm Q) (hX : HX p l e R s m args below meth c 2 D cA A n0 s0 QM dm ra jx rm X) : ∀ (σ : Sg) (v1 : Nat) (g1 : strK v1), w_X16_isWord_0 ra jx rm Q X σ v1 → RG σ → Shp dm ra jx rm σ → JJ p l e R s m args below meth c 2 D cA A n0 s0 QM σ 0 [(0, .ref rm), (1, .ref (cA (1000 + v1)))] [] := by
  intro σ v1 g1 h hGσ hS H locs ls hH hl hc
  have B := K.1
  unfold w_X16_isWord_0 at h
  refine lv_aload_n B.1 B.2.1 dX16_isWord_0 rfl (lv_at hl 0 rfl) ?_
  refine c_V B hH hl hc K.2.2.1 (C := RX16) (T := TX16) (N := 123) (ci := 16) (As := []) (ok_X16_see K.2.1 σ hGσ hS h) wc_X16_76 0 hd_X16_see ⟨Nat.le_trans (Nat.le_of_ble_eq_true rfl) K.2.2.2.1, Nat.le_trans (Nat.le_of_ble_eq_true rfl) K.2.2.2.2.1⟩ hS.1.1 hS.1.2 (by decide) rfl rfl (rest := []) rfl (Nat.le_of_ble_eq_true rfl) dX16_isWord_1 (fun σ9 w hq => ?_) (fun σ9 E9 hx9 => hX σ9 E9 _ _ _ (tb_out K.2.2.2.2.2 rfl) hx9.1 hx9.2.1 hx9.2.2)
  obtain ⟨rfl, h, hGσ9, hS⟩ := hq
  intro H locs ls hH hl hc
  refine W.eq (g2 := F0 m 4 ls []) (rfl) ?_
  try dsimp only at h
  refine lv_aload_n B.1 B.2.1 dX16_isWord_4 rfl (lv_at hl 0 rfl) ?_
  refine r_geti B hH hS 9 (by decide) wf_X16_38 rfl rfl dX16_isWord_5 ?_
  refine lv_iconst (v := i32 1) B.1 B.2.1 dX16_isWord_8 (by decide) ?_
  refine lv_icmp_ne (tgt := 39) B.1 B.2.1 dX16_isWord_9 (by decide) (fun h9 => ?_) (fun h9 => ?_)
  · rw [if_pos (fun q => h9 ((i32_eq (hGσ9 _ _) (by unfold rng; omega)).mpr q))] at h
    exact a_X16_isWord_39 K hQ hX _ h hGσ9 hS _ _ _ hH (lv_sub (l' := [(0, .ref rm)]) hl [0] rfl) hc
  · rw [if_neg (fun q => q ((i32_eq (hGσ9 _ _) (by unfold rng; omega)).mp h9))] at h
    exact a_X16_isWord_12 K hQ hX _ _ g1 h hGσ9 hS _ _ _ hH (lv_sub (l' := [(0, .ref rm), (1, .ref (cA (1000 + v1)))]) hl [0, 1] rfl) hc
theorem ok_X16_isWord (hT : Tys cA tys) {Q : Sg → Int → Prop} {X : Sg → String → Prop} (σ : Sg) (v1 : Nat) (g1 : strK v1) (hG : RG σ) (hS : Shp dm ra jx rm σ) (h : wp_X16_isWord ra jx rm v1 σ Q X) : Ok l D cA tys A yX16_isWord (.code yX16_isWord cX16_isWord 2 (some .boolean)) 5 113 [.ref rm, .ref (cA (1000 + v1))] σ (QnZ dm ra jx rm Q) (QxR dm ra jx rm X) := by
  unfold wp_X16_isWord at h
  exact ok_Z (plainFor_of_name (by decide)) (by exact Nat.le_of_ble_eq_true rfl) hT (fun p e R s m args below meth c K hQ hX H locs ls hH hl hc => a_X16_isWord_0 K hQ hX σ v1 g1 h hG hS H locs ls hH (lv_sub (l' := [(0, .ref rm), (1, .ref (cA (1000 + v1)))]) hl [0, 1] rfl) hc)
theorem dX16_misplaced_0 : decode cX16_misplaced 0 = .ok (.aload_n 0, 1) := by decide +kernel
theorem dX16_misplaced_1 : decode cX16_misplaced 1 = .ok (.aload_n 0, 1) := by decide +kernel
theorem dX16_misplaced_2 : decode cX16_misplaced 2 = .ok (.getfield 38, 3) := by decide +kernel
theorem dX16_misplaced_5 : decode cX16_misplaced 5 = .ok (.iconst 3, 1) := by decide +kernel
theorem dX16_misplaced_6 : decode cX16_misplaced 6 = .ok (.if_icmp .ne 7, 3) := by decide +kernel
theorem dX16_misplaced_9 : decode cX16_misplaced 9 = .ok (.iconst 3, 1) := by decide +kernel
theorem dX16_misplaced_10 : decode cX16_misplaced 10 = .ok (.goto 4, 3) := by decide +kernel
theorem dX16_misplaced_13 : decode cX16_misplaced 13 = .ok (.iconst 4, 1) := by decide +kernel
theorem dX16_misplaced_14 : decode cX16_misplaced 14 = .ok (.invokevirtual 65, 3) := by decide +kernel
theorem dX16_misplaced_17 : decode cX16_misplaced 17 = .ok (.areturn, 1) := by decide +kernel
set_option maxRecDepth 20000 in
theorem a_X16_misplaced_14 {Q : Sg → Option Nat → Prop} {X : Sg → String → Prop} (K : MC R p s m args c cX16_misplaced 1 RX16 D cA tys A n0 s0 1 21 []) (hQ : HQA p l e R s m args below meth c cX16_misplaced D cA A n0 s0 QM dm ra jx rm Q) (hX : HX p l e R s m args below meth c 1 D cA A n0 s0 QM dm ra jx rm X) : ∀ (σ : Sg) (u0 : Int) (gu0 : rng u0), w_X16_misplaced_14 ra jx rm Q X σ u0 → RG σ → Shp dm ra jx rm σ → JJ p l e R s m args below meth c 1 D cA A n0 s0 QM σ 14 [(0, .ref rm)] [.int (i32 u0), .ref rm] := by
  intro σ u0 gu0 h hGσ hS H locs ls hH hl hc
  have B := K.1
  unfold w_X16_misplaced_14 at h
  refine c_V B hH hl hc K.2.2.1 (C := RX16) (T := TX16) (N := 123) (ci := 16) (As := [.int (i32 u0)]) (ok_X16_fail K.2.1 σ u0 gu0 hGσ hS h) wc_X16_65 1 hd_X16_fail ⟨Nat.le_trans (Nat.le_of_ble_eq_true rfl) K.2.2.2.1, Nat.le_trans (Nat.le_of_ble_eq_true rfl) K.2.2.2.2.1⟩ hS.1.1 hS.1.2 (by decide) rfl rfl (rest := []) rfl (Nat.le_of_ble_eq_true rfl) dX16_misplaced_14 (fun σ5 w hq => ?_) (fun σ9 E9 hx9 => hX σ9 E9 _ _ _ (tb_out K.2.2.2.2.2 rfl) hx9.1 hx9.2.1 hx9.2.2)
  obtain ⟨r6, rfl, h, hGσ5, hS⟩ := hq
  intro H locs ls hH hl hc
  refine W.eq (g2 := F0 m 17 ls [va_rf r6]) (rfl) ?_
  try dsimp only at h
  exact hQ _ _ _ _ _ _ dX16_misplaced_17 hH hc h hGσ5 hS
set_option maxRecDepth 20000 in
theorem a_X16_misplaced_13 {Q : Sg → Option Nat → Prop} {X : Sg → String → Prop} (K : MC R p s m args c cX16_misplaced 1 RX16 D cA tys A n0 s0 1 21 []) (hQ : HQA p l e R s m args below meth c cX16_misplaced D cA A n0 s0 QM dm ra jx rm Q) (hX : HX p l e R s m args below meth c 1 D cA A n0 s0 QM dm ra jx rm X) : ∀ (σ : Sg), w_X16_misplaced_13 ra jx rm Q X σ → RG σ → Shp dm ra jx rm σ → JJ p l e R s m args below meth c 1 D cA A n0 s0 QM σ 13 [(0, .ref rm)] [.ref rm] := by
  intro σ h hGσ hS H locs ls hH hl hc
  have B := K.1
  unfold w_X16_misplaced_13 at h
  refine lv_iconst (v := i32 4) B.1 B.2.1 dX16_misplaced_13 (by decide) ?_
  exact a_X16_misplaced_14 K hQ hX _ _ (by unfold rng; omega) h hGσ hS _ _ _ hH (lv_sub (l' := [(0, .ref rm)]) hl [0] rfl) hc
set_option maxRecDepth 20000 in
theorem a_X16_misplaced_9 {Q : Sg → Option Nat → Prop} {X : Sg → String → Prop} (K : MC R p s m args c cX16_misplaced 1 RX16 D cA tys A n0 s0 1 21 []) (hQ : HQA p l e R s m args below meth c cX16_misplaced D cA A n0 s0 QM dm ra jx rm Q) (hX : HX p l e R s m args below meth c 1 D cA A n0 s0 QM dm ra jx rm X) : ∀ (σ : Sg), w_X16_misplaced_9 ra jx rm Q X σ → RG σ → Shp dm ra jx rm σ → JJ p l e R s m args below meth c 1 D cA A n0 s0 QM σ 9 [(0, .ref rm)] [.ref rm] := by
  intro σ h hGσ hS H locs ls hH hl hc
  have B := K.1
  unfold w_X16_misplaced_9 at h
  refine lv_iconst (v := i32 3) B.1 B.2.1 dX16_misplaced_9 (by decide) ?_
  refine lv_goto (tgt := 14) B.1 B.2.1 dX16_misplaced_10 (by decide) ?_
  exact a_X16_misplaced_14 K hQ hX _ _ (by unfold rng; omega) h hGσ hS _ _ _ hH (lv_sub (l' := [(0, .ref rm)]) hl [0] rfl) hc
set_option maxRecDepth 20000 in
theorem a_X16_misplaced_0 {Q : Sg → Option Nat → Prop} {X : Sg → String → Prop} (K : MC R p s m args c cX16_misplaced 1 RX16 D cA tys A n0 s0 1 21 []) (hQ : HQA p l e R s m args below meth c cX16_misplaced D cA A n0 s0 QM dm ra jx rm Q) (hX : HX p l e R s m args below meth c 1 D cA A n0 s0 QM dm ra jx rm X) : ∀ (σ : Sg), w_X16_misplaced_0 ra jx rm Q X σ → RG σ → Shp dm ra jx rm σ → JJ p l e R s m args below meth c 1 D cA A n0 s0 QM σ 0 [(0, .ref rm)] [] := by
  intro σ h hGσ hS H locs ls hH hl hc
  have B := K.1
  unfold w_X16_misplaced_0 at h
  refine lv_aload_n B.1 B.2.1 dX16_misplaced_0 rfl (lv_at hl 0 rfl) ?_
  refine lv_aload_n B.1 B.2.1 dX16_misplaced_1 rfl (lv_at hl 0 rfl) ?_
  refine r_geti B hH hS 9 (by decide) wf_X16_38 rfl rfl dX16_misplaced_2 ?_
  refine lv_iconst (v := i32 3) B.1 B.2.1 dX16_misplaced_5 (by decide) ?_
  refine lv_icmp_ne (tgt := 13) B.1 B.2.1 dX16_misplaced_6 (by decide) (fun h9 => ?_) (fun h9 => ?_)
  · rw [if_pos (fun q => h9 ((i32_eq (hGσ _ _) (by unfold rng; omega)).mpr q))] at h
    exact a_X16_misplaced_13 K hQ hX _ h hGσ hS _ _ _ hH (lv_sub (l' := [(0, .ref rm)]) hl [0] rfl) hc
  · rw [if_neg (fun q => q ((i32_eq (hGσ _ _) (by unfold rng; omega)).mp h9))] at h
    exact a_X16_misplaced_9 K hQ hX _ h hGσ hS _ _ _ hH (lv_sub (l' := [(0, .ref rm)]) hl [0] rfl) hc
theorem ok_X16_misplaced (hT : Tys cA tys) {Q : Sg → Option Nat → Prop} {X : Sg → String → Prop} (σ : Sg) (hG : RG σ) (hS : Shp dm ra jx rm σ) (h : wp_X16_misplaced ra jx rm σ Q X) : Ok l D cA tys A yX16_misplaced (.code yX16_misplaced cX16_misplaced 1 (some (.object "StreamHouseModel$Fault"))) 1 21 [.ref rm] σ (QnA dm ra jx rm Q) (QxR dm ra jx rm X) := by
  unfold wp_X16_misplaced at h
  exact ok_A (plainFor_of_name (by decide)) (by exact Nat.le_of_ble_eq_true rfl) hT (fun p e R s m args below meth c K hQ hX H locs ls hH hl hc => a_X16_misplaced_0 K hQ hX σ h hG hS H locs ls hH (lv_sub (l' := [(0, .ref rm)]) hl [0] rfl) hc)
theorem dX16_take_0 : decode cX16_take 0 = .ok (.aload_n 0, 1) := by decide +kernel
theorem dX16_take_1 : decode cX16_take 1 = .ok (.iconst 0, 1) := by decide +kernel
theorem dX16_take_2 : decode cX16_take 2 = .ok (.putfield 24, 3) := by decide +kernel
theorem dX16_take_5 : decode cX16_take 5 = .ok (.return_, 1) := by decide +kernel
set_option maxRecDepth 20000 in
theorem a_X16_take_0 {Q : Sg → Unit → Prop} {X : Sg → String → Prop} (K : MC R p s m args c cX16_take 1 RX16 D cA tys A n0 s0 0 0 []) (hQ : HQV p l e R s m args below meth c cX16_take D cA A n0 s0 QM dm ra jx rm Q) (hX : HX p l e R s m args below meth c 1 D cA A n0 s0 QM dm ra jx rm X) : ∀ (σ : Sg), w_X16_take_0 ra jx rm Q X σ → RG σ → Shp dm ra jx rm σ → JJ p l e R s m args below meth c 1 D cA A n0 s0 QM σ 0 [(0, .ref rm)] [] := by
  intro σ h hGσ hS H locs ls hH hl hc
  have B := K.1
  unfold w_X16_take_0 at h
  refine lv_aload_n B.1 B.2.1 dX16_take_0 rfl (lv_at hl 0 rfl) ?_
  refine lv_iconst (v := i32 0) B.1 B.2.1 dX16_take_1 (by decide) ?_
  obtain ⟨σ3, eσ3⟩ : ∃ z, z = pI σ rm 8 0 := ⟨_, rfl⟩
  have h := h σ3 eσ3
  refine r_puti B hH hS 8 (ty := .boolean) (by decide) wf_X16_24 rfl rfl rfl rfl rfl rfl dX16_take_2 (fun H locs hH => ?_)
  have hH : Hd D cA A s (pI σ rm 8 0) H locs := hH
  rw [← eσ3] at hH
  have hGσ3 : RG σ3 := by rw [eσ3]; exact hGσ.pI (by unfold rng; omega)
  have hS : Shp dm ra jx rm σ3 := by rw [eσ3]; exact hS
  have hc : CB n0 s0 σ3 := by rw [eσ3]; exact hc
  rw [show gc σ = gc σ3 by rw [eσ3], show gs σ = gs σ3 by rw [eσ3]]
  exact hQ _ _ _ _ _ dX16_take_5 hH hc h hGσ3 hS
theorem ok_X16_take (hT : Tys cA tys) {Q : Sg → Unit → Prop} {X : Sg → String → Prop} (σ : Sg) (hG : RG σ) (hS : Shp dm ra jx rm σ) (h : wp_X16_take ra jx rm σ Q X) : Ok l D cA tys A yX16_take (.code yX16_take cX16_take 1 none) 0 0 [.ref rm] σ (QnV dm ra jx rm Q) (QxR dm ra jx rm X) := by
  unfold wp_X16_take at h
  exact ok_V (plainFor_of_name (by decide)) (by exact Nat.le_of_ble_eq_true rfl) hT (fun p e R s m args below meth c K hQ hX H locs ls hH hl hc => a_X16_take_0 K hQ hX σ h hG hS H locs ls hH (lv_sub (l' := [(0, .ref rm)]) hl [0] rfl) hc)
theorem dX16_opens_0 : decode cX16_opens 0 = .ok (.aload_n 0, 1) := by decide +kernel
theorem dX16_opens_1 : decode cX16_opens 1 = .ok (.getfield 115, 3) := by decide +kernel
theorem dX16_opens_4 : decode cX16_opens 4 = .ok (.bipush 10, 2) := by decide +kernel
theorem dX16_opens_6 : decode cX16_opens 6 = .ok (.if_icmp .ne 10, 3) := by decide +kernel
theorem dX16_opens_9 : decode cX16_opens 9 = .ok (.aload_n 0, 1) := by decide +kernel
theorem dX16_opens_10 : decode cX16_opens 10 = .ok (.bipush 9, 2) := by decide +kernel
theorem dX16_opens_12 : decode cX16_opens 12 = .ok (.invokevirtual 65, 3) := by decide +kernel
theorem dX16_opens_15 : decode cX16_opens 15 = .ok (.athrow, 1) := by decide +kernel
theorem dX16_opens_16 : decode cX16_opens 16 = .ok (.aload_n 0, 1) := by decide +kernel
theorem dX16_opens_17 : decode cX16_opens 17 = .ok (.dup, 1) := by decide +kernel
theorem dX16_opens_18 : decode cX16_opens 18 = .ok (.getfield 115, 3) := by decide +kernel
theorem dX16_opens_21 : decode cX16_opens 21 = .ok (.iconst 1, 1) := by decide +kernel
theorem dX16_opens_22 : decode cX16_opens 22 = .ok (.iadd, 1) := by decide +kernel
theorem dX16_opens_23 : decode cX16_opens 23 = .ok (.putfield 115, 3) := by decide +kernel
theorem dX16_opens_26 : decode cX16_opens 26 = .ok (.aload_n 0, 1) := by decide +kernel
theorem dX16_opens_27 : decode cX16_opens 27 = .ok (.invokevirtual 84, 3) := by decide +kernel
theorem dX16_opens_30 : decode cX16_opens 30 = .ok (.return_, 1) := by decide +kernel
set_option maxRecDepth 20000 in
theorem a_X16_opens_16 {Q : Sg → Unit → Prop} {X : Sg → String → Prop} (K : MC R p s m args c cX16_opens 1 RX16 D cA tys A n0 s0 1 21 []) (hQ : HQV p l e R s m args below meth c cX16_opens D cA A n0 s0 QM dm ra jx rm Q) (hX : HX p l e R s m args below meth c 1 D cA A n0 s0 QM dm ra jx rm X) : ∀ (σ : Sg), w_X16_opens_16 ra jx rm Q X σ → RG σ → Shp dm ra jx rm σ → JJ p l e R s m args below meth c 1 D cA A n0 s0 QM σ 16 [(0, .ref rm)] [] := by
  intro σ h hGσ hS H locs ls hH hl hc
  have B := K.1
  unfold w_X16_opens_16 at h
  refine lv_aload_n B.1 B.2.1 dX16_opens_16 rfl (lv_at hl 0 rfl) ?_
  refine lv_dup B.1 B.2.1 dX16_opens_17 rfl ?_
  refine r_geti B hH hS 19 (by decide) wf_X16_115 rfl rfl dX16_opens_18 ?_
  refine lv_iconst (v := i32 1) B.1 B.2.1 dX16_opens_21 (by decide) ?_
  obtain ⟨q1, h⟩ := h
  refine lv_iadd B.1 B.2.1 dX16_opens_22 ?_
  rw [i32_add]
  obtain ⟨σ9, eσ9⟩ : ∃ z, z = pI σ rm 19 (gI σ rm 19 + 1) := ⟨_, rfl⟩
  have h := h σ9 eσ9
  refine r_puti B hH hS 19 (ty := .int) (by decide) wf_X16_115 rfl rfl rfl rfl rfl rfl dX16_opens_23 (fun H locs hH => ?_)
  have hH : Hd D cA A s (pI σ rm 19 (gI σ rm 19 + 1)) H locs := hH
  rw [← eσ9] at hH
  have hGσ9 : RG σ9 := by rw [eσ9]; exact hGσ.pI q1
  have hS : Shp dm ra jx rm σ9 := by rw [eσ9]; exact hS
  have hc : CB n0 s0 σ9 := by rw [eσ9]; exact hc
  rw [show gc σ = gc σ9 by rw [eσ9], show gs σ = gs σ9 by rw [eσ9]]
  refine lv_aload_n B.1 B.2.1 dX16_opens_26 rfl (lv_at hl 0 rfl) ?_
  refine c_V B hH hl hc K.2.2.1 (C := RX16) (T := TX16) (N := 123) (ci := 16) (As := []) (ok_X16_take K.2.1 σ9 hGσ9 hS h) wc_X16_84 0 hd_X16_take ⟨Nat.le_trans (Nat.le_of_ble_eq_true rfl) K.2.2.2.1, Nat.le_trans (Nat.le_of_ble_eq_true rfl) K.2.2.2.2.1⟩ hS.1.1 hS.1.2 (by decide) rfl rfl (rest := []) rfl (Nat.le_of_ble_eq_true rfl) dX16_opens_27 (fun σ10 w hq => ?_) (fun σ9 E9 hx9 => hX σ9 E9 _ _ _ (tb_out K.2.2.2.2.2 rfl) hx9.1 hx9.2.1 hx9.2.2)
  obtain ⟨rfl, h, hGσ10, hS⟩ := hq
  intro H locs ls hH hl hc
  refine W.eq (g2 := F0 m 30 ls []) (rfl) ?_
  try dsimp only at h
  exact hQ _ _ _ _ _ dX16_opens_30 hH hc h hGσ10 hS
set_option maxRecDepth 20000 in
theorem a_X16_opens_9 {Q : Sg → Unit → Prop} {X : Sg → String → Prop} (K : MC R p s m args c cX16_opens 1 RX16 D cA tys A n0 s0 1 21 []) (hQ : HQV p l e R s m args below meth c cX16_opens D cA A n0 s0 QM dm ra jx rm Q) (hX : HX p l e R s m args below meth c 1 D cA A n0 s0 QM dm ra jx rm X) : ∀ (σ : Sg), w_X16_opens_9 ra jx rm Q X σ → RG σ → Shp dm ra jx rm σ → JJ p l e R s m args below meth c 1 D cA A n0 s0 QM σ 9 [(0, .ref rm)] [] := by
  intro σ h hGσ hS H locs ls hH hl hc
  have B := K.1
  unfold w_X16_opens_9 at h
  refine lv_aload_n B.1 B.2.1 dX16_opens_9 rfl (lv_at hl 0 rfl) ?_
  refine lv_bipush (v := i32 9) B.1 B.2.1 dX16_opens_10 (by decide) ?_
  refine c_V B hH hl hc K.2.2.1 (C := RX16) (T := TX16) (N := 123) (ci := 16) (As := [.int (i32 9)]) (ok_X16_fail K.2.1 σ 9 (by unfold rng; omega) hGσ hS h) wc_X16_65 1 hd_X16_fail ⟨Nat.le_trans (Nat.le_of_ble_eq_true rfl) K.2.2.2.1, Nat.le_trans (Nat.le_of_ble_eq_true rfl) K.2.2.2.2.1⟩ hS.1.1 hS.1.2 (by decide) rfl rfl (rest := []) rfl (Nat.le_of_ble_eq_true rfl) dX16_opens_12 (fun σ11 w hq => ?_) (fun σ9 E9 hx9 => hX σ9 E9 _ _ _ (tb_out K.2.2.2.2.2 rfl) hx9.1 hx9.2.1 hx9.2.2)
  obtain ⟨r12, rfl, h, hGσ11, hS⟩ := hq
  intro H locs ls hH hl hc
  refine W.eq (g2 := F0 m 15 ls [va_rf r12]) (rfl) ?_
  try dsimp only at h
  obtain ⟨qt, h⟩ := h
  refine W.eq (g2 := F0 m 15 ls [.ref (ra 1)]) (by rw [qt]; rfl) ?_
  have hx9 := And.intro h (And.intro hGσ11 hS)
  refine h_athrow B hH hl hc (ci := 14) (hS.ob (k := 1) (ci := 14) (by decide)).1 (hS.ob (k := 1) (ci := 14) (by decide)).2 (by decide) rfl dX16_opens_15 ?_
  exact hX σ11 _ _ _ _ (tb_out K.2.2.2.2.2 rfl) hx9.1 hx9.2.1 hx9.2.2
set_option maxRecDepth 20000 in
theorem a_X16_opens_0 {Q : Sg → Unit → Prop} {X : Sg → String → Prop} (K : MC R p s m args c cX16_opens 1 RX16 D cA tys A n0 s0 1 21 []) (hQ : HQV p l e R s m args below meth c cX16_opens D cA A n0 s0 QM dm ra jx rm Q) (hX : HX p l e R s m args below meth c 1 D cA A n0 s0 QM dm ra jx rm X) : ∀ (σ : Sg), w_X16_opens_0 ra jx rm Q X σ → RG σ → Shp dm ra jx rm σ → JJ p l e R s m args below meth c 1 D cA A n0 s0 QM σ 0 [(0, .ref rm)] [] := by
  intro σ h hGσ hS H locs ls hH hl hc
  have B := K.1
  unfold w_X16_opens_0 at h
  refine lv_aload_n B.1 B.2.1 dX16_opens_0 rfl (lv_at hl 0 rfl) ?_
  refine r_geti B hH hS 19 (by decide) wf_X16_115 rfl rfl dX16_opens_1 ?_
  refine lv_bipush (v := i32 10) B.1 B.2.1 dX16_opens_4 (by decide) ?_
  refine lv_icmp_ne (tgt := 16) B.1 B.2.1 dX16_opens_6 (by decide) (fun h9 => ?_) (fun h9 => ?_)
  · rw [if_pos (fun q => h9 ((i32_eq (hGσ _ _) (by unfold rng; omega)).mpr q))] at h
    exact a_X16_opens_16 K hQ hX _ h hGσ hS _ _ _ hH (lv_sub (l' := [(0, .ref rm)]) hl [0] rfl) hc
  · rw [if_neg (fun q => q ((i32_eq (hGσ _ _) (by unfold rng; omega)).mp h9))] at h
    exact a_X16_opens_9 K hQ hX _ h hGσ hS _ _ _ hH (lv_sub (l' := [(0, .ref rm)]) hl [0] rfl) hc
theorem ok_X16_opens (hT : Tys cA tys) {Q : Sg → Unit → Prop} {X : Sg → String → Prop} (σ : Sg) (hG : RG σ) (hS : Shp dm ra jx rm σ) (h : wp_X16_opens ra jx rm σ Q X) : Ok l D cA tys A yX16_opens (.code yX16_opens cX16_opens 1 none) 1 21 [.ref rm] σ (QnV dm ra jx rm Q) (QxR dm ra jx rm X) := by
  unfold wp_X16_opens at h
  exact ok_V (plainFor_of_name (by decide)) (by exact Nat.le_of_ble_eq_true rfl) hT (fun p e R s m args below meth c K hQ hX H locs ls hH hl hc => a_X16_opens_0 K hQ hX σ h hG hS H locs ls hH (lv_sub (l' := [(0, .ref rm)]) hl [0] rfl) hc)
theorem dX16_isKeyword_0 : decode cX16_isKeyword 0 = .ok (.iconst 0, 1) := by decide +kernel
theorem dX16_isKeyword_1 : decode cX16_isKeyword 1 = .ok (.istore_n 3, 1) := by decide +kernel
theorem dX16_isKeyword_2 : decode cX16_isKeyword 2 = .ok (.aload_n 0, 1) := by decide +kernel
theorem dX16_isKeyword_3 : decode cX16_isKeyword 3 = .ok (.getfield 95, 3) := by decide +kernel
theorem dX16_isKeyword_6 : decode cX16_isKeyword 6 = .ok (.astore 4, 2) := by decide +kernel
theorem dX16_isKeyword_8 : decode cX16_isKeyword 8 = .ok (.aload 4, 2) := by decide +kernel
theorem dX16_isKeyword_10 : decode cX16_isKeyword 10 = .ok (.arraylength, 1) := by decide +kernel
theorem dX16_isKeyword_11 : decode cX16_isKeyword 11 = .ok (.istore 5, 2) := by decide +kernel
theorem dX16_isKeyword_13 : decode cX16_isKeyword 13 = .ok (.iconst 0, 1) := by decide +kernel
theorem dX16_isKeyword_14 : decode cX16_isKeyword 14 = .ok (.istore 6, 2) := by decide +kernel
theorem dX16_isKeyword_16 : decode cX16_isKeyword 16 = .ok (.iload 6, 2) := by decide +kernel
theorem dX16_isKeyword_18 : decode cX16_isKeyword 18 = .ok (.iload 5, 2) := by decide +kernel
theorem dX16_isKeyword_20 : decode cX16_isKeyword 20 = .ok (.if_icmp .ge 33, 3) := by decide +kernel
theorem dX16_isKeyword_23 : decode cX16_isKeyword 23 = .ok (.aload 4, 2) := by decide +kernel
theorem dX16_isKeyword_25 : decode cX16_isKeyword 25 = .ok (.iload 6, 2) := by decide +kernel
theorem dX16_isKeyword_27 : decode cX16_isKeyword 27 = .ok (.laload, 1) := by decide +kernel
theorem dX16_isKeyword_28 : decode cX16_isKeyword 28 = .ok (.lstore 7, 2) := by decide +kernel
theorem dX16_isKeyword_30 : decode cX16_isKeyword 30 = .ok (.iload_n 3, 1) := by decide +kernel
theorem dX16_isKeyword_31 : decode cX16_isKeyword 31 = .ok (.ifCond .ne 10, 3) := by decide +kernel
theorem dX16_isKeyword_34 : decode cX16_isKeyword 34 = .ok (.lload 7, 2) := by decide +kernel
theorem dX16_isKeyword_36 : decode cX16_isKeyword 36 = .ok (.lload_n 1, 1) := by decide +kernel
theorem dX16_isKeyword_37 : decode cX16_isKeyword 37 = .ok (.lcmp, 1) := by decide +kernel
theorem dX16_isKeyword_38 : decode cX16_isKeyword 38 = .ok (.ifCond .ne 7, 3) := by decide +kernel
theorem dX16_isKeyword_41 : decode cX16_isKeyword 41 = .ok (.iconst 1, 1) := by decide +kernel
theorem dX16_isKeyword_42 : decode cX16_isKeyword 42 = .ok (.goto 4, 3) := by decide +kernel
theorem dX16_isKeyword_45 : decode cX16_isKeyword 45 = .ok (.iconst 0, 1) := by decide +kernel
theorem dX16_isKeyword_46 : decode cX16_isKeyword 46 = .ok (.istore_n 3, 1) := by decide +kernel
theorem dX16_isKeyword_47 : decode cX16_isKeyword 47 = .ok (.iinc 6 1, 3) := by decide +kernel
theorem dX16_isKeyword_50 : decode cX16_isKeyword 50 = .ok (.goto (-34), 3) := by decide +kernel
theorem dX16_isKeyword_53 : decode cX16_isKeyword 53 = .ok (.iload_n 3, 1) := by decide +kernel
theorem dX16_isKeyword_54 : decode cX16_isKeyword 54 = .ok (.ireturn, 1) := by decide +kernel
set_option maxRecDepth 20000 in
theorem a_X16_isKeyword_53 {Q : Sg → Int → Prop} {X : Sg → String → Prop} (K : MC R p s m args c cX16_isKeyword 9 RX16 D cA tys A n0 s0 0 0 []) (hQ : HQZ p l e R s m args below meth c cX16_isKeyword D cA A n0 s0 QM dm ra jx rm Q) (hX : HX p l e R s m args below meth c 9 D cA A n0 s0 QM dm ra jx rm X) : ∀ (σ : Sg) (v3 : Int) (g3 : rng v3), w_X16_isKeyword_53 ra jx rm Q X σ v3 → RG σ → Shp dm ra jx rm σ → JJ p l e R s m args below meth c 9 D cA A n0 s0 QM σ 53 [(0, .ref rm), (3, .int (i32 v3)), (4, va_rf (some (ra 14)))] [] := by
  intro σ v3 g3 h hGσ hS H locs ls hH hl hc
  have B := K.1
  unfold w_X16_isKeyword_53 at h
  refine lv_iload_n B.1 B.2.1 dX16_isKeyword_53 rfl (lv_at hl 1 rfl) ?_
  obtain ⟨qz, h⟩ := h
  exact hQ _ _ _ _ _ _ g3 qz dX16_isKeyword_54 hH hc h hGσ hS
set_option maxRecDepth 20000 in
theorem a_X16_isKeyword_46 {Q : Sg → Int → Prop} {X : Sg → String → Prop} (K : MC R p s m args c cX16_isKeyword 9 RX16 D cA tys A n0 s0 0 0 []) (hQ : HQZ p l e R s m args below meth c cX16_isKeyword D cA A n0 s0 QM dm ra jx rm Q) (hX : HX p l e R s m args below meth c 9 D cA A n0 s0 QM dm ra jx rm X) {K16 : Sg → Int64 → Int → Int → Int → Prop} (hK16 : ∀ (σ : Sg) (v1 : Int64) (v3 : Int) (v5 : Int) (v6 : Int) (g3 : rng v3) (g5 : rng v5) (g6 : rng v6), K16 σ v1 v3 v5 v6 → RG σ → Shp dm ra jx rm σ → JJ p l e R s m args below meth c 9 D cA A n0 s0 QM σ 16 [(0, .ref rm), (1, .long v1), (3, .int (i32 v3)), (5, .int (i32 v5)), (6, .int (i32 v6)), (4, va_rf (some (ra 14)))] []) : ∀ (σ : Sg) (v1 : Int64) (v5 : Int) (v6 : Int) (u0 : Int) (g5 : rng v5) (g6 : rng v6) (gu0 : rng u0), w_X16_isKeyword_46 ra jx rm K16 Q X σ v1 v5 v6 u0 → RG σ → Shp dm ra jx rm σ → JJ p l e R s m args below meth c 9 D cA A n0 s0 QM σ 46 [(0, .ref rm), (1, .long v1), (5, .int (i32 v5)), (6, .int (i32 v6)), (4, va_rf (some (ra 14)))] [.int (i32 u0)] := by
  intro σ v1 v5 v6 u0 g5 g6 gu0 h hGσ hS H locs ls hH hl hc
  have B := K.1
  unfold w_X16_isKeyword_46 at h
  refine lv_istore_n (lv' := [(3, .int (i32 u0)), (0, .ref rm), (1, .long v1), (5, .int (i32 v5)), (6, .int (i32 v6)), (4, va_rf (some (ra 14)))]) B.1 B.2.1 dX16_isKeyword_46 rfl hl (by decide) rfl (fun ls hl => ?_)
  obtain ⟨q1, h⟩ := h
  refine lv_iinc (k := 4) (v := i32 (v6 + 1)) (lv' := [(6, .int (i32 (v6 + 1))), (3, .int (i32 u0)), (0, .ref rm), (1, .long v1), (5, .int (i32 v5)), (4, va_rf (some (ra 14)))]) B.1 B.2.1 dX16_isKeyword_47 hl rfl (i32_add _ _) (by decide) rfl (fun ls hl => ?_)
  refine lv_goto (tgt := 16) B.1 B.2.1 dX16_isKeyword_50 (by decide) ?_
  exact hK16 _ _ _ _ _ gu0 g5 q1 h hGσ hS _ _ _ hH (lv_sub (l' := [(0, .ref rm), (1, .long v1), (3, .int (i32 u0)), (5, .int (i32 v5)), (6, .int (i32 (v6 + 1))), (4, va_rf (some (ra 14)))]) hl [2, 3, 1, 4, 0, 5] rfl) hc
set_option maxRecDepth 20000 in
theorem a_X16_isKeyword_41 {Q : Sg → Int → Prop} {X : Sg → String → Prop} (K : MC R p s m args c cX16_isKeyword 9 RX16 D cA tys A n0 s0 0 0 []) (hQ : HQZ p l e R s m args below meth c cX16_isKeyword D cA A n0 s0 QM dm ra jx rm Q) (hX : HX p l e R s m args below meth c 9 D cA A n0 s0 QM dm ra jx rm X) {K16 : Sg → Int64 → Int → Int → Int → Prop} (hK16 : ∀ (σ : Sg) (v1 : Int64) (v3 : Int) (v5 : Int) (v6 : Int) (g3 : rng v3) (g5 : rng v5) (g6 : rng v6), K16 σ v1 v3 v5 v6 → RG σ → Shp dm ra jx rm σ → JJ p l e R s m args below meth c 9 D cA A n0 s0 QM σ 16 [(0, .ref rm), (1, .long v1), (3, .int (i32 v3)), (5, .int (i32 v5)), (6, .int (i32 v6)), (4, va_rf (some (ra 14)))] []) : ∀ (σ : Sg) (v1 : Int64) (v5 : Int) (v6 : Int) (g5 : rng v5) (g6 : rng v6), w_X16_isKeyword_41 ra jx rm K16 Q X σ v1 v5 v6 → RG σ → Shp dm ra jx rm σ → JJ p l e R s m args below meth c 9 D cA A n0 s0 QM σ 41 [(0, .ref rm), (1, .long v1), (5, .int (i32 v5)), (6, .int (i32 v6)), (4, va_rf (some (ra 14)))] [] := by
  intro σ v1 v5 v6 g5 g6 h hGσ hS H locs ls hH hl hc
  have B := K.1
  unfold w_X16_isKeyword_41 at h
  refine lv_iconst (v := i32 1) B.1 B.2.1 dX16_isKeyword_41 (by decide) ?_
  refine lv_goto (tgt := 46) B.1 B.2.1 dX16_isKeyword_42 (by decide) ?_
  exact a_X16_isKeyword_46 K hQ hX hK16 _ _ _ _ _ g5 g6 (by unfold rng; omega) h hGσ hS _ _ _ hH (lv_sub (l' := [(0, .ref rm), (1, .long v1), (5, .int (i32 v5)), (6, .int (i32 v6)), (4, va_rf (some (ra 14)))]) hl [0, 1, 2, 3, 4] rfl) hc
set_option maxRecDepth 20000 in
theorem a_X16_isKeyword_45 {Q : Sg → Int → Prop} {X : Sg → String → Prop} (K : MC R p s m args c cX16_isKeyword 9 RX16 D cA tys A n0 s0 0 0 []) (hQ : HQZ p l e R s m args below meth c cX16_isKeyword D cA A n0 s0 QM dm ra jx rm Q) (hX : HX p l e R s m args below meth c 9 D cA A n0 s0 QM dm ra jx rm X) {K16 : Sg → Int64 → Int → Int → Int → Prop} (hK16 : ∀ (σ : Sg) (v1 : Int64) (v3 : Int) (v5 : Int) (v6 : Int) (g3 : rng v3) (g5 : rng v5) (g6 : rng v6), K16 σ v1 v3 v5 v6 → RG σ → Shp dm ra jx rm σ → JJ p l e R s m args below meth c 9 D cA A n0 s0 QM σ 16 [(0, .ref rm), (1, .long v1), (3, .int (i32 v3)), (5, .int (i32 v5)), (6, .int (i32 v6)), (4, va_rf (some (ra 14)))] []) : ∀ (σ : Sg) (v1 : Int64) (v5 : Int) (v6 : Int) (g5 : rng v5) (g6 : rng v6), w_X16_isKeyword_45 ra jx rm K16 Q X σ v1 v5 v6 → RG σ → Shp dm ra jx rm σ → JJ p l e R s m args below meth c 9 D cA A n0 s0 QM σ 45 [(0, .ref rm), (1, .long v1), (5, .int (i32 v5)), (6, .int (i32 v6)), (4, va_rf (some (ra 14)))] [] := by
  intro σ v1 v5 v6 g5 g6 h hGσ hS H locs ls hH hl hc
  have B := K.1
  unfold w_X16_isKeyword_45 at h
  refine lv_iconst (v := i32 0) B.1 B.2.1 dX16_isKeyword_45 (by decide) ?_
  exact a_X16_isKeyword_46 K hQ hX hK16 _ _ _ _ _ g5 g6 (by unfold rng; omega) h hGσ hS _ _ _ hH (lv_sub (l' := [(0, .ref rm), (1, .long v1), (5, .int (i32 v5)), (6, .int (i32 v6)), (4, va_rf (some (ra 14)))]) hl [0, 1, 2, 3, 4] rfl) hc
set_option maxRecDepth 20000 in
theorem a_X16_isKeyword_34 {Q : Sg → Int → Prop} {X : Sg → String → Prop} (K : MC R p s m args c cX16_isKeyword 9 RX16 D cA tys A n0 s0 0 0 []) (hQ : HQZ p l e R s m args below meth c cX16_isKeyword D cA A n0 s0 QM dm ra jx rm Q) (hX : HX p l e R s m args below meth c 9 D cA A n0 s0 QM dm ra jx rm X) {K16 : Sg → Int64 → Int → Int → Int → Prop} (hK16 : ∀ (σ : Sg) (v1 : Int64) (v3 : Int) (v5 : Int) (v6 : Int) (g3 : rng v3) (g5 : rng v5) (g6 : rng v6), K16 σ v1 v3 v5 v6 → RG σ → Shp dm ra jx rm σ → JJ p l e R s m args below meth c 9 D cA A n0 s0 QM σ 16 [(0, .ref rm), (1, .long v1), (3, .int (i32 v3)), (5, .int (i32 v5)), (6, .int (i32 v6)), (4, va_rf (some (ra 14)))] []) : ∀ (σ : Sg) (v1 : Int64) (v5 : Int) (v6 : Int) (v7 : Int64) (g5 : rng v5) (g6 : rng v6), w_X16_isKeyword_34 ra jx rm K16 Q X σ v1 v5 v6 v7 → RG σ → Shp dm ra jx rm σ → JJ p l e R s m args below meth c 9 D cA A n0 s0 QM σ 34 [(0, .ref rm), (1, .long v1), (5, .int (i32 v5)), (6, .int (i32 v6)), (7, .long v7), (4, va_rf (some (ra 14)))] [] := by
  intro σ v1 v5 v6 v7 g5 g6 h hGσ hS H locs ls hH hl hc
  have B := K.1
  unfold w_X16_isKeyword_34 at h
  refine lv_lload B.1 B.2.1 dX16_isKeyword_34 (lv_at hl 4 rfl) ?_
  refine lv_lload_n B.1 B.2.1 dX16_isKeyword_36 rfl (lv_at hl 1 rfl) ?_
  refine W.lcmp B.1 B.2.1 dX16_isKeyword_37 ?_
  refine lv_if_ne (tgt := 45) B.1 B.2.1 dX16_isKeyword_38 (by decide) (fun h9 => ?_) (fun h9 => ?_)
  · rw [if_pos (fun q => h9 ((lg_cmp_eq _ _).mpr q))] at h
    exact a_X16_isKeyword_45 K hQ hX hK16 _ _ _ _ g5 g6 h hGσ hS _ _ _ hH (lv_sub (l' := [(0, .ref rm), (1, .long v1), (5, .int (i32 v5)), (6, .int (i32 v6)), (4, va_rf (some (ra 14)))]) hl [0, 1, 2, 3, 5] rfl) hc
  · rw [if_neg (fun q => q ((lg_cmp_eq _ _).mp h9))] at h
    exact a_X16_isKeyword_41 K hQ hX hK16 _ _ _ _ g5 g6 h hGσ hS _ _ _ hH (lv_sub (l' := [(0, .ref rm), (1, .long v1), (5, .int (i32 v5)), (6, .int (i32 v6)), (4, va_rf (some (ra 14)))]) hl [0, 1, 2, 3, 5] rfl) hc
set_option maxRecDepth 20000 in
theorem a_X16_isKeyword_23 {Q : Sg → Int → Prop} {X : Sg → String → Prop} (K : MC R p s m args c cX16_isKeyword 9 RX16 D cA tys A n0 s0 0 0 []) (hQ : HQZ p l e R s m args below meth c cX16_isKeyword D cA A n0 s0 QM dm ra jx rm Q) (hX : HX p l e R s m args below meth c 9 D cA A n0 s0 QM dm ra jx rm X) {K16 : Sg → Int64 → Int → Int → Int → Prop} (hK16 : ∀ (σ : Sg) (v1 : Int64) (v3 : Int) (v5 : Int) (v6 : Int) (g3 : rng v3) (g5 : rng v5) (g6 : rng v6), K16 σ v1 v3 v5 v6 → RG σ → Shp dm ra jx rm σ → JJ p l e R s m args below meth c 9 D cA A n0 s0 QM σ 16 [(0, .ref rm), (1, .long v1), (3, .int (i32 v3)), (5, .int (i32 v5)), (6, .int (i32 v6)), (4, va_rf (some (ra 14)))] []) : ∀ (σ : Sg) (v1 : Int64) (v3 : Int) (v5 : Int) (v6 : Int) (g3 : rng v3) (g5 : rng v5) (g6 : rng v6), w_X16_isKeyword_23 ra jx rm K16 Q X σ v1 v3 v5 v6 → RG σ → Shp dm ra jx rm σ → JJ p l e R s m args below meth c 9 D cA A n0 s0 QM σ 23 [(0, .ref rm), (1, .long v1), (3, .int (i32 v3)), (5, .int (i32 v5)), (6, .int (i32 v6)), (4, va_rf (some (ra 14)))] [] := by
  intro σ v1 v3 v5 v6 g3 g5 g6 h hGσ hS H locs ls hH hl hc
  have B := K.1
  unfold w_X16_isKeyword_23 at h
  refine lv_aloadQ B.1 B.2.1 dX16_isKeyword_23 (lv_at hl 5 rfl) ?_
  refine W.eq (g2 := F0 m 25 ls [.ref (ra 14)]) (rfl) ?_
  refine lv_iload B.1 B.2.1 dX16_isKeyword_25 (lv_at hl 4 rfl) ?_
  obtain ⟨q1, h⟩ := h
  refine x_lald B K.2.1 hH (hS.ar (k := 14) (kd := 101) (n := 23) (by decide)) (by decide) q1 dX16_isKeyword_27 ?_
  refine lv_lstore (lv' := [(7, .long (gJ σ (ra 14) v6.toNat)), (0, .ref rm), (1, .long v1), (3, .int (i32 v3)), (5, .int (i32 v5)), (6, .int (i32 v6)), (4, va_rf (some (ra 14)))]) B.1 B.2.1 dX16_isKeyword_28 hl (by decide) rfl (fun ls hl => ?_)
  refine lv_iload_n B.1 B.2.1 dX16_isKeyword_30 rfl (lv_at hl 3 rfl) ?_
  refine lv_if_ne (tgt := 41) B.1 B.2.1 dX16_isKeyword_31 (by decide) (fun h9 => ?_) (fun h9 => ?_)
  · rw [if_pos (fun q => h9 ((z_eq g3).mpr q))] at h
    exact a_X16_isKeyword_41 K hQ hX hK16 _ _ _ _ g5 g6 h hGσ hS _ _ _ hH (lv_sub (l' := [(0, .ref rm), (1, .long v1), (5, .int (i32 v5)), (6, .int (i32 v6)), (4, va_rf (some (ra 14)))]) hl [1, 2, 4, 5, 6] rfl) hc
  · rw [if_neg (fun q => q ((z_eq g3).mp h9))] at h
    exact a_X16_isKeyword_34 K hQ hX hK16 _ _ _ _ _ g5 g6 h hGσ hS _ _ _ hH (lv_sub (l' := [(0, .ref rm), (1, .long v1), (5, .int (i32 v5)), (6, .int (i32 v6)), (7, .long (gJ σ (ra 14) v6.toNat)), (4, va_rf (some (ra 14)))]) hl [1, 2, 4, 5, 0, 6] rfl) hc
set_option maxRecDepth 20000 in
theorem a_X16_isKeyword_16 {Q : Sg → Int → Prop} {X : Sg → String → Prop} (K : MC R p s m args c cX16_isKeyword 9 RX16 D cA tys A n0 s0 0 0 []) (hQ : HQZ p l e R s m args below meth c cX16_isKeyword D cA A n0 s0 QM dm ra jx rm Q) (hX : HX p l e R s m args below meth c 9 D cA A n0 s0 QM dm ra jx rm X) {K16 : Sg → Int64 → Int → Int → Int → Prop} (hK16 : ∀ (σ : Sg) (v1 : Int64) (v3 : Int) (v5 : Int) (v6 : Int) (g3 : rng v3) (g5 : rng v5) (g6 : rng v6), K16 σ v1 v3 v5 v6 → RG σ → Shp dm ra jx rm σ → JJ p l e R s m args below meth c 9 D cA A n0 s0 QM σ 16 [(0, .ref rm), (1, .long v1), (3, .int (i32 v3)), (5, .int (i32 v5)), (6, .int (i32 v6)), (4, va_rf (some (ra 14)))] []) : ∀ (σ : Sg) (v1 : Int64) (v3 : Int) (v5 : Int) (v6 : Int) (g3 : rng v3) (g5 : rng v5) (g6 : rng v6), w_X16_isKeyword_16 ra jx rm K16 Q X σ v1 v3 v5 v6 → RG σ → Shp dm ra jx rm σ → JJ p l e R s m args below meth c 9 D cA A n0 s0 QM σ 16 [(0, .ref rm), (1, .long v1), (3, .int (i32 v3)), (5, .int (i32 v5)), (6, .int (i32 v6)), (4, va_rf (some (ra 14)))] [] := by
  intro σ v1 v3 v5 v6 g3 g5 g6 h hGσ hS H locs ls hH hl hc
  have B := K.1
  unfold w_X16_isKeyword_16 at h
  refine lv_iload B.1 B.2.1 dX16_isKeyword_16 (lv_at hl 4 rfl) ?_
  refine lv_iload B.1 B.2.1 dX16_isKeyword_18 (lv_at hl 3 rfl) ?_
  refine lv_icmp_ge (tgt := 53) B.1 B.2.1 dX16_isKeyword_20 (by decide) (fun h9 => ?_) (fun h9 => ?_)
  · rw [if_pos ((i32_le g5 g6).mp h9)] at h
    exact a_X16_isKeyword_53 K hQ hX _ _ g3 h hGσ hS _ _ _ hH (lv_sub (l' := [(0, .ref rm), (3, .int (i32 v3)), (4, va_rf (some (ra 14)))]) hl [0, 2, 5] rfl) hc
  · rw [if_neg (fun q => h9 ((i32_le g5 g6).mpr q))] at h
    exact a_X16_isKeyword_23 K hQ hX hK16 _ _ _ _ _ g3 g5 g6 h hGσ hS _ _ _ hH (lv_sub (l' := [(0, .ref rm), (1, .long v1), (3, .int (i32 v3)), (5, .int (i32 v5)), (6, .int (i32 v6)), (4, va_rf (some (ra 14)))]) hl [0, 1, 2, 3, 4, 5] rfl) hc
theorem al_X16_isKeyword_16 {Q : Sg → Int → Prop} {X : Sg → String → Prop} (K : MC R p s m args c cX16_isKeyword 9 RX16 D cA tys A n0 s0 0 0 []) (hQ : HQZ p l e R s m args below meth c cX16_isKeyword D cA A n0 s0 QM dm ra jx rm Q) (hX : HX p l e R s m args below meth c 9 D cA A n0 s0 QM dm ra jx rm X) : ∀ (n : Nat), ∀ (σ : Sg) (v1 : Int64) (v3 : Int) (v5 : Int) (v6 : Int) (g3 : rng v3) (g5 : rng v5) (g6 : rng v6), wl_X16_isKeyword_16 ra jx rm Q X n σ v1 v3 v5 v6 → RG σ → Shp dm ra jx rm σ → JJ p l e R s m args below meth c 9 D cA A n0 s0 QM σ 16 [(0, .ref rm), (1, .long v1), (3, .int (i32 v3)), (5, .int (i32 v5)), (6, .int (i32 v6)), (4, va_rf (some (ra 14)))] [] := by
  intro n
  induction n with
  | zero => intro σ v1 v3 v5 v6 g3 g5 g6 h; exact h.elim
  | succ n ih => exact fun σ v1 v3 v5 v6 g3 g5 g6 h => a_X16_isKeyword_16 K hQ hX ih σ v1 v3 v5 v6 g3 g5 g6 h
set_option maxRecDepth 20000 in
theorem a_X16_isKeyword_0 {Q : Sg → Int → Prop} {X : Sg → String → Prop} (K : MC R p s m args c cX16_isKeyword 9 RX16 D cA tys A n0 s0 0 0 []) (hQ : HQZ p l e R s m args below meth c cX16_isKeyword D cA A n0 s0 QM dm ra jx rm Q) (hX : HX p l e R s m args below meth c 9 D cA A n0 s0 QM dm ra jx rm X) : ∀ (σ : Sg) (v1 : Int64), w_X16_isKeyword_0 ra jx rm Q X σ v1 → RG σ → Shp dm ra jx rm σ → JJ p l e R s m args below meth c 9 D cA A n0 s0 QM σ 0 [(0, .ref rm), (1, .long v1)] [] := by
  intro σ v1 h hGσ hS H locs ls hH hl hc
  have B := K.1
  unfold w_X16_isKeyword_0 at h
  refine lv_iconst (v := i32 0) B.1 B.2.1 dX16_isKeyword_0 (by decide) ?_
  refine lv_istore_n (lv' := [(3, .int (i32 0)), (0, .ref rm), (1, .long v1)]) B.1 B.2.1 dX16_isKeyword_1 rfl hl (by decide) rfl (fun ls hl => ?_)
  refine lv_aload_n B.1 B.2.1 dX16_isKeyword_2 rfl (lv_at hl 1 rfl) ?_
  refine r_arr B hH hS 14 (kd := 101) (n := 23) (by decide) (by decide) wf_X16_95 rfl rfl dX16_isKeyword_3 ?_
  refine W.eq (g2 := F0 m 6 ls [va_rf (some (ra 14))]) (rfl) ?_
  refine lv_astoreQ (lv' := [(4, va_rf (some (ra 14))), (3, .int (i32 0)), (0, .ref rm), (1, .long v1)]) B.1 B.2.1 dX16_isKeyword_6 hl (by decide) rfl (fun ls hl => ?_)
  refine lv_aloadQ B.1 B.2.1 dX16_isKeyword_8 (lv_at hl 0 rfl) ?_
  refine W.eq (g2 := F0 m 10 ls [.ref (ra 14)]) (rfl) ?_
  refine h_alen B hH (hS.ar (k := 14) (kd := 101) (n := 23) (by decide)).1 (by decide) (hS.ar (k := 14) (kd := 101) (n := 23) (by decide)).2.1 1 K.2.1.2.1 dX16_isKeyword_10 ?_
  refine W.eq (g2 := F0 m 11 ls [.int (i32 23)]) (by rw [(hS.ar (k := 14) (kd := 101) (n := 23) (by decide)).2.2]; rfl) ?_
  refine lv_istore (lv' := [(5, .int (i32 23)), (4, va_rf (some (ra 14))), (3, .int (i32 0)), (0, .ref rm), (1, .long v1)]) B.1 B.2.1 dX16_isKeyword_11 hl (by decide) rfl (fun ls hl => ?_)
  refine lv_iconst (v := i32 0) B.1 B.2.1 dX16_isKeyword_13 (by decide) ?_
  refine lv_istore (lv' := [(6, .int (i32 0)), (5, .int (i32 23)), (4, va_rf (some (ra 14))), (3, .int (i32 0)), (0, .ref rm), (1, .long v1)]) B.1 B.2.1 dX16_isKeyword_14 hl (by decide) rfl (fun ls hl => ?_)
  obtain ⟨n9, h⟩ := h
  exact al_X16_isKeyword_16 K hQ hX n9 _ _ _ _ _ (by unfold rng; omega) (by unfold rng; omega) (by unfold rng; omega) h hGσ hS _ _ _ hH (lv_sub (l' := [(0, .ref rm), (1, .long v1), (3, .int (i32 0)), (5, .int (i32 23)), (6, .int (i32 0)), (4, va_rf (some (ra 14)))]) hl [4, 5, 3, 1, 0, 2] rfl) hc
theorem ok_X16_isKeyword (hT : Tys cA tys) {Q : Sg → Int → Prop} {X : Sg → String → Prop} (σ : Sg) (v1 : Int64) (hG : RG σ) (hS : Shp dm ra jx rm σ) (h : wp_X16_isKeyword ra jx rm v1 σ Q X) : Ok l D cA tys A yX16_isKeyword (.code yX16_isKeyword cX16_isKeyword 9 (some .boolean)) 0 0 [.ref rm, .long v1] σ (QnZ dm ra jx rm Q) (QxR dm ra jx rm X) := by
  unfold wp_X16_isKeyword at h
  exact ok_Z (plainFor_of_name (by decide)) (by exact Nat.le_of_ble_eq_true rfl) hT (fun p e R s m args below meth c K hQ hX H locs ls hH hl hc => a_X16_isKeyword_0 K hQ hX σ v1 h hG hS H locs ls hH (lv_sub (l' := [(0, .ref rm), (1, .long v1)]) hl [0, 1] rfl) hc)
theorem dX16_isName_0 : decode cX16_isName 0 = .ok (.aload_n 0, 1) := by decide +kernel
theorem dX16_isName_1 : decode cX16_isName 1 = .ok (.invokevirtual 76, 3) := by decide +kernel
theorem dX16_isName_4 : decode cX16_isName 4 = .ok (.aload_n 0, 1) := by decide +kernel
theorem dX16_isName_5 : decode cX16_isName 5 = .ok (.getfield 38, 3) := by decide +kernel
theorem dX16_isName_8 : decode cX16_isName 8 = .ok (.iconst 1, 1) := by decide +kernel
theorem dX16_isName_9 : decode cX16_isName 9 = .ok (.if_icmp .ne 27, 3) := by decide +kernel
theorem dX16_isName_12 : decode cX16_isName 12 = .ok (.aload_n 0, 1) := by decide +kernel
theorem dX16_isName_13 : decode cX16_isName 13 = .ok (.getfield 53, 3) := by decide +kernel
theorem dX16_isName_16 : decode cX16_isName 16 = .ok (.bipush 6, 2) := by decide +kernel
theorem dX16_isName_18 : decode cX16_isName 18 = .ok (.if_icmp .gt 18, 3) := by decide +kernel
theorem dX16_isName_21 : decode cX16_isName 21 = .ok (.aload_n 0, 1) := by decide +kernel
theorem dX16_isName_22 : decode cX16_isName 22 = .ok (.aload_n 0, 1) := by decide +kernel
theorem dX16_isName_23 : decode cX16_isName 23 = .ok (.getfield 49, 3) := by decide +kernel
theorem dX16_isName_26 : decode cX16_isName 26 = .ok (.invokevirtual 107, 3) := by decide +kernel
theorem dX16_isName_29 : decode cX16_isName 29 = .ok (.ifCond .ne 7, 3) := by decide +kernel
theorem dX16_isName_32 : decode cX16_isName 32 = .ok (.iconst 1, 1) := by decide +kernel
theorem dX16_isName_33 : decode cX16_isName 33 = .ok (.goto 4, 3) := by decide +kernel
theorem dX16_isName_36 : decode cX16_isName 36 = .ok (.iconst 0, 1) := by decide +kernel
theorem dX16_isName_37 : decode cX16_isName 37 = .ok (.ireturn, 1) := by decide +kernel
set_option maxRecDepth 20000 in
theorem a_X16_isName_37 {Q : Sg → Int → Prop} {X : Sg → String → Prop} (K : MC R p s m args c cX16_isName 1 RX16 D cA tys A n0 s0 5 113 []) (hQ : HQZ p l e R s m args below meth c cX16_isName D cA A n0 s0 QM dm ra jx rm Q) (hX : HX p l e R s m args below meth c 1 D cA A n0 s0 QM dm ra jx rm X) : ∀ (σ : Sg) (u0 : Int) (gu0 : rng u0), w_X16_isName_37 ra jx rm Q X σ u0 → RG σ → Shp dm ra jx rm σ → JJ p l e R s m args below meth c 1 D cA A n0 s0 QM σ 37 [(0, .ref rm)] [.int (i32 u0)] := by
  intro σ u0 gu0 h hGσ hS H locs ls hH hl hc
  have B := K.1
  unfold w_X16_isName_37 at h
  obtain ⟨qz, h⟩ := h
  exact hQ _ _ _ _ _ _ gu0 qz dX16_isName_37 hH hc h hGσ hS
set_option maxRecDepth 20000 in
theorem a_X16_isName_36 {Q : Sg → Int → Prop} {X : Sg → String → Prop} (K : MC R p s m args c cX16_isName 1 RX16 D cA tys A n0 s0 5 113 []) (hQ : HQZ p l e R s m args below meth c cX16_isName D cA A n0 s0 QM dm ra jx rm Q) (hX : HX p l e R s m args below meth c 1 D cA A n0 s0 QM dm ra jx rm X) : ∀ (σ : Sg), w_X16_isName_36 ra jx rm Q X σ → RG σ → Shp dm ra jx rm σ → JJ p l e R s m args below meth c 1 D cA A n0 s0 QM σ 36 [(0, .ref rm)] [] := by
  intro σ h hGσ hS H locs ls hH hl hc
  have B := K.1
  unfold w_X16_isName_36 at h
  refine lv_iconst (v := i32 0) B.1 B.2.1 dX16_isName_36 (by decide) ?_
  exact a_X16_isName_37 K hQ hX _ _ (by unfold rng; omega) h hGσ hS _ _ _ hH (lv_sub (l' := [(0, .ref rm)]) hl [0] rfl) hc
set_option maxRecDepth 20000 in
theorem a_X16_isName_32 {Q : Sg → Int → Prop} {X : Sg → String → Prop} (K : MC R p s m args c cX16_isName 1 RX16 D cA tys A n0 s0 5 113 []) (hQ : HQZ p l e R s m args below meth c cX16_isName D cA A n0 s0 QM dm ra jx rm Q) (hX : HX p l e R s m args below meth c 1 D cA A n0 s0 QM dm ra jx rm X) : ∀ (σ : Sg), w_X16_isName_32 ra jx rm Q X σ → RG σ → Shp dm ra jx rm σ → JJ p l e R s m args below meth c 1 D cA A n0 s0 QM σ 32 [(0, .ref rm)] [] := by
  intro σ h hGσ hS H locs ls hH hl hc
  have B := K.1
  unfold w_X16_isName_32 at h
  refine lv_iconst (v := i32 1) B.1 B.2.1 dX16_isName_32 (by decide) ?_
  refine lv_goto (tgt := 37) B.1 B.2.1 dX16_isName_33 (by decide) ?_
  exact a_X16_isName_37 K hQ hX _ _ (by unfold rng; omega) h hGσ hS _ _ _ hH (lv_sub (l' := [(0, .ref rm)]) hl [0] rfl) hc
set_option maxRecDepth 20000 in
theorem a_X16_isName_21 {Q : Sg → Int → Prop} {X : Sg → String → Prop} (K : MC R p s m args c cX16_isName 1 RX16 D cA tys A n0 s0 5 113 []) (hQ : HQZ p l e R s m args below meth c cX16_isName D cA A n0 s0 QM dm ra jx rm Q) (hX : HX p l e R s m args below meth c 1 D cA A n0 s0 QM dm ra jx rm X) : ∀ (σ : Sg), w_X16_isName_21 ra jx rm Q X σ → RG σ → Shp dm ra jx rm σ → JJ p l e R s m args below meth c 1 D cA A n0 s0 QM σ 21 [(0, .ref rm)] [] := by
  intro σ h hGσ hS H locs ls hH hl hc
  have B := K.1
  unfold w_X16_isName_21 at h
  refine lv_aload_n B.1 B.2.1 dX16_isName_21 rfl (lv_at hl 0 rfl) ?_
  refine lv_aload_n B.1 B.2.1 dX16_isName_22 rfl (lv_at hl 0 rfl) ?_
  refine r_getl B hH hS 11 (by decide) wf_X16_49 rfl rfl dX16_isName_23 ?_
  refine c_V B hH hl hc K.2.2.1 (C := RX16) (T := TX16) (N := 123) (ci := 16) (As := [.long (gJ σ rm 11)]) (ok_X16_isKeyword K.2.1 σ (gJ σ rm 11) hGσ hS h) wc_X16_107 1 hd_X16_isKeyword ⟨Nat.le_trans (Nat.le_of_ble_eq_true rfl) K.2.2.2.1, Nat.le_trans (Nat.le_of_ble_eq_true rfl) K.2.2.2.2.1⟩ hS.1.1 hS.1.2 (by decide) rfl rfl (rest := []) rfl (Nat.le_of_ble_eq_true rfl) dX16_isName_26 (fun σ7 w hq => ?_) (fun σ9 E9 hx9 => hX σ9 E9 _ _ _ (tb_out K.2.2.2.2.2 rfl) hx9.1 hx9.2.1 hx9.2.2)
  obtain ⟨r8, rfl, ⟨gr8, gzr8⟩, h, hGσ7, hS⟩ := hq
  intro H locs ls hH hl hc
  refine W.eq (g2 := F0 m 29 ls [.int (i32 r8)]) (rfl) ?_
  try dsimp only at h
  refine lv_if_ne (tgt := 36) B.1 B.2.1 dX16_isName_29 (by decide) (fun h9 => ?_) (fun h9 => ?_)
  · rw [if_pos (fun q => h9 ((z_eq gr8).mpr q))] at h
    exact a_X16_isName_36 K hQ hX _ h hGσ7 hS _ _ _ hH (lv_sub (l' := [(0, .ref rm)]) hl [0] rfl) hc
  · rw [if_neg (fun q => q ((z_eq gr8).mp h9))] at h
    exact a_X16_isName_32 K hQ hX _ h hGσ7 hS _ _ _ hH (lv_sub (l' := [(0, .ref rm)]) hl [0] rfl) hc
set_option maxRecDepth 20000 in
theorem a_X16_isName_12 {Q : Sg → Int → Prop} {X : Sg → String → Prop} (K : MC R p s m args c cX16_isName 1 RX16 D cA tys A n0 s0 5 113 []) (hQ : HQZ p l e R s m args below meth c cX16_isName D cA A n0 s0 QM dm ra jx rm Q) (hX : HX p l e R s m args below meth c 1 D cA A n0 s0 QM dm ra jx rm X) : ∀ (σ : Sg), w_X16_isName_12 ra jx rm Q X σ → RG σ → Shp dm ra jx rm σ → JJ p l e R s m args below meth c 1 D cA A n0 s0 QM σ 12 [(0, .ref rm)] [] := by
  intro σ h hGσ hS H locs ls hH hl hc
  have B := K.1
  unfold w_X16_isName_12 at h
  refine lv_aload_n B.1 B.2.1 dX16_isName_12 rfl (lv_at hl 0 rfl) ?_
  refine r_geti B hH hS 12 (by decide) wf_X16_53 rfl rfl dX16_isName_13 ?_
  refine lv_bipush (v := i32 6) B.1 B.2.1 dX16_isName_16 (by decide) ?_
  refine lv_icmp_gt (tgt := 36) B.1 B.2.1 dX16_isName_18 (by decide) (fun h9 => ?_) (fun h9 => ?_)
  · rw [if_pos ((i32_lt (by unfold rng; omega) (hGσ _ _)).mp h9)] at h
    exact a_X16_isName_36 K hQ hX _ h hGσ hS _ _ _ hH (lv_sub (l' := [(0, .ref rm)]) hl [0] rfl) hc
  · rw [if_neg (fun q => h9 ((i32_lt (by unfold rng; omega) (hGσ _ _)).mpr q))] at h
    exact a_X16_isName_21 K hQ hX _ h hGσ hS _ _ _ hH (lv_sub (l' := [(0, .ref rm)]) hl [0] rfl) hc
set_option maxRecDepth 20000 in
theorem a_X16_isName_0 {Q : Sg → Int → Prop} {X : Sg → String → Prop} (K : MC R p s m args c cX16_isName 1 RX16 D cA tys A n0 s0 5 113 []) (hQ : HQZ p l e R s m args below meth c cX16_isName D cA A n0 s0 QM dm ra jx rm Q) (hX : HX p l e R s m args below meth c 1 D cA A n0 s0 QM dm ra jx rm X) : ∀ (σ : Sg), w_X16_isName_0 ra jx rm Q X σ → RG σ → Shp dm ra jx rm σ → JJ p l e R s m args below meth c 1 D cA A n0 s0 QM σ 0 [(0, .ref rm)] [] := by
  intro σ h hGσ hS H locs ls hH hl hc
  have B := K.1
  unfold w_X16_isName_0 at h
  refine lv_aload_n B.1 B.2.1 dX16_isName_0 rfl (lv_at hl 0 rfl) ?_
  refine c_V B hH hl hc K.2.2.1 (C := RX16) (T := TX16) (N := 123) (ci := 16) (As := []) (ok_X16_see K.2.1 σ hGσ hS h) wc_X16_76 0 hd_X16_see ⟨Nat.le_trans (Nat.le_of_ble_eq_true rfl) K.2.2.2.1, Nat.le_trans (Nat.le_of_ble_eq_true rfl) K.2.2.2.2.1⟩ hS.1.1 hS.1.2 (by decide) rfl rfl (rest := []) rfl (Nat.le_of_ble_eq_true rfl) dX16_isName_1 (fun σ9 w hq => ?_) (fun σ9 E9 hx9 => hX σ9 E9 _ _ _ (tb_out K.2.2.2.2.2 rfl) hx9.1 hx9.2.1 hx9.2.2)
  obtain ⟨rfl, h, hGσ9, hS⟩ := hq
  intro H locs ls hH hl hc
  refine W.eq (g2 := F0 m 4 ls []) (rfl) ?_
  try dsimp only at h
  refine lv_aload_n B.1 B.2.1 dX16_isName_4 rfl (lv_at hl 0 rfl) ?_
  refine r_geti B hH hS 9 (by decide) wf_X16_38 rfl rfl dX16_isName_5 ?_
  refine lv_iconst (v := i32 1) B.1 B.2.1 dX16_isName_8 (by decide) ?_
  refine lv_icmp_ne (tgt := 36) B.1 B.2.1 dX16_isName_9 (by decide) (fun h9 => ?_) (fun h9 => ?_)
  · rw [if_pos (fun q => h9 ((i32_eq (hGσ9 _ _) (by unfold rng; omega)).mpr q))] at h
    exact a_X16_isName_36 K hQ hX _ h hGσ9 hS _ _ _ hH (lv_sub (l' := [(0, .ref rm)]) hl [0] rfl) hc
  · rw [if_neg (fun q => q ((i32_eq (hGσ9 _ _) (by unfold rng; omega)).mp h9))] at h
    exact a_X16_isName_12 K hQ hX _ h hGσ9 hS _ _ _ hH (lv_sub (l' := [(0, .ref rm)]) hl [0] rfl) hc
theorem ok_X16_isName (hT : Tys cA tys) {Q : Sg → Int → Prop} {X : Sg → String → Prop} (σ : Sg) (hG : RG σ) (hS : Shp dm ra jx rm σ) (h : wp_X16_isName ra jx rm σ Q X) : Ok l D cA tys A yX16_isName (.code yX16_isName cX16_isName 1 (some .boolean)) 5 113 [.ref rm] σ (QnZ dm ra jx rm Q) (QxR dm ra jx rm X) := by
  unfold wp_X16_isName at h
  exact ok_Z (plainFor_of_name (by decide)) (by exact Nat.le_of_ble_eq_true rfl) hT (fun p e R s m args below meth c K hQ hX H locs ls hH hl hc => a_X16_isName_0 K hQ hX σ h hG hS H locs ls hH (lv_sub (l' := [(0, .ref rm)]) hl [0] rfl) hc)
theorem dX16_seeName_0 : decode cX16_seeName 0 = .ok (.aload_n 0, 1) := by decide +kernel
theorem dX16_seeName_1 : decode cX16_seeName 1 = .ok (.invokevirtual 111, 3) := by decide +kernel
theorem dX16_seeName_4 : decode cX16_seeName 4 = .ok (.ifCond .ne 8, 3) := by decide +kernel
theorem dX16_seeName_7 : decode cX16_seeName 7 = .ok (.aload_n 0, 1) := by decide +kernel
theorem dX16_seeName_8 : decode cX16_seeName 8 = .ok (.invokevirtual 80, 3) := by decide +kernel
theorem dX16_seeName_11 : decode cX16_seeName 11 = .ok (.athrow, 1) := by decide +kernel
theorem dX16_seeName_12 : decode cX16_seeName 12 = .ok (.aload_n 0, 1) := by decide +kernel
theorem dX16_seeName_13 : decode cX16_seeName 13 = .ok (.getfield 49, 3) := by decide +kernel
theorem dX16_seeName_16 : decode cX16_seeName 16 = .ok (.lreturn, 1) := by decide +kernel
set_option maxRecDepth 20000 in
theorem a_X16_seeName_12 {Q : Sg → Int64 → Prop} {X : Sg → String → Prop} (K : MC R p s m args c cX16_seeName 1 RX16 D cA tys A n0 s0 6 133 []) (hQ : HQJ p l e R s m args below meth c cX16_seeName D cA A n0 s0 QM dm ra jx rm Q) (hX : HX p l e R s m args below meth c 1 D cA A n0 s0 QM dm ra jx rm X) : ∀ (σ : Sg), w_X16_seeName_12 ra jx rm Q X σ → RG σ → Shp dm ra jx rm σ → JJ p l e R s m args below meth c 1 D cA A n0 s0 QM σ 12 [(0, .ref rm)] [] := by
  intro σ h hGσ hS H locs ls hH hl hc
  have B := K.1
  unfold w_X16_seeName_12 at h
  refine lv_aload_n B.1 B.2.1 dX16_seeName_12 rfl (lv_at hl 0 rfl) ?_
  refine r_getl B hH hS 11 (by decide) wf_X16_49 rfl rfl dX16_seeName_13 ?_
  exact hQ _ _ _ _ _ _ dX16_seeName_16 hH hc h hGσ hS
set_option maxRecDepth 20000 in
theorem a_X16_seeName_7 {Q : Sg → Int64 → Prop} {X : Sg → String → Prop} (K : MC R p s m args c cX16_seeName 1 RX16 D cA tys A n0 s0 6 133 []) (hQ : HQJ p l e R s m args below meth c cX16_seeName D cA A n0 s0 QM dm ra jx rm Q) (hX : HX p l e R s m args below meth c 1 D cA A n0 s0 QM dm ra jx rm X) : ∀ (σ : Sg), w_X16_seeName_7 ra jx rm Q X σ → RG σ → Shp dm ra jx rm σ → JJ p l e R s m args below meth c 1 D cA A n0 s0 QM σ 7 [(0, .ref rm)] [] := by
  intro σ h hGσ hS H locs ls hH hl hc
  have B := K.1
  unfold w_X16_seeName_7 at h
  refine lv_aload_n B.1 B.2.1 dX16_seeName_7 rfl (lv_at hl 0 rfl) ?_
  refine c_V B hH hl hc K.2.2.1 (C := RX16) (T := TX16) (N := 123) (ci := 16) (As := []) (ok_X16_misplaced K.2.1 σ hGσ hS h) wc_X16_80 0 hd_X16_misplaced ⟨Nat.le_trans (Nat.le_of_ble_eq_true rfl) K.2.2.2.1, Nat.le_trans (Nat.le_of_ble_eq_true rfl) K.2.2.2.2.1⟩ hS.1.1 hS.1.2 (by decide) rfl rfl (rest := []) rfl (Nat.le_of_ble_eq_true rfl) dX16_seeName_8 (fun σ9 w hq => ?_) (fun σ9 E9 hx9 => hX σ9 E9 _ _ _ (tb_out K.2.2.2.2.2 rfl) hx9.1 hx9.2.1 hx9.2.2)
  obtain ⟨r10, rfl, h, hGσ9, hS⟩ := hq
  intro H locs ls hH hl hc
  refine W.eq (g2 := F0 m 11 ls [va_rf r10]) (rfl) ?_
  try dsimp only at h
  obtain ⟨qt, h⟩ := h
  refine W.eq (g2 := F0 m 11 ls [.ref (ra 1)]) (by rw [qt]; rfl) ?_
  have hx9 := And.intro h (And.intro hGσ9 hS)
  refine h_athrow B hH hl hc (ci := 14) (hS.ob (k := 1) (ci := 14) (by decide)).1 (hS.ob (k := 1) (ci := 14) (by decide)).2 (by decide) rfl dX16_seeName_11 ?_
  exact hX σ9 _ _ _ _ (tb_out K.2.2.2.2.2 rfl) hx9.1 hx9.2.1 hx9.2.2
set_option maxRecDepth 20000 in
theorem a_X16_seeName_0 {Q : Sg → Int64 → Prop} {X : Sg → String → Prop} (K : MC R p s m args c cX16_seeName 1 RX16 D cA tys A n0 s0 6 133 []) (hQ : HQJ p l e R s m args below meth c cX16_seeName D cA A n0 s0 QM dm ra jx rm Q) (hX : HX p l e R s m args below meth c 1 D cA A n0 s0 QM dm ra jx rm X) : ∀ (σ : Sg), w_X16_seeName_0 ra jx rm Q X σ → RG σ → Shp dm ra jx rm σ → JJ p l e R s m args below meth c 1 D cA A n0 s0 QM σ 0 [(0, .ref rm)] [] := by
  intro σ h hGσ hS H locs ls hH hl hc
  have B := K.1
  unfold w_X16_seeName_0 at h
  refine lv_aload_n B.1 B.2.1 dX16_seeName_0 rfl (lv_at hl 0 rfl) ?_
  refine c_V B hH hl hc K.2.2.1 (C := RX16) (T := TX16) (N := 123) (ci := 16) (As := []) (ok_X16_isName K.2.1 σ hGσ hS h) wc_X16_111 0 hd_X16_isName ⟨Nat.le_trans (Nat.le_of_ble_eq_true rfl) K.2.2.2.1, Nat.le_trans (Nat.le_of_ble_eq_true rfl) K.2.2.2.2.1⟩ hS.1.1 hS.1.2 (by decide) rfl rfl (rest := []) rfl (Nat.le_of_ble_eq_true rfl) dX16_seeName_1 (fun σ11 w hq => ?_) (fun σ9 E9 hx9 => hX σ9 E9 _ _ _ (tb_out K.2.2.2.2.2 rfl) hx9.1 hx9.2.1 hx9.2.2)
  obtain ⟨r12, rfl, ⟨gr12, gzr12⟩, h, hGσ11, hS⟩ := hq
  intro H locs ls hH hl hc
  refine W.eq (g2 := F0 m 4 ls [.int (i32 r12)]) (rfl) ?_
  try dsimp only at h
  refine lv_if_ne (tgt := 12) B.1 B.2.1 dX16_seeName_4 (by decide) (fun h9 => ?_) (fun h9 => ?_)
  · rw [if_pos (fun q => h9 ((z_eq gr12).mpr q))] at h
    exact a_X16_seeName_12 K hQ hX _ h hGσ11 hS _ _ _ hH (lv_sub (l' := [(0, .ref rm)]) hl [0] rfl) hc
  · rw [if_neg (fun q => q ((z_eq gr12).mp h9))] at h
    exact a_X16_seeName_7 K hQ hX _ h hGσ11 hS _ _ _ hH (lv_sub (l' := [(0, .ref rm)]) hl [0] rfl) hc
theorem ok_X16_seeName (hT : Tys cA tys) {Q : Sg → Int64 → Prop} {X : Sg → String → Prop} (σ : Sg) (hG : RG σ) (hS : Shp dm ra jx rm σ) (h : wp_X16_seeName ra jx rm σ Q X) : Ok l D cA tys A yX16_seeName (.code yX16_seeName cX16_seeName 1 (some .long)) 6 133 [.ref rm] σ (QnJ dm ra jx rm Q) (QxR dm ra jx rm X) := by
  unfold wp_X16_seeName at h
  exact ok_J (plainFor_of_name (by decide)) (by exact Nat.le_of_ble_eq_true rfl) hT (fun p e R s m args below meth c K hQ hX H locs ls hH hl hc => a_X16_seeName_0 K hQ hX σ h hG hS H locs ls hH (lv_sub (l' := [(0, .ref rm)]) hl [0] rfl) hc)
theorem dX16_sign_0 : decode cX16_sign 0 = .ok (.aload_n 0, 1) := by decide +kernel
theorem dX16_sign_1 : decode cX16_sign 1 = .ok (.invokevirtual 76, 3) := by decide +kernel
theorem dX16_sign_4 : decode cX16_sign 4 = .ok (.aload_n 0, 1) := by decide +kernel
theorem dX16_sign_5 : decode cX16_sign 5 = .ok (.getfield 38, 3) := by decide +kernel
theorem dX16_sign_8 : decode cX16_sign 8 = .ok (.iload_n 1, 1) := by decide +kernel
theorem dX16_sign_9 : decode cX16_sign 9 = .ok (.if_icmp .eq 8, 3) := by decide +kernel
theorem dX16_sign_12 : decode cX16_sign 12 = .ok (.aload_n 0, 1) := by decide +kernel
theorem dX16_sign_13 : decode cX16_sign 13 = .ok (.invokevirtual 80, 3) := by decide +kernel
theorem dX16_sign_16 : decode cX16_sign 16 = .ok (.athrow, 1) := by decide +kernel
theorem dX16_sign_17 : decode cX16_sign 17 = .ok (.aload_n 0, 1) := by decide +kernel
theorem dX16_sign_18 : decode cX16_sign 18 = .ok (.invokevirtual 84, 3) := by decide +kernel
theorem dX16_sign_21 : decode cX16_sign 21 = .ok (.return_, 1) := by decide +kernel
set_option maxRecDepth 20000 in
theorem a_X16_sign_17 {Q : Sg → Unit → Prop} {X : Sg → String → Prop} (K : MC R p s m args c cX16_sign 2 RX16 D cA tys A n0 s0 5 113 []) (hQ : HQV p l e R s m args below meth c cX16_sign D cA A n0 s0 QM dm ra jx rm Q) (hX : HX p l e R s m args below meth c 2 D cA A n0 s0 QM dm ra jx rm X) : ∀ (σ : Sg), w_X16_sign_17 ra jx rm Q X σ → RG σ → Shp dm ra jx rm σ → JJ p l e R s m args below meth c 2 D cA A n0 s0 QM σ 17 [(0, .ref rm)] [] := by
  intro σ h hGσ hS H locs ls hH hl hc
  have B := K.1
  unfold w_X16_sign_17 at h
  refine lv_aload_n B.1 B.2.1 dX16_sign_17 rfl (lv_at hl 0 rfl) ?_
  refine c_V B hH hl hc K.2.2.1 (C := RX16) (T := TX16) (N := 123) (ci := 16) (As := []) (ok_X16_take K.2.1 σ hGσ hS h) wc_X16_84 0 hd_X16_take ⟨Nat.le_trans (Nat.le_of_ble_eq_true rfl) K.2.2.2.1, Nat.le_trans (Nat.le_of_ble_eq_true rfl) K.2.2.2.2.1⟩ hS.1.1 hS.1.2 (by decide) rfl rfl (rest := []) rfl (Nat.le_of_ble_eq_true rfl) dX16_sign_18 (fun σ9 w hq => ?_) (fun σ9 E9 hx9 => hX σ9 E9 _ _ _ (tb_out K.2.2.2.2.2 rfl) hx9.1 hx9.2.1 hx9.2.2)
  obtain ⟨rfl, h, hGσ9, hS⟩ := hq
  intro H locs ls hH hl hc
  refine W.eq (g2 := F0 m 21 ls []) (rfl) ?_
  try dsimp only at h
  exact hQ _ _ _ _ _ dX16_sign_21 hH hc h hGσ9 hS
set_option maxRecDepth 20000 in
theorem a_X16_sign_12 {Q : Sg → Unit → Prop} {X : Sg → String → Prop} (K : MC R p s m args c cX16_sign 2 RX16 D cA tys A n0 s0 5 113 []) (hQ : HQV p l e R s m args below meth c cX16_sign D cA A n0 s0 QM dm ra jx rm Q) (hX : HX p l e R s m args below meth c 2 D cA A n0 s0 QM dm ra jx rm X) : ∀ (σ : Sg), w_X16_sign_12 ra jx rm Q X σ → RG σ → Shp dm ra jx rm σ → JJ p l e R s m args below meth c 2 D cA A n0 s0 QM σ 12 [(0, .ref rm)] [] := by
  intro σ h hGσ hS H locs ls hH hl hc
  have B := K.1
  unfold w_X16_sign_12 at h
  refine lv_aload_n B.1 B.2.1 dX16_sign_12 rfl (lv_at hl 0 rfl) ?_
  refine c_V B hH hl hc K.2.2.1 (C := RX16) (T := TX16) (N := 123) (ci := 16) (As := []) (ok_X16_misplaced K.2.1 σ hGσ hS h) wc_X16_80 0 hd_X16_misplaced ⟨Nat.le_trans (Nat.le_of_ble_eq_true rfl) K.2.2.2.1, Nat.le_trans (Nat.le_of_ble_eq_true rfl) K.2.2.2.2.1⟩ hS.1.1 hS.1.2 (by decide) rfl rfl (rest := []) rfl (Nat.le_of_ble_eq_true rfl) dX16_sign_13 (fun σ10 w hq => ?_) (fun σ9 E9 hx9 => hX σ9 E9 _ _ _ (tb_out K.2.2.2.2.2 rfl) hx9.1 hx9.2.1 hx9.2.2)
  obtain ⟨r11, rfl, h, hGσ10, hS⟩ := hq
  intro H locs ls hH hl hc
  refine W.eq (g2 := F0 m 16 ls [va_rf r11]) (rfl) ?_
  try dsimp only at h
  obtain ⟨qt, h⟩ := h
  refine W.eq (g2 := F0 m 16 ls [.ref (ra 1)]) (by rw [qt]; rfl) ?_
  have hx9 := And.intro h (And.intro hGσ10 hS)
  refine h_athrow B hH hl hc (ci := 14) (hS.ob (k := 1) (ci := 14) (by decide)).1 (hS.ob (k := 1) (ci := 14) (by decide)).2 (by decide) rfl dX16_sign_16 ?_
  exact hX σ10 _ _ _ _ (tb_out K.2.2.2.2.2 rfl) hx9.1 hx9.2.1 hx9.2.2
set_option maxRecDepth 20000 in
theorem a_X16_sign_0 {Q : Sg → Unit → Prop} {X : Sg → String → Prop} (K : MC R p s m args c cX16_sign 2 RX16 D cA tys A n0 s0 5 113 []) (hQ : HQV p l e R s m args below meth c cX16_sign D cA A n0 s0 QM dm ra jx rm Q) (hX : HX p l e R s m args below meth c 2 D cA A n0 s0 QM dm ra jx rm X) : ∀ (σ : Sg) (v1 : Int) (g1 : rng v1), w_X16_sign_0 ra jx rm Q X σ v1 → RG σ → Shp dm ra jx rm σ → JJ p l e R s m args below meth c 2 D cA A n0 s0 QM σ 0 [(0, .ref rm), (1, .int (i32 v1))] [] := by
  intro σ v1 g1 h hGσ hS H locs ls hH hl hc
  have B := K.1
  unfold w_X16_sign_0 at h
  refine lv_aload_n B.1 B.2.1 dX16_sign_0 rfl (lv_at hl 0 rfl) ?_
  refine c_V B hH hl hc K.2.2.1 (C := RX16) (T := TX16) (N := 123) (ci := 16) (As := []) (ok_X16_see K.2.1 σ hGσ hS h) wc_X16_76 0 hd_X16_see ⟨Nat.le_trans (Nat.le_of_ble_eq_true rfl) K.2.2.2.1, Nat.le_trans (Nat.le_of_ble_eq_true rfl) K.2.2.2.2.1⟩ hS.1.1 hS.1.2 (by decide) rfl rfl (rest := []) rfl (Nat.le_of_ble_eq_true rfl) dX16_sign_1 (fun σ12 w hq => ?_) (fun σ9 E9 hx9 => hX σ9 E9 _ _ _ (tb_out K.2.2.2.2.2 rfl) hx9.1 hx9.2.1 hx9.2.2)
  obtain ⟨rfl, h, hGσ12, hS⟩ := hq
  intro H locs ls hH hl hc
  refine W.eq (g2 := F0 m 4 ls []) (rfl) ?_
  try dsimp only at h
  refine lv_aload_n B.1 B.2.1 dX16_sign_4 rfl (lv_at hl 0 rfl) ?_
  refine r_geti B hH hS 9 (by decide) wf_X16_38 rfl rfl dX16_sign_5 ?_
  refine lv_iload_n B.1 B.2.1 dX16_sign_8 rfl (lv_at hl 1 rfl) ?_
  refine lv_icmp_eq (tgt := 17) B.1 B.2.1 dX16_sign_9 (by decide) (fun h9 => ?_) (fun h9 => ?_)
  · rw [if_pos ((i32_eq (hGσ12 _ _) g1).mp h9)] at h
    exact a_X16_sign_17 K hQ hX _ h hGσ12 hS _ _ _ hH (lv_sub (l' := [(0, .ref rm)]) hl [0] rfl) hc
  · rw [if_neg (fun q => h9 ((i32_eq (hGσ12 _ _) g1).mpr q))] at h
    exact a_X16_sign_12 K hQ hX _ h hGσ12 hS _ _ _ hH (lv_sub (l' := [(0, .ref rm)]) hl [0] rfl) hc
theorem ok_X16_sign (hT : Tys cA tys) {Q : Sg → Unit → Prop} {X : Sg → String → Prop} (σ : Sg) (v1 : Int) (g1 : rng v1) (hG : RG σ) (hS : Shp dm ra jx rm σ) (h : wp_X16_sign ra jx rm v1 σ Q X) : Ok l D cA tys A yX16_sign (.code yX16_sign cX16_sign 2 none) 5 113 [.ref rm, .int (i32 v1)] σ (QnV dm ra jx rm Q) (QxR dm ra jx rm X) := by
  unfold wp_X16_sign at h
  exact ok_V (plainFor_of_name (by decide)) (by exact Nat.le_of_ble_eq_true rfl) hT (fun p e R s m args below meth c K hQ hX H locs ls hH hl hc => a_X16_sign_0 K hQ hX σ v1 g1 h hG hS H locs ls hH (lv_sub (l' := [(0, .ref rm), (1, .int (i32 v1))]) hl [0, 1] rfl) hc)
def HRC (l : Launch) (D : va_G) (cA : Nat → ClassId) (tys : List (ClassId × FieldType)) (A : Nat → Prop) (dm : List Nat × Nat × Nat) (ra : Nat → Nat) (jx : Nat → Nat → Nat) (rm : Nat) (fr0 lw0 : Nat) (rc : Nat → Int → Sg → (Sg → Unit → Prop) → (Sg → String → Prop) → Prop) : Prop := (∀ (σ : Sg) (v1 : Int), rng v1 → RG σ → Shp dm ra jx rm σ → ∀ {Q : Sg → Unit → Prop} {X : Sg → String → Prop}, rc 0 v1 σ Q X → Ok l D cA tys A yX16_choice (.code yX16_choice cX16_choice 4 none) fr0 lw0 [.ref rm, .int (i32 v1)] σ (QnV dm ra jx rm Q) (QxR dm ra jx rm X)) ∧ (∀ (σ : Sg) (v1 : Int), rng v1 → RG σ → Shp dm ra jx rm σ → ∀ {Q : Sg → Unit → Prop} {X : Sg → String → Prop}, rc 1 v1 σ Q X → Ok l D cA tys A yX16_either (.code yX16_either cX16_either 4 none) fr0 lw0 [.ref rm, .int (i32 v1)] σ (QnV dm ra jx rm Q) (QxR dm ra jx rm X)) ∧ (∀ (σ : Sg) (v1 : Int), rng v1 → RG σ → Shp dm ra jx rm σ → ∀ {Q : Sg → Unit → Prop} {X : Sg → String → Prop}, rc 2 v1 σ Q X → Ok l D cA tys A yX16_both (.code yX16_both cX16_both 4 none) fr0 lw0 [.ref rm, .int (i32 v1)] σ (QnV dm ra jx rm Q) (QxR dm ra jx rm X)) ∧ (∀ (σ : Sg) (v1 : Int), rng v1 → RG σ → Shp dm ra jx rm σ → ∀ {Q : Sg → Unit → Prop} {X : Sg → String → Prop}, rc 3 v1 σ Q X → Ok l D cA tys A yX16_compared (.code yX16_compared cX16_compared 3 none) fr0 lw0 [.ref rm, .int (i32 v1)] σ (QnV dm ra jx rm Q) (QxR dm ra jx rm X)) ∧ (∀ (σ : Sg) (v1 : Int), rng v1 → RG σ → Shp dm ra jx rm σ → ∀ {Q : Sg → Unit → Prop} {X : Sg → String → Prop}, rc 4 v1 σ Q X → Ok l D cA tys A yX16_sum (.code yX16_sum cX16_sum 3 none) fr0 lw0 [.ref rm, .int (i32 v1)] σ (QnV dm ra jx rm Q) (QxR dm ra jx rm X)) ∧ (∀ (σ : Sg) (v1 : Int), rng v1 → RG σ → Shp dm ra jx rm σ → ∀ {Q : Sg → Unit → Prop} {X : Sg → String → Prop}, rc 5 v1 σ Q X → Ok l D cA tys A yX16_product (.code yX16_product cX16_product 3 none) fr0 lw0 [.ref rm, .int (i32 v1)] σ (QnV dm ra jx rm Q) (QxR dm ra jx rm X)) ∧ (∀ (σ : Sg) (v1 : Int), rng v1 → RG σ → Shp dm ra jx rm σ → ∀ {Q : Sg → Unit → Prop} {X : Sg → String → Prop}, rc 6 v1 σ Q X → Ok l D cA tys A yX16_single (.code yX16_single cX16_single 3 none) fr0 lw0 [.ref rm, .int (i32 v1)] σ (QnV dm ra jx rm Q) (QxR dm ra jx rm X))
theorem dX16_choice_0 : decode cX16_choice 0 = .ok (.aload_n 0, 1) := by decide +kernel
theorem dX16_choice_1 : decode cX16_choice 1 = .ok (.iload_n 1, 1) := by decide +kernel
theorem dX16_choice_2 : decode cX16_choice 2 = .ok (.invokevirtual 135, 3) := by decide +kernel
theorem dX16_choice_5 : decode cX16_choice 5 = .ok (.aload_n 0, 1) := by decide +kernel
theorem dX16_choice_6 : decode cX16_choice 6 = .ok (.invokevirtual 76, 3) := by decide +kernel
theorem dX16_choice_9 : decode cX16_choice 9 = .ok (.aload_n 0, 1) := by decide +kernel
theorem dX16_choice_10 : decode cX16_choice 10 = .ok (.getfield 38, 3) := by decide +kernel
theorem dX16_choice_13 : decode cX16_choice 13 = .ok (.bipush 63, 2) := by decide +kernel
theorem dX16_choice_15 : decode cX16_choice 15 = .ok (.if_icmp .eq 4, 3) := by decide +kernel
theorem dX16_choice_18 : decode cX16_choice 18 = .ok (.return_, 1) := by decide +kernel
theorem dX16_choice_19 : decode cX16_choice 19 = .ok (.aload_n 0, 1) := by decide +kernel
theorem dX16_choice_20 : decode cX16_choice 20 = .ok (.invokevirtual 138, 3) := by decide +kernel
theorem dX16_choice_23 : decode cX16_choice 23 = .ok (.aload_n 0, 1) := by decide +kernel
theorem dX16_choice_24 : decode cX16_choice 24 = .ok (.getfield 118, 3) := by decide +kernel
theorem dX16_choice_27 : decode cX16_choice 27 = .ok (.bipush 13, 2) := by decide +kernel
theorem dX16_choice_29 : decode cX16_choice 29 = .ok (.lconst 0, 1) := by decide +kernel
theorem dX16_choice_30 : decode cX16_choice 30 = .ok (.invokevirtual 131, 3) := by decide +kernel
theorem dX16_choice_33 : decode cX16_choice 33 = .ok (.istore_n 2, 1) := by decide +kernel
theorem dX16_choice_34 : decode cX16_choice 34 = .ok (.aload_n 0, 1) := by decide +kernel
theorem dX16_choice_35 : decode cX16_choice 35 = .ok (.iload_n 1, 1) := by decide +kernel
theorem dX16_choice_36 : decode cX16_choice 36 = .ok (.invokevirtual 127, 3) := by decide +kernel
theorem dX16_choice_39 : decode cX16_choice 39 = .ok (.aload_n 0, 1) := by decide +kernel
theorem dX16_choice_40 : decode cX16_choice 40 = .ok (.dup, 1) := by decide +kernel
theorem dX16_choice_41 : decode cX16_choice 41 = .ok (.getfield 115, 3) := by decide +kernel
theorem dX16_choice_44 : decode cX16_choice 44 = .ok (.iconst 1, 1) := by decide +kernel
theorem dX16_choice_45 : decode cX16_choice 45 = .ok (.isub, 1) := by decide +kernel
theorem dX16_choice_46 : decode cX16_choice 46 = .ok (.putfield 115, 3) := by decide +kernel
theorem dX16_choice_49 : decode cX16_choice 49 = .ok (.aload_n 0, 1) := by decide +kernel
theorem dX16_choice_50 : decode cX16_choice 50 = .ok (.invokevirtual 76, 3) := by decide +kernel
theorem dX16_choice_53 : decode cX16_choice 53 = .ok (.aload_n 0, 1) := by decide +kernel
theorem dX16_choice_54 : decode cX16_choice 54 = .ok (.getfield 38, 3) := by decide +kernel
theorem dX16_choice_57 : decode cX16_choice 57 = .ok (.bipush 58, 2) := by decide +kernel
theorem dX16_choice_59 : decode cX16_choice 59 = .ok (.if_icmp .eq 8, 3) := by decide +kernel
theorem dX16_choice_62 : decode cX16_choice 62 = .ok (.aload_n 0, 1) := by decide +kernel
theorem dX16_choice_63 : decode cX16_choice 63 = .ok (.invokevirtual 80, 3) := by decide +kernel
theorem dX16_choice_66 : decode cX16_choice 66 = .ok (.athrow, 1) := by decide +kernel
theorem dX16_choice_67 : decode cX16_choice 67 = .ok (.aload_n 0, 1) := by decide +kernel
theorem dX16_choice_68 : decode cX16_choice 68 = .ok (.invokevirtual 138, 3) := by decide +kernel
theorem dX16_choice_71 : decode cX16_choice 71 = .ok (.aload_n 0, 1) := by decide +kernel
theorem dX16_choice_72 : decode cX16_choice 72 = .ok (.getfield 118, 3) := by decide +kernel
theorem dX16_choice_75 : decode cX16_choice 75 = .ok (.bipush 15, 2) := by decide +kernel
theorem dX16_choice_77 : decode cX16_choice 77 = .ok (.lconst 0, 1) := by decide +kernel
theorem dX16_choice_78 : decode cX16_choice 78 = .ok (.invokevirtual 131, 3) := by decide +kernel
theorem dX16_choice_81 : decode cX16_choice 81 = .ok (.istore_n 3, 1) := by decide +kernel
theorem dX16_choice_82 : decode cX16_choice 82 = .ok (.aload_n 0, 1) := by decide +kernel
theorem dX16_choice_83 : decode cX16_choice 83 = .ok (.getfield 118, 3) := by decide +kernel
theorem dX16_choice_86 : decode cX16_choice 86 = .ok (.getfield 141, 3) := by decide +kernel
theorem dX16_choice_89 : decode cX16_choice 89 = .ok (.iload_n 2, 1) := by decide +kernel
theorem dX16_choice_90 : decode cX16_choice 90 = .ok (.aload_n 0, 1) := by decide +kernel
theorem dX16_choice_91 : decode cX16_choice 91 = .ok (.getfield 118, 3) := by decide +kernel
theorem dX16_choice_94 : decode cX16_choice 94 = .ok (.getfield 122, 3) := by decide +kernel
theorem dX16_choice_97 : decode cX16_choice 97 = .ok (.i2l, 1) := by decide +kernel
theorem dX16_choice_98 : decode cX16_choice 98 = .ok (.lastore, 1) := by decide +kernel
theorem dX16_choice_99 : decode cX16_choice 99 = .ok (.aload_n 0, 1) := by decide +kernel
theorem dX16_choice_100 : decode cX16_choice 100 = .ok (.iload_n 1, 1) := by decide +kernel
theorem dX16_choice_101 : decode cX16_choice 101 = .ok (.invokevirtual 127, 3) := by decide +kernel
theorem dX16_choice_104 : decode cX16_choice 104 = .ok (.aload_n 0, 1) := by decide +kernel
theorem dX16_choice_105 : decode cX16_choice 105 = .ok (.getfield 118, 3) := by decide +kernel
theorem dX16_choice_108 : decode cX16_choice 108 = .ok (.getfield 141, 3) := by decide +kernel
theorem dX16_choice_111 : decode cX16_choice 111 = .ok (.iload_n 3, 1) := by decide +kernel
theorem dX16_choice_112 : decode cX16_choice 112 = .ok (.aload_n 0, 1) := by decide +kernel
theorem dX16_choice_113 : decode cX16_choice 113 = .ok (.getfield 118, 3) := by decide +kernel
theorem dX16_choice_116 : decode cX16_choice 116 = .ok (.getfield 122, 3) := by decide +kernel
theorem dX16_choice_119 : decode cX16_choice 119 = .ok (.i2l, 1) := by decide +kernel
theorem dX16_choice_120 : decode cX16_choice 120 = .ok (.lastore, 1) := by decide +kernel
theorem dX16_choice_121 : decode cX16_choice 121 = .ok (.aload_n 0, 1) := by decide +kernel
theorem dX16_choice_122 : decode cX16_choice 122 = .ok (.dup, 1) := by decide +kernel
theorem dX16_choice_123 : decode cX16_choice 123 = .ok (.getfield 115, 3) := by decide +kernel
theorem dX16_choice_126 : decode cX16_choice 126 = .ok (.iconst 1, 1) := by decide +kernel
theorem dX16_choice_127 : decode cX16_choice 127 = .ok (.isub, 1) := by decide +kernel
theorem dX16_choice_128 : decode cX16_choice 128 = .ok (.putfield 115, 3) := by decide +kernel
theorem dX16_choice_131 : decode cX16_choice 131 = .ok (.return_, 1) := by decide +kernel
set_option maxRecDepth 20000 in
theorem a_X16_choice_67 {Q : Sg → Unit → Prop} {X : Sg → String → Prop} {fr0 lw0 : Nat} {rc : Nat → Int → Sg → (Sg → Unit → Prop) → (Sg → String → Prop) → Prop} (K : MC R p s m args c cX16_choice 4 RX16 D cA tys A n0 s0 (fr0 + 1) (lw0 + 60) []) (hRC : HRC l D cA tys A dm ra jx rm fr0 lw0 rc) (hf0 : 40 ≤ fr0) (hl0 : 4000 ≤ lw0) (hQ : HQV p l e R s m args below meth c cX16_choice D cA A n0 s0 QM dm ra jx rm Q) (hX : HX p l e R s m args below meth c 4 D cA A n0 s0 QM dm ra jx rm X) : ∀ (σ : Sg) (v1 : Int) (v2 : Int) (g1 : rng v1) (g2 : rng v2), w_X16_choice_67 ra jx rm rc Q X σ v1 v2 → RG σ → Shp dm ra jx rm σ → JJ p l e R s m args below meth c 4 D cA A n0 s0 QM σ 67 [(0, .ref rm), (1, .int (i32 v1)), (2, .int (i32 v2))] [] := by
  intro σ v1 v2 g1 g2 h hGσ hS H locs ls hH hl hc
  have B := K.1
  unfold w_X16_choice_67 at h
  refine lv_aload_n B.1 B.2.1 dX16_choice_67 rfl (lv_at hl 0 rfl) ?_
  refine c_V B hH hl hc K.2.2.1 (C := RX16) (T := TX16) (N := 123) (ci := 16) (As := []) (ok_X16_opens K.2.1 σ hGσ hS h) wc_X16_138 0 hd_X16_opens ⟨by have := K.2.2.2.1; omega, by have := K.2.2.2.2.1; omega⟩ hS.1.1 hS.1.2 (by decide) rfl rfl (rest := []) rfl (Nat.le_of_ble_eq_true rfl) dX16_choice_68 (fun σ47 w hq => ?_) (fun σ9 E9 hx9 => hX σ9 E9 _ _ _ (tb_out K.2.2.2.2.2 rfl) hx9.1 hx9.2.1 hx9.2.2)
  obtain ⟨rfl, h, hGσ47, hS⟩ := hq
  intro H locs ls hH hl hc
  refine W.eq (g2 := F0 m 71 ls []) (rfl) ?_
  try dsimp only at h
  refine lv_aload_n B.1 B.2.1 dX16_choice_71 rfl (lv_at hl 0 rfl) ?_
  refine r_getp B hH hS 18 (by decide) wf_X16_118 rfl rfl dX16_choice_72 ?_
  refine lv_bipush (v := i32 15) B.1 B.2.1 dX16_choice_75 (by decide) ?_
  refine lv_lconst (v := 0) B.1 B.2.1 dX16_choice_77 (by decide) ?_
  obtain ⟨a48, ea48, ja48, h⟩ := h
  refine W.eq (g2 := F0 m 78 ls [.long 0, .int (i32 15), .ref a48]) (by rw [ea48]; rfl) ?_
  refine c_V B hH hl hc K.2.2.1 (C := RX15) (T := TX15) (N := 20) (ci := 15) (As := [.int (i32 15), .long 0]) (ok_X15_step ja48 K.2.1 σ47 15 0 (by unfold rng; omega) hGσ47 hS h) wc_X16_131 2 hd_X15_step ⟨by have := K.2.2.2.1; omega, by have := K.2.2.2.2.1; omega⟩ (hS.jb ja48).1 (hS.jb ja48).2 (by decide) rfl rfl (rest := []) rfl (Nat.le_of_ble_eq_true rfl) dX16_choice_78 (fun σ49 w hq => ?_) (fun σ9 E9 hx9 => hX σ9 E9 _ _ _ (tb_out K.2.2.2.2.2 rfl) hx9.1 hx9.2.1 hx9.2.2)
  obtain ⟨r50, rfl, gr50, h, hGσ49, hS⟩ := hq
  intro H locs ls hH hl hc
  refine W.eq (g2 := F0 m 81 ls [.int (i32 r50)]) (rfl) ?_
  try dsimp only at h
  refine lv_istore_n (lv' := [(3, .int (i32 r50)), (0, .ref rm), (1, .int (i32 v1)), (2, .int (i32 v2))]) B.1 B.2.1 dX16_choice_81 rfl hl (by decide) rfl (fun ls hl => ?_)
  refine lv_aload_n B.1 B.2.1 dX16_choice_82 rfl (lv_at hl 1 rfl) ?_
  refine r_getp B hH hS 18 (by decide) wf_X16_118 rfl rfl dX16_choice_83 ?_
  obtain ⟨a51, ea51, ja51, h⟩ := h
  refine W.eq (g2 := F0 m 86 ls [.ref a51]) (by rw [ea51]; rfl) ?_
  refine n_arr B hH hS ja51 16 (kd := 101) (n := 6000) (by decide) (by decide) (List.mem_of_getElem? (i := 16) rfl) rfl dX16_choice_86 ?_
  refine lv_iload_n B.1 B.2.1 dX16_choice_89 rfl (lv_at hl 3 rfl) ?_
  refine lv_aload_n B.1 B.2.1 dX16_choice_90 rfl (lv_at hl 1 rfl) ?_
  refine r_getp B hH hS 18 (by decide) wf_X16_118 rfl rfl dX16_choice_91 ?_
  obtain ⟨a52, ea52, ja52, h⟩ := h
  refine W.eq (g2 := F0 m 94 ls [.ref a52, .int (i32 v2), .ref (jx a51 16)]) (by rw [ea52]; rfl) ?_
  refine n_geti B hH hS ja52 17 (by decide) (List.mem_of_getElem? (i := 17) rfl) rfl dX16_choice_94 ?_
  refine lv_i2l B.1 B.2.1 dX16_choice_97 (i32_i64 (hGσ49 _ _)) ?_
  obtain ⟨q4, h⟩ := h
  obtain ⟨σ53, eσ53⟩ : ∃ z, z = pJ σ49 (jx a51 16) v2.toNat (Int64.ofInt (gI σ49 a52 17)) := ⟨_, rfl⟩
  have h := h σ53 eσ53
  refine x_last B K.2.1 hH (hS.ja ja51 (k := 16) (kd := 101) (n := 6000) (by decide)) (by decide) q4 dX16_choice_98 (fun H locs hH => ?_)
  have hH : Hd D cA A s (pJ σ49 (jx a51 16) v2.toNat (Int64.ofInt (gI σ49 a52 17))) H locs := hH
  rw [← eσ53] at hH
  have hGσ53 : RG σ53 := by rw [eσ53]; exact hGσ49.pJ
  have hS : Shp dm ra jx rm σ53 := by rw [eσ53]; exact hS
  have hc : CB n0 s0 σ53 := by rw [eσ53]; exact hc
  rw [show gc σ49 = gc σ53 by rw [eσ53], show gs σ49 = gs σ53 by rw [eσ53]]
  refine lv_aload_n B.1 B.2.1 dX16_choice_99 rfl (lv_at hl 1 rfl) ?_
  refine lv_iload_n B.1 B.2.1 dX16_choice_100 rfl (lv_at hl 2 rfl) ?_
  refine c_V B hH hl hc K.2.2.1 (C := RX16) (T := TX16) (N := 123) (ci := 16) (As := [.int (i32 v1)]) (hRC.1 σ53 v1 g1 hGσ53 hS h) wc_X16_127 1 hd_X16_choice ⟨by have := K.2.2.2.1; omega, by have := K.2.2.2.2.1; omega⟩ hS.1.1 hS.1.2 (by decide) rfl rfl (rest := []) rfl (Nat.le_of_ble_eq_true rfl) dX16_choice_101 (fun σ54 w hq => ?_) (fun σ9 E9 hx9 => hX σ9 E9 _ _ _ (tb_out K.2.2.2.2.2 rfl) hx9.1 hx9.2.1 hx9.2.2)
  obtain ⟨rfl, h, hGσ54, hS⟩ := hq
  intro H locs ls hH hl hc
  refine W.eq (g2 := F0 m 104 ls []) (rfl) ?_
  try dsimp only at h
  refine lv_aload_n B.1 B.2.1 dX16_choice_104 rfl (lv_at hl 1 rfl) ?_
  refine r_getp B hH hS 18 (by decide) wf_X16_118 rfl rfl dX16_choice_105 ?_
  obtain ⟨a55, ea55, ja55, h⟩ := h
  refine W.eq (g2 := F0 m 108 ls [.ref a55]) (by rw [ea55]; rfl) ?_
  refine n_arr B hH hS ja55 16 (kd := 101) (n := 6000) (by decide) (by decide) (List.mem_of_getElem? (i := 16) rfl) rfl dX16_choice_108 ?_
  refine lv_iload_n B.1 B.2.1 dX16_choice_111 rfl (lv_at hl 0 rfl) ?_
  refine lv_aload_n B.1 B.2.1 dX16_choice_112 rfl (lv_at hl 1 rfl) ?_
  refine r_getp B hH hS 18 (by decide) wf_X16_118 rfl rfl dX16_choice_113 ?_
  obtain ⟨a56, ea56, ja56, h⟩ := h
  refine W.eq (g2 := F0 m 116 ls [.ref a56, .int (i32 r50), .ref (jx a55 16)]) (by rw [ea56]; rfl) ?_
  refine n_geti B hH hS ja56 17 (by decide) (List.mem_of_getElem? (i := 17) rfl) rfl dX16_choice_116 ?_
  refine lv_i2l B.1 B.2.1 dX16_choice_119 (i32_i64 (hGσ54 _ _)) ?_
  obtain ⟨q8, h⟩ := h
  obtain ⟨σ57, eσ57⟩ : ∃ z, z = pJ σ54 (jx a55 16) r50.toNat (Int64.ofInt (gI σ54 a56 17)) := ⟨_, rfl⟩
  have h := h σ57 eσ57
  refine x_last B K.2.1 hH (hS.ja ja55 (k := 16) (kd := 101) (n := 6000) (by decide)) (by decide) q8 dX16_choice_120 (fun H locs hH => ?_)
  have hH : Hd D cA A s (pJ σ54 (jx a55 16) r50.toNat (Int64.ofInt (gI σ54 a56 17))) H locs := hH
  rw [← eσ57] at hH
  have hGσ57 : RG σ57 := by rw [eσ57]; exact hGσ54.pJ
  have hS : Shp dm ra jx rm σ57 := by rw [eσ57]; exact hS
  have hc : CB n0 s0 σ57 := by rw [eσ57]; exact hc
  rw [show gc σ54 = gc σ57 by rw [eσ57], show gs σ54 = gs σ57 by rw [eσ57]]
  refine lv_aload_n B.1 B.2.1 dX16_choice_121 rfl (lv_at hl 1 rfl) ?_
  refine lv_dup B.1 B.2.1 dX16_choice_122 rfl ?_
  refine r_geti B hH hS 19 (by decide) wf_X16_115 rfl rfl dX16_choice_123 ?_
  refine lv_iconst (v := i32 1) B.1 B.2.1 dX16_choice_126 (by decide) ?_
  obtain ⟨q10, h⟩ := h
  refine lv_isub B.1 B.2.1 dX16_choice_127 ?_
  rw [i32_sub]
  obtain ⟨σ58, eσ58⟩ : ∃ z, z = pI σ57 rm 19 (gI σ57 rm 19 - 1) := ⟨_, rfl⟩
  have h := h σ58 eσ58
  refine r_puti B hH hS 19 (ty := .int) (by decide) wf_X16_115 rfl rfl rfl rfl rfl rfl dX16_choice_128 (fun H locs hH => ?_)
  have hH : Hd D cA A s (pI σ57 rm 19 (gI σ57 rm 19 - 1)) H locs := hH
  rw [← eσ58] at hH
  have hGσ58 : RG σ58 := by rw [eσ58]; exact hGσ57.pI q10
  have hS : Shp dm ra jx rm σ58 := by rw [eσ58]; exact hS
  have hc : CB n0 s0 σ58 := by rw [eσ58]; exact hc
  rw [show gc σ57 = gc σ58 by rw [eσ58], show gs σ57 = gs σ58 by rw [eσ58]]
  exact hQ _ _ _ _ _ dX16_choice_131 hH hc h hGσ58 hS
set_option maxRecDepth 20000 in
theorem a_X16_choice_62 {Q : Sg → Unit → Prop} {X : Sg → String → Prop} {fr0 lw0 : Nat} {rc : Nat → Int → Sg → (Sg → Unit → Prop) → (Sg → String → Prop) → Prop} (K : MC R p s m args c cX16_choice 4 RX16 D cA tys A n0 s0 (fr0 + 1) (lw0 + 60) []) (hRC : HRC l D cA tys A dm ra jx rm fr0 lw0 rc) (hf0 : 40 ≤ fr0) (hl0 : 4000 ≤ lw0) (hQ : HQV p l e R s m args below meth c cX16_choice D cA A n0 s0 QM dm ra jx rm Q) (hX : HX p l e R s m args below meth c 4 D cA A n0 s0 QM dm ra jx rm X) : ∀ (σ : Sg), w_X16_choice_62 ra jx rm rc Q X σ → RG σ → Shp dm ra jx rm σ → JJ p l e R s m args below meth c 4 D cA A n0 s0 QM σ 62 [(0, .ref rm)] [] := by
  intro σ h hGσ hS H locs ls hH hl hc
  have B := K.1
  unfold w_X16_choice_62 at h
  refine lv_aload_n B.1 B.2.1 dX16_choice_62 rfl (lv_at hl 0 rfl) ?_
  refine c_V B hH hl hc K.2.2.1 (C := RX16) (T := TX16) (N := 123) (ci := 16) (As := []) (ok_X16_misplaced K.2.1 σ hGσ hS h) wc_X16_80 0 hd_X16_misplaced ⟨by have := K.2.2.2.1; omega, by have := K.2.2.2.2.1; omega⟩ hS.1.1 hS.1.2 (by decide) rfl rfl (rest := []) rfl (Nat.le_of_ble_eq_true rfl) dX16_choice_63 (fun σ59 w hq => ?_) (fun σ9 E9 hx9 => hX σ9 E9 _ _ _ (tb_out K.2.2.2.2.2 rfl) hx9.1 hx9.2.1 hx9.2.2)
  obtain ⟨r60, rfl, h, hGσ59, hS⟩ := hq
  intro H locs ls hH hl hc
  refine W.eq (g2 := F0 m 66 ls [va_rf r60]) (rfl) ?_
  try dsimp only at h
  obtain ⟨qt, h⟩ := h
  refine W.eq (g2 := F0 m 66 ls [.ref (ra 1)]) (by rw [qt]; rfl) ?_
  have hx9 := And.intro h (And.intro hGσ59 hS)
  refine h_athrow B hH hl hc (ci := 14) (hS.ob (k := 1) (ci := 14) (by decide)).1 (hS.ob (k := 1) (ci := 14) (by decide)).2 (by decide) rfl dX16_choice_66 ?_
  exact hX σ59 _ _ _ _ (tb_out K.2.2.2.2.2 rfl) hx9.1 hx9.2.1 hx9.2.2
set_option maxRecDepth 20000 in
theorem a_X16_choice_19 {Q : Sg → Unit → Prop} {X : Sg → String → Prop} {fr0 lw0 : Nat} {rc : Nat → Int → Sg → (Sg → Unit → Prop) → (Sg → String → Prop) → Prop} (K : MC R p s m args c cX16_choice 4 RX16 D cA tys A n0 s0 (fr0 + 1) (lw0 + 60) []) (hRC : HRC l D cA tys A dm ra jx rm fr0 lw0 rc) (hf0 : 40 ≤ fr0) (hl0 : 4000 ≤ lw0) (hQ : HQV p l e R s m args below meth c cX16_choice D cA A n0 s0 QM dm ra jx rm Q) (hX : HX p l e R s m args below meth c 4 D cA A n0 s0 QM dm ra jx rm X) : ∀ (σ : Sg) (v1 : Int) (g1 : rng v1), w_X16_choice_19 ra jx rm rc Q X σ v1 → RG σ → Shp dm ra jx rm σ → JJ p l e R s m args below meth c 4 D cA A n0 s0 QM σ 19 [(0, .ref rm), (1, .int (i32 v1))] [] := by
  intro σ v1 g1 h hGσ hS H locs ls hH hl hc
  have B := K.1
  unfold w_X16_choice_19 at h
  refine lv_aload_n B.1 B.2.1 dX16_choice_19 rfl (lv_at hl 0 rfl) ?_
  refine c_V B hH hl hc K.2.2.1 (C := RX16) (T := TX16) (N := 123) (ci := 16) (As := []) (ok_X16_opens K.2.1 σ hGσ hS h) wc_X16_138 0 hd_X16_opens ⟨by have := K.2.2.2.1; omega, by have := K.2.2.2.2.1; omega⟩ hS.1.1 hS.1.2 (by decide) rfl rfl (rest := []) rfl (Nat.le_of_ble_eq_true rfl) dX16_choice_20 (fun σ61 w hq => ?_) (fun σ9 E9 hx9 => hX σ9 E9 _ _ _ (tb_out K.2.2.2.2.2 rfl) hx9.1 hx9.2.1 hx9.2.2)
  obtain ⟨rfl, h, hGσ61, hS⟩ := hq
  intro H locs ls hH hl hc
  refine W.eq (g2 := F0 m 23 ls []) (rfl) ?_
  try dsimp only at h
  refine lv_aload_n B.1 B.2.1 dX16_choice_23 rfl (lv_at hl 0 rfl) ?_
  refine r_getp B hH hS 18 (by decide) wf_X16_118 rfl rfl dX16_choice_24 ?_
  refine lv_bipush (v := i32 13) B.1 B.2.1 dX16_choice_27 (by decide) ?_
  refine lv_lconst (v := 0) B.1 B.2.1 dX16_choice_29 (by decide) ?_
  obtain ⟨a62, ea62, ja62, h⟩ := h
  refine W.eq (g2 := F0 m 30 ls [.long 0, .int (i32 13), .ref a62]) (by rw [ea62]; rfl) ?_
  refine c_V B hH hl hc K.2.2.1 (C := RX15) (T := TX15) (N := 20) (ci := 15) (As := [.int (i32 13), .long 0]) (ok_X15_step ja62 K.2.1 σ61 13 0 (by unfold rng; omega) hGσ61 hS h) wc_X16_131 2 hd_X15_step ⟨by have := K.2.2.2.1; omega, by have := K.2.2.2.2.1; omega⟩ (hS.jb ja62).1 (hS.jb ja62).2 (by decide) rfl rfl (rest := []) rfl (Nat.le_of_ble_eq_true rfl) dX16_choice_30 (fun σ63 w hq => ?_) (fun σ9 E9 hx9 => hX σ9 E9 _ _ _ (tb_out K.2.2.2.2.2 rfl) hx9.1 hx9.2.1 hx9.2.2)
  obtain ⟨r64, rfl, gr64, h, hGσ63, hS⟩ := hq
  intro H locs ls hH hl hc
  refine W.eq (g2 := F0 m 33 ls [.int (i32 r64)]) (rfl) ?_
  try dsimp only at h
  refine lv_istore_n (lv' := [(2, .int (i32 r64)), (0, .ref rm), (1, .int (i32 v1))]) B.1 B.2.1 dX16_choice_33 rfl hl (by decide) rfl (fun ls hl => ?_)
  refine lv_aload_n B.1 B.2.1 dX16_choice_34 rfl (lv_at hl 1 rfl) ?_
  refine lv_iload_n B.1 B.2.1 dX16_choice_35 rfl (lv_at hl 2 rfl) ?_
  refine c_V B hH hl hc K.2.2.1 (C := RX16) (T := TX16) (N := 123) (ci := 16) (As := [.int (i32 v1)]) (hRC.1 σ63 v1 g1 hGσ63 hS h) wc_X16_127 1 hd_X16_choice ⟨by have := K.2.2.2.1; omega, by have := K.2.2.2.2.1; omega⟩ hS.1.1 hS.1.2 (by decide) rfl rfl (rest := []) rfl (Nat.le_of_ble_eq_true rfl) dX16_choice_36 (fun σ65 w hq => ?_) (fun σ9 E9 hx9 => hX σ9 E9 _ _ _ (tb_out K.2.2.2.2.2 rfl) hx9.1 hx9.2.1 hx9.2.2)
  obtain ⟨rfl, h, hGσ65, hS⟩ := hq
  intro H locs ls hH hl hc
  refine W.eq (g2 := F0 m 39 ls []) (rfl) ?_
  try dsimp only at h
  refine lv_aload_n B.1 B.2.1 dX16_choice_39 rfl (lv_at hl 1 rfl) ?_
  refine lv_dup B.1 B.2.1 dX16_choice_40 rfl ?_
  refine r_geti B hH hS 19 (by decide) wf_X16_115 rfl rfl dX16_choice_41 ?_
  refine lv_iconst (v := i32 1) B.1 B.2.1 dX16_choice_44 (by decide) ?_
  obtain ⟨q2, h⟩ := h
  refine lv_isub B.1 B.2.1 dX16_choice_45 ?_
  rw [i32_sub]
  obtain ⟨σ66, eσ66⟩ : ∃ z, z = pI σ65 rm 19 (gI σ65 rm 19 - 1) := ⟨_, rfl⟩
  have h := h σ66 eσ66
  refine r_puti B hH hS 19 (ty := .int) (by decide) wf_X16_115 rfl rfl rfl rfl rfl rfl dX16_choice_46 (fun H locs hH => ?_)
  have hH : Hd D cA A s (pI σ65 rm 19 (gI σ65 rm 19 - 1)) H locs := hH
  rw [← eσ66] at hH
  have hGσ66 : RG σ66 := by rw [eσ66]; exact hGσ65.pI q2
  have hS : Shp dm ra jx rm σ66 := by rw [eσ66]; exact hS
  have hc : CB n0 s0 σ66 := by rw [eσ66]; exact hc
  rw [show gc σ65 = gc σ66 by rw [eσ66], show gs σ65 = gs σ66 by rw [eσ66]]
  refine lv_aload_n B.1 B.2.1 dX16_choice_49 rfl (lv_at hl 1 rfl) ?_
  refine c_V B hH hl hc K.2.2.1 (C := RX16) (T := TX16) (N := 123) (ci := 16) (As := []) (ok_X16_see K.2.1 σ66 hGσ66 hS h) wc_X16_76 0 hd_X16_see ⟨by have := K.2.2.2.1; omega, by have := K.2.2.2.2.1; omega⟩ hS.1.1 hS.1.2 (by decide) rfl rfl (rest := []) rfl (Nat.le_of_ble_eq_true rfl) dX16_choice_50 (fun σ67 w hq => ?_) (fun σ9 E9 hx9 => hX σ9 E9 _ _ _ (tb_out K.2.2.2.2.2 rfl) hx9.1 hx9.2.1 hx9.2.2)
  obtain ⟨rfl, h, hGσ67, hS⟩ := hq
  intro H locs ls hH hl hc
  refine W.eq (g2 := F0 m 53 ls []) (rfl) ?_
  try dsimp only at h
  refine lv_aload_n B.1 B.2.1 dX16_choice_53 rfl (lv_at hl 1 rfl) ?_
  refine r_geti B hH hS 9 (by decide) wf_X16_38 rfl rfl dX16_choice_54 ?_
  refine lv_bipush (v := i32 58) B.1 B.2.1 dX16_choice_57 (by decide) ?_
  refine lv_icmp_eq (tgt := 67) B.1 B.2.1 dX16_choice_59 (by decide) (fun h9 => ?_) (fun h9 => ?_)
  · rw [if_pos ((i32_eq (hGσ67 _ _) (by unfold rng; omega)).mp h9)] at h
    exact a_X16_choice_67 K hRC hf0 hl0 hQ hX _ _ _ g1 gr64 h hGσ67 hS _ _ _ hH (lv_sub (l' := [(0, .ref rm), (1, .int (i32 v1)), (2, .int (i32 r64))]) hl [1, 2, 0] rfl) hc
  · rw [if_neg (fun q => h9 ((i32_eq (hGσ67 _ _) (by unfold rng; omega)).mpr q))] at h
    exact a_X16_choice_62 K hRC hf0 hl0 hQ hX _ h hGσ67 hS _ _ _ hH (lv_sub (l' := [(0, .ref rm)]) hl [1] rfl) hc
set_option maxRecDepth 20000 in
theorem a_X16_choice_18 {Q : Sg → Unit → Prop} {X : Sg → String → Prop} {fr0 lw0 : Nat} {rc : Nat → Int → Sg → (Sg → Unit → Prop) → (Sg → String → Prop) → Prop} (K : MC R p s m args c cX16_choice 4 RX16 D cA tys A n0 s0 (fr0 + 1) (lw0 + 60) []) (hRC : HRC l D cA tys A dm ra jx rm fr0 lw0 rc) (hf0 : 40 ≤ fr0) (hl0 : 4000 ≤ lw0) (hQ : HQV p l e R s m args below meth c cX16_choice D cA A n0 s0 QM dm ra jx rm Q) (hX : HX p l e R s m args below meth c 4 D cA A n0 s0 QM dm ra jx rm X) : ∀ (σ : Sg), w_X16_choice_18 ra jx rm rc Q X σ → RG σ → Shp dm ra jx rm σ → JJ p l e R s m args below meth c 4 D cA A n0 s0 QM σ 18 [(0, .ref rm)] [] := by
  intro σ h hGσ hS H locs ls hH hl hc
  have B := K.1
  unfold w_X16_choice_18 at h
  exact hQ _ _ _ _ _ dX16_choice_18 hH hc h hGσ hS
set_option maxRecDepth 20000 in
theorem a_X16_choice_0 {Q : Sg → Unit → Prop} {X : Sg → String → Prop} {fr0 lw0 : Nat} {rc : Nat → Int → Sg → (Sg → Unit → Prop) → (Sg → String → Prop) → Prop} (K : MC R p s m args c cX16_choice 4 RX16 D cA tys A n0 s0 (fr0 + 1) (lw0 + 60) []) (hRC : HRC l D cA tys A dm ra jx rm fr0 lw0 rc) (hf0 : 40 ≤ fr0) (hl0 : 4000 ≤ lw0) (hQ : HQV p l e R s m args below meth c cX16_choice D cA A n0 s0 QM dm ra jx rm Q) (hX : HX p l e R s m args below meth c 4 D cA A n0 s0 QM dm ra jx rm X) : ∀ (σ : Sg) (v1 : Int) (g1 : rng v1), w_X16_choice_0 ra jx rm rc Q X σ v1 → RG σ → Shp dm ra jx rm σ → JJ p l e R s m args below meth c 4 D cA A n0 s0 QM σ 0 [(0, .ref rm), (1, .int (i32 v1))] [] := by
  intro σ v1 g1 h hGσ hS H locs ls hH hl hc
  have B := K.1
  unfold w_X16_choice_0 at h
  refine lv_aload_n B.1 B.2.1 dX16_choice_0 rfl (lv_at hl 0 rfl) ?_
  refine lv_iload_n B.1 B.2.1 dX16_choice_1 rfl (lv_at hl 1 rfl) ?_
  refine c_V B hH hl hc K.2.2.1 (C := RX16) (T := TX16) (N := 123) (ci := 16) (As := [.int (i32 v1)]) (hRC.2.1 σ v1 g1 hGσ hS h) wc_X16_135 1 hd_X16_either ⟨by have := K.2.2.2.1; omega, by have := K.2.2.2.2.1; omega⟩ hS.1.1 hS.1.2 (by decide) rfl rfl (rest := []) rfl (Nat.le_of_ble_eq_true rfl) dX16_choice_2 (fun σ68 w hq => ?_) (fun σ9 E9 hx9 => hX σ9 E9 _ _ _ (tb_out K.2.2.2.2.2 rfl) hx9.1 hx9.2.1 hx9.2.2)
  obtain ⟨rfl, h, hGσ68, hS⟩ := hq
  intro H locs ls hH hl hc
  refine W.eq (g2 := F0 m 5 ls []) (rfl) ?_
  try dsimp only at h
  refine lv_aload_n B.1 B.2.1 dX16_choice_5 rfl (lv_at hl 0 rfl) ?_
  refine c_V B hH hl hc K.2.2.1 (C := RX16) (T := TX16) (N := 123) (ci := 16) (As := []) (ok_X16_see K.2.1 σ68 hGσ68 hS h) wc_X16_76 0 hd_X16_see ⟨by have := K.2.2.2.1; omega, by have := K.2.2.2.2.1; omega⟩ hS.1.1 hS.1.2 (by decide) rfl rfl (rest := []) rfl (Nat.le_of_ble_eq_true rfl) dX16_choice_6 (fun σ69 w hq => ?_) (fun σ9 E9 hx9 => hX σ9 E9 _ _ _ (tb_out K.2.2.2.2.2 rfl) hx9.1 hx9.2.1 hx9.2.2)
  obtain ⟨rfl, h, hGσ69, hS⟩ := hq
  intro H locs ls hH hl hc
  refine W.eq (g2 := F0 m 9 ls []) (rfl) ?_
  try dsimp only at h
  refine lv_aload_n B.1 B.2.1 dX16_choice_9 rfl (lv_at hl 0 rfl) ?_
  refine r_geti B hH hS 9 (by decide) wf_X16_38 rfl rfl dX16_choice_10 ?_
  refine lv_bipush (v := i32 63) B.1 B.2.1 dX16_choice_13 (by decide) ?_
  refine lv_icmp_eq (tgt := 19) B.1 B.2.1 dX16_choice_15 (by decide) (fun h9 => ?_) (fun h9 => ?_)
  · rw [if_pos ((i32_eq (hGσ69 _ _) (by unfold rng; omega)).mp h9)] at h
    exact a_X16_choice_19 K hRC hf0 hl0 hQ hX _ _ g1 h hGσ69 hS _ _ _ hH (lv_sub (l' := [(0, .ref rm), (1, .int (i32 v1))]) hl [0, 1] rfl) hc
  · rw [if_neg (fun q => h9 ((i32_eq (hGσ69 _ _) (by unfold rng; omega)).mpr q))] at h
    exact a_X16_choice_18 K hRC hf0 hl0 hQ hX _ h hGσ69 hS _ _ _ hH (lv_sub (l' := [(0, .ref rm)]) hl [0] rfl) hc
theorem ok_X16_choice_r {fr0 lw0 : Nat} {rc : Nat → Int → Sg → (Sg → Unit → Prop) → (Sg → String → Prop) → Prop} (hRC : HRC l D cA tys A dm ra jx rm fr0 lw0 rc) (hf0 : 40 ≤ fr0) (hl0 : 4000 ≤ lw0) (hT : Tys cA tys) {Q : Sg → Unit → Prop} {X : Sg → String → Prop} (σ : Sg) (v1 : Int) (g1 : rng v1) (hG : RG σ) (hS : Shp dm ra jx rm σ) (h : w_X16_choice_0 ra jx rm rc Q X σ v1) : Ok l D cA tys A yX16_choice (.code yX16_choice cX16_choice 4 none) (fr0 + 1) (lw0 + 60) [.ref rm, .int (i32 v1)] σ (QnV dm ra jx rm Q) (QxR dm ra jx rm X) := by
  exact ok_V (plainFor_of_name (by decide)) (by exact Nat.le_of_ble_eq_true rfl) hT (fun p e R s m args below meth c K hQ hX H locs ls hH hl hc => a_X16_choice_0 K hRC hf0 hl0 hQ hX σ v1 g1 h hG hS H locs ls hH (lv_sub (l' := [(0, .ref rm), (1, .int (i32 v1))]) hl [0, 1] rfl) hc)
theorem dX16_either_0 : decode cX16_either 0 = .ok (.aload_n 0, 1) := by decide +kernel
theorem dX16_either_1 : decode cX16_either 1 = .ok (.iload_n 1, 1) := by decide +kernel
theorem dX16_either_2 : decode cX16_either 2 = .ok (.invokevirtual 144, 3) := by decide +kernel
theorem dX16_either_5 : decode cX16_either 5 = .ok (.aload_n 0, 1) := by decide +kernel
theorem dX16_either_6 : decode cX16_either 6 = .ok (.invokevirtual 76, 3) := by decide +kernel
theorem dX16_either_9 : decode cX16_either 9 = .ok (.aload_n 0, 1) := by decide +kernel
theorem dX16_either_10 : decode cX16_either 10 = .ok (.getfield 38, 3) := by decide +kernel
theorem dX16_either_13 : decode cX16_either 13 = .ok (.bipush 124, 2) := by decide +kernel
theorem dX16_either_15 : decode cX16_either 15 = .ok (.if_icmp .ne 88, 3) := by decide +kernel
theorem dX16_either_18 : decode cX16_either 18 = .ok (.aload_n 0, 1) := by decide +kernel
theorem dX16_either_19 : decode cX16_either 19 = .ok (.invokevirtual 84, 3) := by decide +kernel
theorem dX16_either_22 : decode cX16_either 22 = .ok (.aload_n 0, 1) := by decide +kernel
theorem dX16_either_23 : decode cX16_either 23 = .ok (.getfield 118, 3) := by decide +kernel
theorem dX16_either_26 : decode cX16_either 26 = .ok (.bipush 14, 2) := by decide +kernel
theorem dX16_either_28 : decode cX16_either 28 = .ok (.lconst 0, 1) := by decide +kernel
theorem dX16_either_29 : decode cX16_either 29 = .ok (.invokevirtual 131, 3) := by decide +kernel
theorem dX16_either_32 : decode cX16_either 32 = .ok (.istore_n 2, 1) := by decide +kernel
theorem dX16_either_33 : decode cX16_either 33 = .ok (.aload_n 0, 1) := by decide +kernel
theorem dX16_either_34 : decode cX16_either 34 = .ok (.iload_n 1, 1) := by decide +kernel
theorem dX16_either_35 : decode cX16_either 35 = .ok (.invokevirtual 144, 3) := by decide +kernel
theorem dX16_either_38 : decode cX16_either 38 = .ok (.aload_n 0, 1) := by decide +kernel
theorem dX16_either_39 : decode cX16_either 39 = .ok (.getfield 118, 3) := by decide +kernel
theorem dX16_either_42 : decode cX16_either 42 = .ok (.bipush 16, 2) := by decide +kernel
theorem dX16_either_44 : decode cX16_either 44 = .ok (.lconst 0, 1) := by decide +kernel
theorem dX16_either_45 : decode cX16_either 45 = .ok (.invokevirtual 131, 3) := by decide +kernel
theorem dX16_either_48 : decode cX16_either 48 = .ok (.pop, 1) := by decide +kernel
theorem dX16_either_49 : decode cX16_either 49 = .ok (.aload_n 0, 1) := by decide +kernel
theorem dX16_either_50 : decode cX16_either 50 = .ok (.getfield 118, 3) := by decide +kernel
theorem dX16_either_53 : decode cX16_either 53 = .ok (.bipush 15, 2) := by decide +kernel
theorem dX16_either_55 : decode cX16_either 55 = .ok (.lconst 0, 1) := by decide +kernel
theorem dX16_either_56 : decode cX16_either 56 = .ok (.invokevirtual 131, 3) := by decide +kernel
theorem dX16_either_59 : decode cX16_either 59 = .ok (.istore_n 3, 1) := by decide +kernel
theorem dX16_either_60 : decode cX16_either 60 = .ok (.aload_n 0, 1) := by decide +kernel
theorem dX16_either_61 : decode cX16_either 61 = .ok (.getfield 118, 3) := by decide +kernel
theorem dX16_either_64 : decode cX16_either 64 = .ok (.getfield 141, 3) := by decide +kernel
theorem dX16_either_67 : decode cX16_either 67 = .ok (.iload_n 2, 1) := by decide +kernel
theorem dX16_either_68 : decode cX16_either 68 = .ok (.aload_n 0, 1) := by decide +kernel
theorem dX16_either_69 : decode cX16_either 69 = .ok (.getfield 118, 3) := by decide +kernel
theorem dX16_either_72 : decode cX16_either 72 = .ok (.iconst 0, 1) := by decide +kernel
theorem dX16_either_73 : decode cX16_either 73 = .ok (.lconst 1, 1) := by decide +kernel
theorem dX16_either_74 : decode cX16_either 74 = .ok (.invokevirtual 131, 3) := by decide +kernel
theorem dX16_either_77 : decode cX16_either 77 = .ok (.i2l, 1) := by decide +kernel
theorem dX16_either_78 : decode cX16_either 78 = .ok (.lastore, 1) := by decide +kernel
theorem dX16_either_79 : decode cX16_either 79 = .ok (.aload_n 0, 1) := by decide +kernel
theorem dX16_either_80 : decode cX16_either 80 = .ok (.getfield 118, 3) := by decide +kernel
theorem dX16_either_83 : decode cX16_either 83 = .ok (.getfield 141, 3) := by decide +kernel
theorem dX16_either_86 : decode cX16_either 86 = .ok (.iload_n 3, 1) := by decide +kernel
theorem dX16_either_87 : decode cX16_either 87 = .ok (.aload_n 0, 1) := by decide +kernel
theorem dX16_either_88 : decode cX16_either 88 = .ok (.getfield 118, 3) := by decide +kernel
theorem dX16_either_91 : decode cX16_either 91 = .ok (.getfield 122, 3) := by decide +kernel
theorem dX16_either_94 : decode cX16_either 94 = .ok (.i2l, 1) := by decide +kernel
theorem dX16_either_95 : decode cX16_either 95 = .ok (.lastore, 1) := by decide +kernel
theorem dX16_either_96 : decode cX16_either 96 = .ok (.aload_n 0, 1) := by decide +kernel
theorem dX16_either_97 : decode cX16_either 97 = .ok (.invokevirtual 76, 3) := by decide +kernel
theorem dX16_either_100 : decode cX16_either 100 = .ok (.goto (-91), 3) := by decide +kernel
theorem dX16_either_103 : decode cX16_either 103 = .ok (.return_, 1) := by decide +kernel
set_option maxRecDepth 20000 in
theorem a_X16_either_103 {Q : Sg → Unit → Prop} {X : Sg → String → Prop} {fr0 lw0 : Nat} {rc : Nat → Int → Sg → (Sg → Unit → Prop) → (Sg → String → Prop) → Prop} (K : MC R p s m args c cX16_either 4 RX16 D cA tys A n0 s0 (fr0 + 1) (lw0 + 60) []) (hRC : HRC l D cA tys A dm ra jx rm fr0 lw0 rc) (hf0 : 40 ≤ fr0) (hl0 : 4000 ≤ lw0) (hQ : HQV p l e R s m args below meth c cX16_either D cA A n0 s0 QM dm ra jx rm Q) (hX : HX p l e R s m args below meth c 4 D cA A n0 s0 QM dm ra jx rm X) : ∀ (σ : Sg), w_X16_either_103 ra jx rm rc Q X σ → RG σ → Shp dm ra jx rm σ → JJ p l e R s m args below meth c 4 D cA A n0 s0 QM σ 103 [(0, .ref rm)] [] := by
  intro σ h hGσ hS H locs ls hH hl hc
  have B := K.1
  unfold w_X16_either_103 at h
  exact hQ _ _ _ _ _ dX16_either_103 hH hc h hGσ hS
set_option maxRecDepth 20000 in
theorem a_X16_either_18 {Q : Sg → Unit → Prop} {X : Sg → String → Prop} {fr0 lw0 : Nat} {rc : Nat → Int → Sg → (Sg → Unit → Prop) → (Sg → String → Prop) → Prop} (K : MC R p s m args c cX16_either 4 RX16 D cA tys A n0 s0 (fr0 + 1) (lw0 + 60) []) (hRC : HRC l D cA tys A dm ra jx rm fr0 lw0 rc) (hf0 : 40 ≤ fr0) (hl0 : 4000 ≤ lw0) (hQ : HQV p l e R s m args below meth c cX16_either D cA A n0 s0 QM dm ra jx rm Q) (hX : HX p l e R s m args below meth c 4 D cA A n0 s0 QM dm ra jx rm X) {K9 : Sg → Int → Prop} (hK9 : ∀ (σ : Sg) (v1 : Int) (g1 : rng v1), K9 σ v1 → RG σ → Shp dm ra jx rm σ → JJ p l e R s m args below meth c 4 D cA A n0 s0 QM σ 9 [(0, .ref rm), (1, .int (i32 v1))] []) : ∀ (σ : Sg) (v1 : Int) (g1 : rng v1), w_X16_either_18 ra jx rm rc K9 Q X σ v1 → RG σ → Shp dm ra jx rm σ → JJ p l e R s m args below meth c 4 D cA A n0 s0 QM σ 18 [(0, .ref rm), (1, .int (i32 v1))] [] := by
  intro σ v1 g1 h hGσ hS H locs ls hH hl hc
  have B := K.1
  unfold w_X16_either_18 at h
  refine lv_aload_n B.1 B.2.1 dX16_either_18 rfl (lv_at hl 0 rfl) ?_
  refine c_V B hH hl hc K.2.2.1 (C := RX16) (T := TX16) (N := 123) (ci := 16) (As := []) (ok_X16_take K.2.1 σ hGσ hS h) wc_X16_84 0 hd_X16_take ⟨by have := K.2.2.2.1; omega, by have := K.2.2.2.2.1; omega⟩ hS.1.1 hS.1.2 (by decide) rfl rfl (rest := []) rfl (Nat.le_of_ble_eq_true rfl) dX16_either_19 (fun σ45 w hq => ?_) (fun σ9 E9 hx9 => hX σ9 E9 _ _ _ (tb_out K.2.2.2.2.2 rfl) hx9.1 hx9.2.1 hx9.2.2)
  obtain ⟨rfl, h, hGσ45, hS⟩ := hq
  intro H locs ls hH hl hc
  refine W.eq (g2 := F0 m 22 ls []) (rfl) ?_
  try dsimp only at h
  refine lv_aload_n B.1 B.2.1 dX16_either_22 rfl (lv_at hl 0 rfl) ?_
  refine r_getp B hH hS 18 (by decide) wf_X16_118 rfl rfl dX16_either_23 ?_
  refine lv_bipush (v := i32 14) B.1 B.2.1 dX16_either_26 (by decide) ?_
  refine lv_lconst (v := 0) B.1 B.2.1 dX16_either_28 (by decide) ?_
  obtain ⟨a46, ea46, ja46, h⟩ := h
  refine W.eq (g2 := F0 m 29 ls [.long 0, .int (i32 14), .ref a46]) (by rw [ea46]; rfl) ?_
  refine c_V B hH hl hc K.2.2.1 (C := RX15) (T := TX15) (N := 20) (ci := 15) (As := [.int (i32 14), .long 0]) (ok_X15_step ja46 K.2.1 σ45 14 0 (by unfold rng; omega) hGσ45 hS h) wc_X16_131 2 hd_X15_step ⟨by have := K.2.2.2.1; omega, by have := K.2.2.2.2.1; omega⟩ (hS.jb ja46).1 (hS.jb ja46).2 (by decide) rfl rfl (rest := []) rfl (Nat.le_of_ble_eq_true rfl) dX16_either_29 (fun σ47 w hq => ?_) (fun σ9 E9 hx9 => hX σ9 E9 _ _ _ (tb_out K.2.2.2.2.2 rfl) hx9.1 hx9.2.1 hx9.2.2)
  obtain ⟨r48, rfl, gr48, h, hGσ47, hS⟩ := hq
  intro H locs ls hH hl hc
  refine W.eq (g2 := F0 m 32 ls [.int (i32 r48)]) (rfl) ?_
  try dsimp only at h
  refine lv_istore_n (lv' := [(2, .int (i32 r48)), (0, .ref rm), (1, .int (i32 v1))]) B.1 B.2.1 dX16_either_32 rfl hl (by decide) rfl (fun ls hl => ?_)
  refine lv_aload_n B.1 B.2.1 dX16_either_33 rfl (lv_at hl 1 rfl) ?_
  refine lv_iload_n B.1 B.2.1 dX16_either_34 rfl (lv_at hl 2 rfl) ?_
  refine c_V B hH hl hc K.2.2.1 (C := RX16) (T := TX16) (N := 123) (ci := 16) (As := [.int (i32 v1)]) (hRC.2.2.1 σ47 v1 g1 hGσ47 hS h) wc_X16_144 1 hd_X16_both ⟨by have := K.2.2.2.1; omega, by have := K.2.2.2.2.1; omega⟩ hS.1.1 hS.1.2 (by decide) rfl rfl (rest := []) rfl (Nat.le_of_ble_eq_true rfl) dX16_either_35 (fun σ49 w hq => ?_) (fun σ9 E9 hx9 => hX σ9 E9 _ _ _ (tb_out K.2.2.2.2.2 rfl) hx9.1 hx9.2.1 hx9.2.2)
  obtain ⟨rfl, h, hGσ49, hS⟩ := hq
  intro H locs ls hH hl hc
  refine W.eq (g2 := F0 m 38 ls []) (rfl) ?_
  try dsimp only at h
  refine lv_aload_n B.1 B.2.1 dX16_either_38 rfl (lv_at hl 1 rfl) ?_
  refine r_getp B hH hS 18 (by decide) wf_X16_118 rfl rfl dX16_either_39 ?_
  refine lv_bipush (v := i32 16) B.1 B.2.1 dX16_either_42 (by decide) ?_
  refine lv_lconst (v := 0) B.1 B.2.1 dX16_either_44 (by decide) ?_
  obtain ⟨a50, ea50, ja50, h⟩ := h
  refine W.eq (g2 := F0 m 45 ls [.long 0, .int (i32 16), .ref a50]) (by rw [ea50]; rfl) ?_
  refine c_V B hH hl hc K.2.2.1 (C := RX15) (T := TX15) (N := 20) (ci := 15) (As := [.int (i32 16), .long 0]) (ok_X15_step ja50 K.2.1 σ49 16 0 (by unfold rng; omega) hGσ49 hS h) wc_X16_131 2 hd_X15_step ⟨by have := K.2.2.2.1; omega, by have := K.2.2.2.2.1; omega⟩ (hS.jb ja50).1 (hS.jb ja50).2 (by decide) rfl rfl (rest := []) rfl (Nat.le_of_ble_eq_true rfl) dX16_either_45 (fun σ51 w hq => ?_) (fun σ9 E9 hx9 => hX σ9 E9 _ _ _ (tb_out K.2.2.2.2.2 rfl) hx9.1 hx9.2.1 hx9.2.2)
  obtain ⟨r52, rfl, gr52, h, hGσ51, hS⟩ := hq
  intro H locs ls hH hl hc
  refine W.eq (g2 := F0 m 48 ls [.int (i32 r52)]) (rfl) ?_
  try dsimp only at h
  refine lv_pop B.1 B.2.1 dX16_either_48 rfl ?_
  refine lv_aload_n B.1 B.2.1 dX16_either_49 rfl (lv_at hl 1 rfl) ?_
  refine r_getp B hH hS 18 (by decide) wf_X16_118 rfl rfl dX16_either_50 ?_
  refine lv_bipush (v := i32 15) B.1 B.2.1 dX16_either_53 (by decide) ?_
  refine lv_lconst (v := 0) B.1 B.2.1 dX16_either_55 (by decide) ?_
  obtain ⟨a53, ea53, ja53, h⟩ := h
  refine W.eq (g2 := F0 m 56 ls [.long 0, .int (i32 15), .ref a53]) (by rw [ea53]; rfl) ?_
  refine c_V B hH hl hc K.2.2.1 (C := RX15) (T := TX15) (N := 20) (ci := 15) (As := [.int (i32 15), .long 0]) (ok_X15_step ja53 K.2.1 σ51 15 0 (by unfold rng; omega) hGσ51 hS h) wc_X16_131 2 hd_X15_step ⟨by have := K.2.2.2.1; omega, by have := K.2.2.2.2.1; omega⟩ (hS.jb ja53).1 (hS.jb ja53).2 (by decide) rfl rfl (rest := []) rfl (Nat.le_of_ble_eq_true rfl) dX16_either_56 (fun σ54 w hq => ?_) (fun σ9 E9 hx9 => hX σ9 E9 _ _ _ (tb_out K.2.2.2.2.2 rfl) hx9.1 hx9.2.1 hx9.2.2)
  obtain ⟨r55, rfl, gr55, h, hGσ54, hS⟩ := hq
  intro H locs ls hH hl hc
  refine W.eq (g2 := F0 m 59 ls [.int (i32 r55)]) (rfl) ?_
  try dsimp only at h
  refine lv_istore_n (lv' := [(3, .int (i32 r55)), (2, .int (i32 r48)), (0, .ref rm), (1, .int (i32 v1))]) B.1 B.2.1 dX16_either_59 rfl hl (by decide) rfl (fun ls hl => ?_)
  refine lv_aload_n B.1 B.2.1 dX16_either_60 rfl (lv_at hl 2 rfl) ?_
  refine r_getp B hH hS 18 (by decide) wf_X16_118 rfl rfl dX16_either_61 ?_
  obtain ⟨a56, ea56, ja56, h⟩ := h
  refine W.eq (g2 := F0 m 64 ls [.ref a56]) (by rw [ea56]; rfl) ?_
  refine n_arr B hH hS ja56 16 (kd := 101) (n := 6000) (by decide) (by decide) (List.mem_of_getElem? (i := 16) rfl) rfl dX16_either_64 ?_
  refine lv_iload_n B.1 B.2.1 dX16_either_67 rfl (lv_at hl 1 rfl) ?_
  refine lv_aload_n B.1 B.2.1 dX16_either_68 rfl (lv_at hl 2 rfl) ?_
  refine r_getp B hH hS 18 (by decide) wf_X16_118 rfl rfl dX16_either_69 ?_
  refine lv_iconst (v := i32 0) B.1 B.2.1 dX16_either_72 (by decide) ?_
  refine lv_lconst (v := 1) B.1 B.2.1 dX16_either_73 (by decide) ?_
  obtain ⟨a57, ea57, ja57, h⟩ := h
  refine W.eq (g2 := F0 m 74 ls [.long 1, .int (i32 0), .ref a57, .int (i32 r48), .ref (jx a56 16)]) (by rw [ea57]; rfl) ?_
  refine c_V B hH hl hc K.2.2.1 (C := RX15) (T := TX15) (N := 20) (ci := 15) (As := [.int (i32 0), .long 1]) (ok_X15_step ja57 K.2.1 σ54 0 1 (by unfold rng; omega) hGσ54 hS h) wc_X16_131 2 hd_X15_step ⟨by have := K.2.2.2.1; omega, by have := K.2.2.2.2.1; omega⟩ (hS.jb ja57).1 (hS.jb ja57).2 (by decide) rfl rfl (rest := [.int (i32 r48), .ref (jx a56 16)]) rfl (Nat.le_of_ble_eq_true rfl) dX16_either_74 (fun σ58 w hq => ?_) (fun σ9 E9 hx9 => hX σ9 E9 _ _ _ (tb_out K.2.2.2.2.2 rfl) hx9.1 hx9.2.1 hx9.2.2)
  obtain ⟨r59, rfl, gr59, h, hGσ58, hS⟩ := hq
  intro H locs ls hH hl hc
  refine W.eq (g2 := F0 m 77 ls [.int (i32 r59), .int (i32 r48), .ref (jx a56 16)]) (rfl) ?_
  try dsimp only at h
  refine lv_i2l B.1 B.2.1 dX16_either_77 (i32_i64 gr59) ?_
  obtain ⟨q6, h⟩ := h
  obtain ⟨σ60, eσ60⟩ : ∃ z, z = pJ σ58 (jx a56 16) r48.toNat (Int64.ofInt r59) := ⟨_, rfl⟩
  have h := h σ60 eσ60
  refine x_last B K.2.1 hH (hS.ja ja56 (k := 16) (kd := 101) (n := 6000) (by decide)) (by decide) q6 dX16_either_78 (fun H locs hH => ?_)
  have hH : Hd D cA A s (pJ σ58 (jx a56 16) r48.toNat (Int64.ofInt r59)) H locs := hH
  rw [← eσ60] at hH
  have hGσ60 : RG σ60 := by rw [eσ60]; exact hGσ58.pJ
  have hS : Shp dm ra jx rm σ60 := by rw [eσ60]; exact hS
  have hc : CB n0 s0 σ60 := by rw [eσ60]; exact hc
  rw [show gc σ58 = gc σ60 by rw [eσ60], show gs σ58 = gs σ60 by rw [eσ60]]
  refine lv_aload_n B.1 B.2.1 dX16_either_79 rfl (lv_at hl 2 rfl) ?_
  refine r_getp B hH hS 18 (by decide) wf_X16_118 rfl rfl dX16_either_80 ?_
  obtain ⟨a61, ea61, ja61, h⟩ := h
  refine W.eq (g2 := F0 m 83 ls [.ref a61]) (by rw [ea61]; rfl) ?_
  refine n_arr B hH hS ja61 16 (kd := 101) (n := 6000) (by decide) (by decide) (List.mem_of_getElem? (i := 16) rfl) rfl dX16_either_83 ?_
  refine lv_iload_n B.1 B.2.1 dX16_either_86 rfl (lv_at hl 0 rfl) ?_
  refine lv_aload_n B.1 B.2.1 dX16_either_87 rfl (lv_at hl 2 rfl) ?_
  refine r_getp B hH hS 18 (by decide) wf_X16_118 rfl rfl dX16_either_88 ?_
  obtain ⟨a62, ea62, ja62, h⟩ := h
  refine W.eq (g2 := F0 m 91 ls [.ref a62, .int (i32 r55), .ref (jx a61 16)]) (by rw [ea62]; rfl) ?_
  refine n_geti B hH hS ja62 17 (by decide) (List.mem_of_getElem? (i := 17) rfl) rfl dX16_either_91 ?_
  refine lv_i2l B.1 B.2.1 dX16_either_94 (i32_i64 (hGσ60 _ _)) ?_
  obtain ⟨q10, h⟩ := h
  obtain ⟨σ63, eσ63⟩ : ∃ z, z = pJ σ60 (jx a61 16) r55.toNat (Int64.ofInt (gI σ60 a62 17)) := ⟨_, rfl⟩
  have h := h σ63 eσ63
  refine x_last B K.2.1 hH (hS.ja ja61 (k := 16) (kd := 101) (n := 6000) (by decide)) (by decide) q10 dX16_either_95 (fun H locs hH => ?_)
  have hH : Hd D cA A s (pJ σ60 (jx a61 16) r55.toNat (Int64.ofInt (gI σ60 a62 17))) H locs := hH
  rw [← eσ63] at hH
  have hGσ63 : RG σ63 := by rw [eσ63]; exact hGσ60.pJ
  have hS : Shp dm ra jx rm σ63 := by rw [eσ63]; exact hS
  have hc : CB n0 s0 σ63 := by rw [eσ63]; exact hc
  rw [show gc σ60 = gc σ63 by rw [eσ63], show gs σ60 = gs σ63 by rw [eσ63]]
  refine lv_aload_n B.1 B.2.1 dX16_either_96 rfl (lv_at hl 2 rfl) ?_
  refine c_V B hH hl hc K.2.2.1 (C := RX16) (T := TX16) (N := 123) (ci := 16) (As := []) (ok_X16_see K.2.1 σ63 hGσ63 hS h) wc_X16_76 0 hd_X16_see ⟨by have := K.2.2.2.1; omega, by have := K.2.2.2.2.1; omega⟩ hS.1.1 hS.1.2 (by decide) rfl rfl (rest := []) rfl (Nat.le_of_ble_eq_true rfl) dX16_either_97 (fun σ64 w hq => ?_) (fun σ9 E9 hx9 => hX σ9 E9 _ _ _ (tb_out K.2.2.2.2.2 rfl) hx9.1 hx9.2.1 hx9.2.2)
  obtain ⟨rfl, h, hGσ64, hS⟩ := hq
  intro H locs ls hH hl hc
  refine W.eq (g2 := F0 m 100 ls []) (rfl) ?_
  try dsimp only at h
  refine lv_goto (tgt := 9) B.1 B.2.1 dX16_either_100 (by decide) ?_
  exact hK9 _ _ g1 h hGσ64 hS _ _ _ hH (lv_sub (l' := [(0, .ref rm), (1, .int (i32 v1))]) hl [2, 3] rfl) hc
set_option maxRecDepth 20000 in
theorem a_X16_either_9 {Q : Sg → Unit → Prop} {X : Sg → String → Prop} {fr0 lw0 : Nat} {rc : Nat → Int → Sg → (Sg → Unit → Prop) → (Sg → String → Prop) → Prop} (K : MC R p s m args c cX16_either 4 RX16 D cA tys A n0 s0 (fr0 + 1) (lw0 + 60) []) (hRC : HRC l D cA tys A dm ra jx rm fr0 lw0 rc) (hf0 : 40 ≤ fr0) (hl0 : 4000 ≤ lw0) (hQ : HQV p l e R s m args below meth c cX16_either D cA A n0 s0 QM dm ra jx rm Q) (hX : HX p l e R s m args below meth c 4 D cA A n0 s0 QM dm ra jx rm X) {K9 : Sg → Int → Prop} (hK9 : ∀ (σ : Sg) (v1 : Int) (g1 : rng v1), K9 σ v1 → RG σ → Shp dm ra jx rm σ → JJ p l e R s m args below meth c 4 D cA A n0 s0 QM σ 9 [(0, .ref rm), (1, .int (i32 v1))] []) : ∀ (σ : Sg) (v1 : Int) (g1 : rng v1), w_X16_either_9 ra jx rm rc K9 Q X σ v1 → RG σ → Shp dm ra jx rm σ → JJ p l e R s m args below meth c 4 D cA A n0 s0 QM σ 9 [(0, .ref rm), (1, .int (i32 v1))] [] := by
  intro σ v1 g1 h hGσ hS H locs ls hH hl hc
  have B := K.1
  unfold w_X16_either_9 at h
  refine lv_aload_n B.1 B.2.1 dX16_either_9 rfl (lv_at hl 0 rfl) ?_
  refine r_geti B hH hS 9 (by decide) wf_X16_38 rfl rfl dX16_either_10 ?_
  refine lv_bipush (v := i32 124) B.1 B.2.1 dX16_either_13 (by decide) ?_
  refine lv_icmp_ne (tgt := 103) B.1 B.2.1 dX16_either_15 (by decide) (fun h9 => ?_) (fun h9 => ?_)
  · rw [if_pos (fun q => h9 ((i32_eq (hGσ _ _) (by unfold rng; omega)).mpr q))] at h
    exact a_X16_either_103 K hRC hf0 hl0 hQ hX _ h hGσ hS _ _ _ hH (lv_sub (l' := [(0, .ref rm)]) hl [0] rfl) hc
  · rw [if_neg (fun q => q ((i32_eq (hGσ _ _) (by unfold rng; omega)).mp h9))] at h
    exact a_X16_either_18 K hRC hf0 hl0 hQ hX hK9 _ _ g1 h hGσ hS _ _ _ hH (lv_sub (l' := [(0, .ref rm), (1, .int (i32 v1))]) hl [0, 1] rfl) hc
theorem al_X16_either_9 {Q : Sg → Unit → Prop} {X : Sg → String → Prop} {fr0 lw0 : Nat} {rc : Nat → Int → Sg → (Sg → Unit → Prop) → (Sg → String → Prop) → Prop} (K : MC R p s m args c cX16_either 4 RX16 D cA tys A n0 s0 (fr0 + 1) (lw0 + 60) []) (hRC : HRC l D cA tys A dm ra jx rm fr0 lw0 rc) (hf0 : 40 ≤ fr0) (hl0 : 4000 ≤ lw0) (hQ : HQV p l e R s m args below meth c cX16_either D cA A n0 s0 QM dm ra jx rm Q) (hX : HX p l e R s m args below meth c 4 D cA A n0 s0 QM dm ra jx rm X) : ∀ (n : Nat), ∀ (σ : Sg) (v1 : Int) (g1 : rng v1), wl_X16_either_9 ra jx rm rc Q X n σ v1 → RG σ → Shp dm ra jx rm σ → JJ p l e R s m args below meth c 4 D cA A n0 s0 QM σ 9 [(0, .ref rm), (1, .int (i32 v1))] [] := by
  intro n
  induction n with
  | zero => intro σ v1 g1 h; exact h.elim
  | succ n ih => exact fun σ v1 g1 h => a_X16_either_9 K hRC hf0 hl0 hQ hX ih σ v1 g1 h
set_option maxRecDepth 20000 in
theorem a_X16_either_0 {Q : Sg → Unit → Prop} {X : Sg → String → Prop} {fr0 lw0 : Nat} {rc : Nat → Int → Sg → (Sg → Unit → Prop) → (Sg → String → Prop) → Prop} (K : MC R p s m args c cX16_either 4 RX16 D cA tys A n0 s0 (fr0 + 1) (lw0 + 60) []) (hRC : HRC l D cA tys A dm ra jx rm fr0 lw0 rc) (hf0 : 40 ≤ fr0) (hl0 : 4000 ≤ lw0) (hQ : HQV p l e R s m args below meth c cX16_either D cA A n0 s0 QM dm ra jx rm Q) (hX : HX p l e R s m args below meth c 4 D cA A n0 s0 QM dm ra jx rm X) : ∀ (σ : Sg) (v1 : Int) (g1 : rng v1), w_X16_either_0 ra jx rm rc Q X σ v1 → RG σ → Shp dm ra jx rm σ → JJ p l e R s m args below meth c 4 D cA A n0 s0 QM σ 0 [(0, .ref rm), (1, .int (i32 v1))] [] := by
  intro σ v1 g1 h hGσ hS H locs ls hH hl hc
  have B := K.1
  unfold w_X16_either_0 at h
  refine lv_aload_n B.1 B.2.1 dX16_either_0 rfl (lv_at hl 0 rfl) ?_
  refine lv_iload_n B.1 B.2.1 dX16_either_1 rfl (lv_at hl 1 rfl) ?_
  refine c_V B hH hl hc K.2.2.1 (C := RX16) (T := TX16) (N := 123) (ci := 16) (As := [.int (i32 v1)]) (hRC.2.2.1 σ v1 g1 hGσ hS h) wc_X16_144 1 hd_X16_both ⟨by have := K.2.2.2.1; omega, by have := K.2.2.2.2.1; omega⟩ hS.1.1 hS.1.2 (by decide) rfl rfl (rest := []) rfl (Nat.le_of_ble_eq_true rfl) dX16_either_2 (fun σ65 w hq => ?_) (fun σ9 E9 hx9 => hX σ9 E9 _ _ _ (tb_out K.2.2.2.2.2 rfl) hx9.1 hx9.2.1 hx9.2.2)
  obtain ⟨rfl, h, hGσ65, hS⟩ := hq
  intro H locs ls hH hl hc
  refine W.eq (g2 := F0 m 5 ls []) (rfl) ?_
  try dsimp only at h
  refine lv_aload_n B.1 B.2.1 dX16_either_5 rfl (lv_at hl 0 rfl) ?_
  refine c_V B hH hl hc K.2.2.1 (C := RX16) (T := TX16) (N := 123) (ci := 16) (As := []) (ok_X16_see K.2.1 σ65 hGσ65 hS h) wc_X16_76 0 hd_X16_see ⟨by have := K.2.2.2.1; omega, by have := K.2.2.2.2.1; omega⟩ hS.1.1 hS.1.2 (by decide) rfl rfl (rest := []) rfl (Nat.le_of_ble_eq_true rfl) dX16_either_6 (fun σ66 w hq => ?_) (fun σ9 E9 hx9 => hX σ9 E9 _ _ _ (tb_out K.2.2.2.2.2 rfl) hx9.1 hx9.2.1 hx9.2.2)
  obtain ⟨rfl, h, hGσ66, hS⟩ := hq
  intro H locs ls hH hl hc
  refine W.eq (g2 := F0 m 9 ls []) (rfl) ?_
  try dsimp only at h
  obtain ⟨n9, h⟩ := h
  exact al_X16_either_9 K hRC hf0 hl0 hQ hX n9 _ _ g1 h hGσ66 hS _ _ _ hH (lv_sub (l' := [(0, .ref rm), (1, .int (i32 v1))]) hl [0, 1] rfl) hc
theorem ok_X16_either_r {fr0 lw0 : Nat} {rc : Nat → Int → Sg → (Sg → Unit → Prop) → (Sg → String → Prop) → Prop} (hRC : HRC l D cA tys A dm ra jx rm fr0 lw0 rc) (hf0 : 40 ≤ fr0) (hl0 : 4000 ≤ lw0) (hT : Tys cA tys) {Q : Sg → Unit → Prop} {X : Sg → String → Prop} (σ : Sg) (v1 : Int) (g1 : rng v1) (hG : RG σ) (hS : Shp dm ra jx rm σ) (h : w_X16_either_0 ra jx rm rc Q X σ v1) : Ok l D cA tys A yX16_either (.code yX16_either cX16_either 4 none) (fr0 + 1) (lw0 + 60) [.ref rm, .int (i32 v1)] σ (QnV dm ra jx rm Q) (QxR dm ra jx rm X) := by
  exact ok_V (plainFor_of_name (by decide)) (by exact Nat.le_of_ble_eq_true rfl) hT (fun p e R s m args below meth c K hQ hX H locs ls hH hl hc => a_X16_either_0 K hRC hf0 hl0 hQ hX σ v1 g1 h hG hS H locs ls hH (lv_sub (l' := [(0, .ref rm), (1, .int (i32 v1))]) hl [0, 1] rfl) hc)
theorem dX16_both_0 : decode cX16_both 0 = .ok (.aload_n 0, 1) := by decide +kernel
theorem dX16_both_1 : decode cX16_both 1 = .ok (.iload_n 1, 1) := by decide +kernel
theorem dX16_both_2 : decode cX16_both 2 = .ok (.invokevirtual 147, 3) := by decide +kernel
theorem dX16_both_5 : decode cX16_both 5 = .ok (.aload_n 0, 1) := by decide +kernel
theorem dX16_both_6 : decode cX16_both 6 = .ok (.invokevirtual 76, 3) := by decide +kernel
theorem dX16_both_9 : decode cX16_both 9 = .ok (.aload_n 0, 1) := by decide +kernel
theorem dX16_both_10 : decode cX16_both 10 = .ok (.getfield 38, 3) := by decide +kernel
theorem dX16_both_13 : decode cX16_both 13 = .ok (.bipush 38, 2) := by decide +kernel
theorem dX16_both_15 : decode cX16_both 15 = .ok (.if_icmp .ne 88, 3) := by decide +kernel
theorem dX16_both_18 : decode cX16_both 18 = .ok (.aload_n 0, 1) := by decide +kernel
theorem dX16_both_19 : decode cX16_both 19 = .ok (.invokevirtual 84, 3) := by decide +kernel
theorem dX16_both_22 : decode cX16_both 22 = .ok (.aload_n 0, 1) := by decide +kernel
theorem dX16_both_23 : decode cX16_both 23 = .ok (.getfield 118, 3) := by decide +kernel
theorem dX16_both_26 : decode cX16_both 26 = .ok (.bipush 13, 2) := by decide +kernel
theorem dX16_both_28 : decode cX16_both 28 = .ok (.lconst 0, 1) := by decide +kernel
theorem dX16_both_29 : decode cX16_both 29 = .ok (.invokevirtual 131, 3) := by decide +kernel
theorem dX16_both_32 : decode cX16_both 32 = .ok (.istore_n 2, 1) := by decide +kernel
theorem dX16_both_33 : decode cX16_both 33 = .ok (.aload_n 0, 1) := by decide +kernel
theorem dX16_both_34 : decode cX16_both 34 = .ok (.iload_n 1, 1) := by decide +kernel
theorem dX16_both_35 : decode cX16_both 35 = .ok (.invokevirtual 147, 3) := by decide +kernel
theorem dX16_both_38 : decode cX16_both 38 = .ok (.aload_n 0, 1) := by decide +kernel
theorem dX16_both_39 : decode cX16_both 39 = .ok (.getfield 118, 3) := by decide +kernel
theorem dX16_both_42 : decode cX16_both 42 = .ok (.bipush 16, 2) := by decide +kernel
theorem dX16_both_44 : decode cX16_both 44 = .ok (.lconst 0, 1) := by decide +kernel
theorem dX16_both_45 : decode cX16_both 45 = .ok (.invokevirtual 131, 3) := by decide +kernel
theorem dX16_both_48 : decode cX16_both 48 = .ok (.pop, 1) := by decide +kernel
theorem dX16_both_49 : decode cX16_both 49 = .ok (.aload_n 0, 1) := by decide +kernel
theorem dX16_both_50 : decode cX16_both 50 = .ok (.getfield 118, 3) := by decide +kernel
theorem dX16_both_53 : decode cX16_both 53 = .ok (.bipush 15, 2) := by decide +kernel
theorem dX16_both_55 : decode cX16_both 55 = .ok (.lconst 0, 1) := by decide +kernel
theorem dX16_both_56 : decode cX16_both 56 = .ok (.invokevirtual 131, 3) := by decide +kernel
theorem dX16_both_59 : decode cX16_both 59 = .ok (.istore_n 3, 1) := by decide +kernel
theorem dX16_both_60 : decode cX16_both 60 = .ok (.aload_n 0, 1) := by decide +kernel
theorem dX16_both_61 : decode cX16_both 61 = .ok (.getfield 118, 3) := by decide +kernel
theorem dX16_both_64 : decode cX16_both 64 = .ok (.getfield 141, 3) := by decide +kernel
theorem dX16_both_67 : decode cX16_both 67 = .ok (.iload_n 2, 1) := by decide +kernel
theorem dX16_both_68 : decode cX16_both 68 = .ok (.aload_n 0, 1) := by decide +kernel
theorem dX16_both_69 : decode cX16_both 69 = .ok (.getfield 118, 3) := by decide +kernel
theorem dX16_both_72 : decode cX16_both 72 = .ok (.iconst 0, 1) := by decide +kernel
theorem dX16_both_73 : decode cX16_both 73 = .ok (.lconst 0, 1) := by decide +kernel
theorem dX16_both_74 : decode cX16_both 74 = .ok (.invokevirtual 131, 3) := by decide +kernel
theorem dX16_both_77 : decode cX16_both 77 = .ok (.i2l, 1) := by decide +kernel
theorem dX16_both_78 : decode cX16_both 78 = .ok (.lastore, 1) := by decide +kernel
theorem dX16_both_79 : decode cX16_both 79 = .ok (.aload_n 0, 1) := by decide +kernel
theorem dX16_both_80 : decode cX16_both 80 = .ok (.getfield 118, 3) := by decide +kernel
theorem dX16_both_83 : decode cX16_both 83 = .ok (.getfield 141, 3) := by decide +kernel
theorem dX16_both_86 : decode cX16_both 86 = .ok (.iload_n 3, 1) := by decide +kernel
theorem dX16_both_87 : decode cX16_both 87 = .ok (.aload_n 0, 1) := by decide +kernel
theorem dX16_both_88 : decode cX16_both 88 = .ok (.getfield 118, 3) := by decide +kernel
theorem dX16_both_91 : decode cX16_both 91 = .ok (.getfield 122, 3) := by decide +kernel
theorem dX16_both_94 : decode cX16_both 94 = .ok (.i2l, 1) := by decide +kernel
theorem dX16_both_95 : decode cX16_both 95 = .ok (.lastore, 1) := by decide +kernel
theorem dX16_both_96 : decode cX16_both 96 = .ok (.aload_n 0, 1) := by decide +kernel
theorem dX16_both_97 : decode cX16_both 97 = .ok (.invokevirtual 76, 3) := by decide +kernel
theorem dX16_both_100 : decode cX16_both 100 = .ok (.goto (-91), 3) := by decide +kernel
theorem dX16_both_103 : decode cX16_both 103 = .ok (.return_, 1) := by decide +kernel
set_option maxRecDepth 20000 in
theorem a_X16_both_103 {Q : Sg → Unit → Prop} {X : Sg → String → Prop} {fr0 lw0 : Nat} {rc : Nat → Int → Sg → (Sg → Unit → Prop) → (Sg → String → Prop) → Prop} (K : MC R p s m args c cX16_both 4 RX16 D cA tys A n0 s0 (fr0 + 1) (lw0 + 60) []) (hRC : HRC l D cA tys A dm ra jx rm fr0 lw0 rc) (hf0 : 40 ≤ fr0) (hl0 : 4000 ≤ lw0) (hQ : HQV p l e R s m args below meth c cX16_both D cA A n0 s0 QM dm ra jx rm Q) (hX : HX p l e R s m args below meth c 4 D cA A n0 s0 QM dm ra jx rm X) : ∀ (σ : Sg), w_X16_both_103 ra jx rm rc Q X σ → RG σ → Shp dm ra jx rm σ → JJ p l e R s m args below meth c 4 D cA A n0 s0 QM σ 103 [(0, .ref rm)] [] := by
  intro σ h hGσ hS H locs ls hH hl hc
  have B := K.1
  unfold w_X16_both_103 at h
  exact hQ _ _ _ _ _ dX16_both_103 hH hc h hGσ hS
set_option maxRecDepth 20000 in
theorem a_X16_both_18 {Q : Sg → Unit → Prop} {X : Sg → String → Prop} {fr0 lw0 : Nat} {rc : Nat → Int → Sg → (Sg → Unit → Prop) → (Sg → String → Prop) → Prop} (K : MC R p s m args c cX16_both 4 RX16 D cA tys A n0 s0 (fr0 + 1) (lw0 + 60) []) (hRC : HRC l D cA tys A dm ra jx rm fr0 lw0 rc) (hf0 : 40 ≤ fr0) (hl0 : 4000 ≤ lw0) (hQ : HQV p l e R s m args below meth c cX16_both D cA A n0 s0 QM dm ra jx rm Q) (hX : HX p l e R s m args below meth c 4 D cA A n0 s0 QM dm ra jx rm X) {K9 : Sg → Int → Prop} (hK9 : ∀ (σ : Sg) (v1 : Int) (g1 : rng v1), K9 σ v1 → RG σ → Shp dm ra jx rm σ → JJ p l e R s m args below meth c 4 D cA A n0 s0 QM σ 9 [(0, .ref rm), (1, .int (i32 v1))] []) : ∀ (σ : Sg) (v1 : Int) (g1 : rng v1), w_X16_both_18 ra jx rm rc K9 Q X σ v1 → RG σ → Shp dm ra jx rm σ → JJ p l e R s m args below meth c 4 D cA A n0 s0 QM σ 18 [(0, .ref rm), (1, .int (i32 v1))] [] := by
  intro σ v1 g1 h hGσ hS H locs ls hH hl hc
  have B := K.1
  unfold w_X16_both_18 at h
  refine lv_aload_n B.1 B.2.1 dX16_both_18 rfl (lv_at hl 0 rfl) ?_
  refine c_V B hH hl hc K.2.2.1 (C := RX16) (T := TX16) (N := 123) (ci := 16) (As := []) (ok_X16_take K.2.1 σ hGσ hS h) wc_X16_84 0 hd_X16_take ⟨by have := K.2.2.2.1; omega, by have := K.2.2.2.2.1; omega⟩ hS.1.1 hS.1.2 (by decide) rfl rfl (rest := []) rfl (Nat.le_of_ble_eq_true rfl) dX16_both_19 (fun σ45 w hq => ?_) (fun σ9 E9 hx9 => hX σ9 E9 _ _ _ (tb_out K.2.2.2.2.2 rfl) hx9.1 hx9.2.1 hx9.2.2)
  obtain ⟨rfl, h, hGσ45, hS⟩ := hq
  intro H locs ls hH hl hc
  refine W.eq (g2 := F0 m 22 ls []) (rfl) ?_
  try dsimp only at h
  refine lv_aload_n B.1 B.2.1 dX16_both_22 rfl (lv_at hl 0 rfl) ?_
  refine r_getp B hH hS 18 (by decide) wf_X16_118 rfl rfl dX16_both_23 ?_
  refine lv_bipush (v := i32 13) B.1 B.2.1 dX16_both_26 (by decide) ?_
  refine lv_lconst (v := 0) B.1 B.2.1 dX16_both_28 (by decide) ?_
  obtain ⟨a46, ea46, ja46, h⟩ := h
  refine W.eq (g2 := F0 m 29 ls [.long 0, .int (i32 13), .ref a46]) (by rw [ea46]; rfl) ?_
  refine c_V B hH hl hc K.2.2.1 (C := RX15) (T := TX15) (N := 20) (ci := 15) (As := [.int (i32 13), .long 0]) (ok_X15_step ja46 K.2.1 σ45 13 0 (by unfold rng; omega) hGσ45 hS h) wc_X16_131 2 hd_X15_step ⟨by have := K.2.2.2.1; omega, by have := K.2.2.2.2.1; omega⟩ (hS.jb ja46).1 (hS.jb ja46).2 (by decide) rfl rfl (rest := []) rfl (Nat.le_of_ble_eq_true rfl) dX16_both_29 (fun σ47 w hq => ?_) (fun σ9 E9 hx9 => hX σ9 E9 _ _ _ (tb_out K.2.2.2.2.2 rfl) hx9.1 hx9.2.1 hx9.2.2)
  obtain ⟨r48, rfl, gr48, h, hGσ47, hS⟩ := hq
  intro H locs ls hH hl hc
  refine W.eq (g2 := F0 m 32 ls [.int (i32 r48)]) (rfl) ?_
  try dsimp only at h
  refine lv_istore_n (lv' := [(2, .int (i32 r48)), (0, .ref rm), (1, .int (i32 v1))]) B.1 B.2.1 dX16_both_32 rfl hl (by decide) rfl (fun ls hl => ?_)
  refine lv_aload_n B.1 B.2.1 dX16_both_33 rfl (lv_at hl 1 rfl) ?_
  refine lv_iload_n B.1 B.2.1 dX16_both_34 rfl (lv_at hl 2 rfl) ?_
  refine c_V B hH hl hc K.2.2.1 (C := RX16) (T := TX16) (N := 123) (ci := 16) (As := [.int (i32 v1)]) (hRC.2.2.2.1 σ47 v1 g1 hGσ47 hS h) wc_X16_147 1 hd_X16_compared ⟨by have := K.2.2.2.1; omega, by have := K.2.2.2.2.1; omega⟩ hS.1.1 hS.1.2 (by decide) rfl rfl (rest := []) rfl (Nat.le_of_ble_eq_true rfl) dX16_both_35 (fun σ49 w hq => ?_) (fun σ9 E9 hx9 => hX σ9 E9 _ _ _ (tb_out K.2.2.2.2.2 rfl) hx9.1 hx9.2.1 hx9.2.2)
  obtain ⟨rfl, h, hGσ49, hS⟩ := hq
  intro H locs ls hH hl hc
  refine W.eq (g2 := F0 m 38 ls []) (rfl) ?_
  try dsimp only at h
  refine lv_aload_n B.1 B.2.1 dX16_both_38 rfl (lv_at hl 1 rfl) ?_
  refine r_getp B hH hS 18 (by decide) wf_X16_118 rfl rfl dX16_both_39 ?_
  refine lv_bipush (v := i32 16) B.1 B.2.1 dX16_both_42 (by decide) ?_
  refine lv_lconst (v := 0) B.1 B.2.1 dX16_both_44 (by decide) ?_
  obtain ⟨a50, ea50, ja50, h⟩ := h
  refine W.eq (g2 := F0 m 45 ls [.long 0, .int (i32 16), .ref a50]) (by rw [ea50]; rfl) ?_
  refine c_V B hH hl hc K.2.2.1 (C := RX15) (T := TX15) (N := 20) (ci := 15) (As := [.int (i32 16), .long 0]) (ok_X15_step ja50 K.2.1 σ49 16 0 (by unfold rng; omega) hGσ49 hS h) wc_X16_131 2 hd_X15_step ⟨by have := K.2.2.2.1; omega, by have := K.2.2.2.2.1; omega⟩ (hS.jb ja50).1 (hS.jb ja50).2 (by decide) rfl rfl (rest := []) rfl (Nat.le_of_ble_eq_true rfl) dX16_both_45 (fun σ51 w hq => ?_) (fun σ9 E9 hx9 => hX σ9 E9 _ _ _ (tb_out K.2.2.2.2.2 rfl) hx9.1 hx9.2.1 hx9.2.2)
  obtain ⟨r52, rfl, gr52, h, hGσ51, hS⟩ := hq
  intro H locs ls hH hl hc
  refine W.eq (g2 := F0 m 48 ls [.int (i32 r52)]) (rfl) ?_
  try dsimp only at h
  refine lv_pop B.1 B.2.1 dX16_both_48 rfl ?_
  refine lv_aload_n B.1 B.2.1 dX16_both_49 rfl (lv_at hl 1 rfl) ?_
  refine r_getp B hH hS 18 (by decide) wf_X16_118 rfl rfl dX16_both_50 ?_
  refine lv_bipush (v := i32 15) B.1 B.2.1 dX16_both_53 (by decide) ?_
  refine lv_lconst (v := 0) B.1 B.2.1 dX16_both_55 (by decide) ?_
  obtain ⟨a53, ea53, ja53, h⟩ := h
  refine W.eq (g2 := F0 m 56 ls [.long 0, .int (i32 15), .ref a53]) (by rw [ea53]; rfl) ?_
  refine c_V B hH hl hc K.2.2.1 (C := RX15) (T := TX15) (N := 20) (ci := 15) (As := [.int (i32 15), .long 0]) (ok_X15_step ja53 K.2.1 σ51 15 0 (by unfold rng; omega) hGσ51 hS h) wc_X16_131 2 hd_X15_step ⟨by have := K.2.2.2.1; omega, by have := K.2.2.2.2.1; omega⟩ (hS.jb ja53).1 (hS.jb ja53).2 (by decide) rfl rfl (rest := []) rfl (Nat.le_of_ble_eq_true rfl) dX16_both_56 (fun σ54 w hq => ?_) (fun σ9 E9 hx9 => hX σ9 E9 _ _ _ (tb_out K.2.2.2.2.2 rfl) hx9.1 hx9.2.1 hx9.2.2)
  obtain ⟨r55, rfl, gr55, h, hGσ54, hS⟩ := hq
  intro H locs ls hH hl hc
  refine W.eq (g2 := F0 m 59 ls [.int (i32 r55)]) (rfl) ?_
  try dsimp only at h
  refine lv_istore_n (lv' := [(3, .int (i32 r55)), (2, .int (i32 r48)), (0, .ref rm), (1, .int (i32 v1))]) B.1 B.2.1 dX16_both_59 rfl hl (by decide) rfl (fun ls hl => ?_)
  refine lv_aload_n B.1 B.2.1 dX16_both_60 rfl (lv_at hl 2 rfl) ?_
  refine r_getp B hH hS 18 (by decide) wf_X16_118 rfl rfl dX16_both_61 ?_
  obtain ⟨a56, ea56, ja56, h⟩ := h
  refine W.eq (g2 := F0 m 64 ls [.ref a56]) (by rw [ea56]; rfl) ?_
  refine n_arr B hH hS ja56 16 (kd := 101) (n := 6000) (by decide) (by decide) (List.mem_of_getElem? (i := 16) rfl) rfl dX16_both_64 ?_
  refine lv_iload_n B.1 B.2.1 dX16_both_67 rfl (lv_at hl 1 rfl) ?_
  refine lv_aload_n B.1 B.2.1 dX16_both_68 rfl (lv_at hl 2 rfl) ?_
  refine r_getp B hH hS 18 (by decide) wf_X16_118 rfl rfl dX16_both_69 ?_
  refine lv_iconst (v := i32 0) B.1 B.2.1 dX16_both_72 (by decide) ?_
  refine lv_lconst (v := 0) B.1 B.2.1 dX16_both_73 (by decide) ?_
  obtain ⟨a57, ea57, ja57, h⟩ := h
  refine W.eq (g2 := F0 m 74 ls [.long 0, .int (i32 0), .ref a57, .int (i32 r48), .ref (jx a56 16)]) (by rw [ea57]; rfl) ?_
  refine c_V B hH hl hc K.2.2.1 (C := RX15) (T := TX15) (N := 20) (ci := 15) (As := [.int (i32 0), .long 0]) (ok_X15_step ja57 K.2.1 σ54 0 0 (by unfold rng; omega) hGσ54 hS h) wc_X16_131 2 hd_X15_step ⟨by have := K.2.2.2.1; omega, by have := K.2.2.2.2.1; omega⟩ (hS.jb ja57).1 (hS.jb ja57).2 (by decide) rfl rfl (rest := [.int (i32 r48), .ref (jx a56 16)]) rfl (Nat.le_of_ble_eq_true rfl) dX16_both_74 (fun σ58 w hq => ?_) (fun σ9 E9 hx9 => hX σ9 E9 _ _ _ (tb_out K.2.2.2.2.2 rfl) hx9.1 hx9.2.1 hx9.2.2)
  obtain ⟨r59, rfl, gr59, h, hGσ58, hS⟩ := hq
  intro H locs ls hH hl hc
  refine W.eq (g2 := F0 m 77 ls [.int (i32 r59), .int (i32 r48), .ref (jx a56 16)]) (rfl) ?_
  try dsimp only at h
  refine lv_i2l B.1 B.2.1 dX16_both_77 (i32_i64 gr59) ?_
  obtain ⟨q6, h⟩ := h
  obtain ⟨σ60, eσ60⟩ : ∃ z, z = pJ σ58 (jx a56 16) r48.toNat (Int64.ofInt r59) := ⟨_, rfl⟩
  have h := h σ60 eσ60
  refine x_last B K.2.1 hH (hS.ja ja56 (k := 16) (kd := 101) (n := 6000) (by decide)) (by decide) q6 dX16_both_78 (fun H locs hH => ?_)
  have hH : Hd D cA A s (pJ σ58 (jx a56 16) r48.toNat (Int64.ofInt r59)) H locs := hH
  rw [← eσ60] at hH
  have hGσ60 : RG σ60 := by rw [eσ60]; exact hGσ58.pJ
  have hS : Shp dm ra jx rm σ60 := by rw [eσ60]; exact hS
  have hc : CB n0 s0 σ60 := by rw [eσ60]; exact hc
  rw [show gc σ58 = gc σ60 by rw [eσ60], show gs σ58 = gs σ60 by rw [eσ60]]
  refine lv_aload_n B.1 B.2.1 dX16_both_79 rfl (lv_at hl 2 rfl) ?_
  refine r_getp B hH hS 18 (by decide) wf_X16_118 rfl rfl dX16_both_80 ?_
  obtain ⟨a61, ea61, ja61, h⟩ := h
  refine W.eq (g2 := F0 m 83 ls [.ref a61]) (by rw [ea61]; rfl) ?_
  refine n_arr B hH hS ja61 16 (kd := 101) (n := 6000) (by decide) (by decide) (List.mem_of_getElem? (i := 16) rfl) rfl dX16_both_83 ?_
  refine lv_iload_n B.1 B.2.1 dX16_both_86 rfl (lv_at hl 0 rfl) ?_
  refine lv_aload_n B.1 B.2.1 dX16_both_87 rfl (lv_at hl 2 rfl) ?_
  refine r_getp B hH hS 18 (by decide) wf_X16_118 rfl rfl dX16_both_88 ?_
  obtain ⟨a62, ea62, ja62, h⟩ := h
  refine W.eq (g2 := F0 m 91 ls [.ref a62, .int (i32 r55), .ref (jx a61 16)]) (by rw [ea62]; rfl) ?_
  refine n_geti B hH hS ja62 17 (by decide) (List.mem_of_getElem? (i := 17) rfl) rfl dX16_both_91 ?_
  refine lv_i2l B.1 B.2.1 dX16_both_94 (i32_i64 (hGσ60 _ _)) ?_
  obtain ⟨q10, h⟩ := h
  obtain ⟨σ63, eσ63⟩ : ∃ z, z = pJ σ60 (jx a61 16) r55.toNat (Int64.ofInt (gI σ60 a62 17)) := ⟨_, rfl⟩
  have h := h σ63 eσ63
  refine x_last B K.2.1 hH (hS.ja ja61 (k := 16) (kd := 101) (n := 6000) (by decide)) (by decide) q10 dX16_both_95 (fun H locs hH => ?_)
  have hH : Hd D cA A s (pJ σ60 (jx a61 16) r55.toNat (Int64.ofInt (gI σ60 a62 17))) H locs := hH
  rw [← eσ63] at hH
  have hGσ63 : RG σ63 := by rw [eσ63]; exact hGσ60.pJ
  have hS : Shp dm ra jx rm σ63 := by rw [eσ63]; exact hS
  have hc : CB n0 s0 σ63 := by rw [eσ63]; exact hc
  rw [show gc σ60 = gc σ63 by rw [eσ63], show gs σ60 = gs σ63 by rw [eσ63]]
  refine lv_aload_n B.1 B.2.1 dX16_both_96 rfl (lv_at hl 2 rfl) ?_
  refine c_V B hH hl hc K.2.2.1 (C := RX16) (T := TX16) (N := 123) (ci := 16) (As := []) (ok_X16_see K.2.1 σ63 hGσ63 hS h) wc_X16_76 0 hd_X16_see ⟨by have := K.2.2.2.1; omega, by have := K.2.2.2.2.1; omega⟩ hS.1.1 hS.1.2 (by decide) rfl rfl (rest := []) rfl (Nat.le_of_ble_eq_true rfl) dX16_both_97 (fun σ64 w hq => ?_) (fun σ9 E9 hx9 => hX σ9 E9 _ _ _ (tb_out K.2.2.2.2.2 rfl) hx9.1 hx9.2.1 hx9.2.2)
  obtain ⟨rfl, h, hGσ64, hS⟩ := hq
  intro H locs ls hH hl hc
  refine W.eq (g2 := F0 m 100 ls []) (rfl) ?_
  try dsimp only at h
  refine lv_goto (tgt := 9) B.1 B.2.1 dX16_both_100 (by decide) ?_
  exact hK9 _ _ g1 h hGσ64 hS _ _ _ hH (lv_sub (l' := [(0, .ref rm), (1, .int (i32 v1))]) hl [2, 3] rfl) hc
set_option maxRecDepth 20000 in
theorem a_X16_both_9 {Q : Sg → Unit → Prop} {X : Sg → String → Prop} {fr0 lw0 : Nat} {rc : Nat → Int → Sg → (Sg → Unit → Prop) → (Sg → String → Prop) → Prop} (K : MC R p s m args c cX16_both 4 RX16 D cA tys A n0 s0 (fr0 + 1) (lw0 + 60) []) (hRC : HRC l D cA tys A dm ra jx rm fr0 lw0 rc) (hf0 : 40 ≤ fr0) (hl0 : 4000 ≤ lw0) (hQ : HQV p l e R s m args below meth c cX16_both D cA A n0 s0 QM dm ra jx rm Q) (hX : HX p l e R s m args below meth c 4 D cA A n0 s0 QM dm ra jx rm X) {K9 : Sg → Int → Prop} (hK9 : ∀ (σ : Sg) (v1 : Int) (g1 : rng v1), K9 σ v1 → RG σ → Shp dm ra jx rm σ → JJ p l e R s m args below meth c 4 D cA A n0 s0 QM σ 9 [(0, .ref rm), (1, .int (i32 v1))] []) : ∀ (σ : Sg) (v1 : Int) (g1 : rng v1), w_X16_both_9 ra jx rm rc K9 Q X σ v1 → RG σ → Shp dm ra jx rm σ → JJ p l e R s m args below meth c 4 D cA A n0 s0 QM σ 9 [(0, .ref rm), (1, .int (i32 v1))] [] := by
  intro σ v1 g1 h hGσ hS H locs ls hH hl hc
  have B := K.1
  unfold w_X16_both_9 at h
  refine lv_aload_n B.1 B.2.1 dX16_both_9 rfl (lv_at hl 0 rfl) ?_
  refine r_geti B hH hS 9 (by decide) wf_X16_38 rfl rfl dX16_both_10 ?_
  refine lv_bipush (v := i32 38) B.1 B.2.1 dX16_both_13 (by decide) ?_
  refine lv_icmp_ne (tgt := 103) B.1 B.2.1 dX16_both_15 (by decide) (fun h9 => ?_) (fun h9 => ?_)
  · rw [if_pos (fun q => h9 ((i32_eq (hGσ _ _) (by unfold rng; omega)).mpr q))] at h
    exact a_X16_both_103 K hRC hf0 hl0 hQ hX _ h hGσ hS _ _ _ hH (lv_sub (l' := [(0, .ref rm)]) hl [0] rfl) hc
  · rw [if_neg (fun q => q ((i32_eq (hGσ _ _) (by unfold rng; omega)).mp h9))] at h
    exact a_X16_both_18 K hRC hf0 hl0 hQ hX hK9 _ _ g1 h hGσ hS _ _ _ hH (lv_sub (l' := [(0, .ref rm), (1, .int (i32 v1))]) hl [0, 1] rfl) hc
theorem al_X16_both_9 {Q : Sg → Unit → Prop} {X : Sg → String → Prop} {fr0 lw0 : Nat} {rc : Nat → Int → Sg → (Sg → Unit → Prop) → (Sg → String → Prop) → Prop} (K : MC R p s m args c cX16_both 4 RX16 D cA tys A n0 s0 (fr0 + 1) (lw0 + 60) []) (hRC : HRC l D cA tys A dm ra jx rm fr0 lw0 rc) (hf0 : 40 ≤ fr0) (hl0 : 4000 ≤ lw0) (hQ : HQV p l e R s m args below meth c cX16_both D cA A n0 s0 QM dm ra jx rm Q) (hX : HX p l e R s m args below meth c 4 D cA A n0 s0 QM dm ra jx rm X) : ∀ (n : Nat), ∀ (σ : Sg) (v1 : Int) (g1 : rng v1), wl_X16_both_9 ra jx rm rc Q X n σ v1 → RG σ → Shp dm ra jx rm σ → JJ p l e R s m args below meth c 4 D cA A n0 s0 QM σ 9 [(0, .ref rm), (1, .int (i32 v1))] [] := by
  intro n
  induction n with
  | zero => intro σ v1 g1 h; exact h.elim
  | succ n ih => exact fun σ v1 g1 h => a_X16_both_9 K hRC hf0 hl0 hQ hX ih σ v1 g1 h
set_option maxRecDepth 20000 in
theorem a_X16_both_0 {Q : Sg → Unit → Prop} {X : Sg → String → Prop} {fr0 lw0 : Nat} {rc : Nat → Int → Sg → (Sg → Unit → Prop) → (Sg → String → Prop) → Prop} (K : MC R p s m args c cX16_both 4 RX16 D cA tys A n0 s0 (fr0 + 1) (lw0 + 60) []) (hRC : HRC l D cA tys A dm ra jx rm fr0 lw0 rc) (hf0 : 40 ≤ fr0) (hl0 : 4000 ≤ lw0) (hQ : HQV p l e R s m args below meth c cX16_both D cA A n0 s0 QM dm ra jx rm Q) (hX : HX p l e R s m args below meth c 4 D cA A n0 s0 QM dm ra jx rm X) : ∀ (σ : Sg) (v1 : Int) (g1 : rng v1), w_X16_both_0 ra jx rm rc Q X σ v1 → RG σ → Shp dm ra jx rm σ → JJ p l e R s m args below meth c 4 D cA A n0 s0 QM σ 0 [(0, .ref rm), (1, .int (i32 v1))] [] := by
  intro σ v1 g1 h hGσ hS H locs ls hH hl hc
  have B := K.1
  unfold w_X16_both_0 at h
  refine lv_aload_n B.1 B.2.1 dX16_both_0 rfl (lv_at hl 0 rfl) ?_
  refine lv_iload_n B.1 B.2.1 dX16_both_1 rfl (lv_at hl 1 rfl) ?_
  refine c_V B hH hl hc K.2.2.1 (C := RX16) (T := TX16) (N := 123) (ci := 16) (As := [.int (i32 v1)]) (hRC.2.2.2.1 σ v1 g1 hGσ hS h) wc_X16_147 1 hd_X16_compared ⟨by have := K.2.2.2.1; omega, by have := K.2.2.2.2.1; omega⟩ hS.1.1 hS.1.2 (by decide) rfl rfl (rest := []) rfl (Nat.le_of_ble_eq_true rfl) dX16_both_2 (fun σ65 w hq => ?_) (fun σ9 E9 hx9 => hX σ9 E9 _ _ _ (tb_out K.2.2.2.2.2 rfl) hx9.1 hx9.2.1 hx9.2.2)
  obtain ⟨rfl, h, hGσ65, hS⟩ := hq
  intro H locs ls hH hl hc
  refine W.eq (g2 := F0 m 5 ls []) (rfl) ?_
  try dsimp only at h
  refine lv_aload_n B.1 B.2.1 dX16_both_5 rfl (lv_at hl 0 rfl) ?_
  refine c_V B hH hl hc K.2.2.1 (C := RX16) (T := TX16) (N := 123) (ci := 16) (As := []) (ok_X16_see K.2.1 σ65 hGσ65 hS h) wc_X16_76 0 hd_X16_see ⟨by have := K.2.2.2.1; omega, by have := K.2.2.2.2.1; omega⟩ hS.1.1 hS.1.2 (by decide) rfl rfl (rest := []) rfl (Nat.le_of_ble_eq_true rfl) dX16_both_6 (fun σ66 w hq => ?_) (fun σ9 E9 hx9 => hX σ9 E9 _ _ _ (tb_out K.2.2.2.2.2 rfl) hx9.1 hx9.2.1 hx9.2.2)
  obtain ⟨rfl, h, hGσ66, hS⟩ := hq
  intro H locs ls hH hl hc
  refine W.eq (g2 := F0 m 9 ls []) (rfl) ?_
  try dsimp only at h
  obtain ⟨n9, h⟩ := h
  exact al_X16_both_9 K hRC hf0 hl0 hQ hX n9 _ _ g1 h hGσ66 hS _ _ _ hH (lv_sub (l' := [(0, .ref rm), (1, .int (i32 v1))]) hl [0, 1] rfl) hc
theorem ok_X16_both_r {fr0 lw0 : Nat} {rc : Nat → Int → Sg → (Sg → Unit → Prop) → (Sg → String → Prop) → Prop} (hRC : HRC l D cA tys A dm ra jx rm fr0 lw0 rc) (hf0 : 40 ≤ fr0) (hl0 : 4000 ≤ lw0) (hT : Tys cA tys) {Q : Sg → Unit → Prop} {X : Sg → String → Prop} (σ : Sg) (v1 : Int) (g1 : rng v1) (hG : RG σ) (hS : Shp dm ra jx rm σ) (h : w_X16_both_0 ra jx rm rc Q X σ v1) : Ok l D cA tys A yX16_both (.code yX16_both cX16_both 4 none) (fr0 + 1) (lw0 + 60) [.ref rm, .int (i32 v1)] σ (QnV dm ra jx rm Q) (QxR dm ra jx rm X) := by
  exact ok_V (plainFor_of_name (by decide)) (by exact Nat.le_of_ble_eq_true rfl) hT (fun p e R s m args below meth c K hQ hX H locs ls hH hl hc => a_X16_both_0 K hRC hf0 hl0 hQ hX σ v1 g1 h hG hS H locs ls hH (lv_sub (l' := [(0, .ref rm), (1, .int (i32 v1))]) hl [0, 1] rfl) hc)
theorem dX16_compared_0 : decode cX16_compared 0 = .ok (.aload_n 0, 1) := by decide +kernel
theorem dX16_compared_1 : decode cX16_compared 1 = .ok (.iload_n 1, 1) := by decide +kernel
theorem dX16_compared_2 : decode cX16_compared 2 = .ok (.invokevirtual 150, 3) := by decide +kernel
theorem dX16_compared_5 : decode cX16_compared 5 = .ok (.aload_n 0, 1) := by decide +kernel
theorem dX16_compared_6 : decode cX16_compared 6 = .ok (.invokevirtual 76, 3) := by decide +kernel
theorem dX16_compared_9 : decode cX16_compared 9 = .ok (.aload_n 0, 1) := by decide +kernel
theorem dX16_compared_10 : decode cX16_compared 10 = .ok (.getfield 38, 3) := by decide +kernel
theorem dX16_compared_13 : decode cX16_compared 13 = .ok (.bipush 60, 2) := by decide +kernel
theorem dX16_compared_15 : decode cX16_compared 15 = .ok (.if_icmp .eq 21, 3) := by decide +kernel
theorem dX16_compared_18 : decode cX16_compared 18 = .ok (.aload_n 0, 1) := by decide +kernel
theorem dX16_compared_19 : decode cX16_compared 19 = .ok (.getfield 38, 3) := by decide +kernel
theorem dX16_compared_22 : decode cX16_compared 22 = .ok (.bipush 62, 2) := by decide +kernel
theorem dX16_compared_24 : decode cX16_compared 24 = .ok (.if_icmp .eq 12, 3) := by decide +kernel
theorem dX16_compared_27 : decode cX16_compared 27 = .ok (.aload_n 0, 1) := by decide +kernel
theorem dX16_compared_28 : decode cX16_compared 28 = .ok (.getfield 38, 3) := by decide +kernel
theorem dX16_compared_31 : decode cX16_compared 31 = .ok (.bipush 61, 2) := by decide +kernel
theorem dX16_compared_33 : decode cX16_compared 33 = .ok (.if_icmp .ne 53, 3) := by decide +kernel
theorem dX16_compared_36 : decode cX16_compared 36 = .ok (.aload_n 0, 1) := by decide +kernel
theorem dX16_compared_37 : decode cX16_compared 37 = .ok (.getfield 38, 3) := by decide +kernel
theorem dX16_compared_40 : decode cX16_compared 40 = .ok (.bipush 60, 2) := by decide +kernel
theorem dX16_compared_42 : decode cX16_compared 42 = .ok (.if_icmp .ne 8, 3) := by decide +kernel
theorem dX16_compared_45 : decode cX16_compared 45 = .ok (.bipush 8, 2) := by decide +kernel
theorem dX16_compared_47 : decode cX16_compared 47 = .ok (.goto 19, 3) := by decide +kernel
theorem dX16_compared_50 : decode cX16_compared 50 = .ok (.aload_n 0, 1) := by decide +kernel
theorem dX16_compared_51 : decode cX16_compared 51 = .ok (.getfield 38, 3) := by decide +kernel
theorem dX16_compared_54 : decode cX16_compared 54 = .ok (.bipush 62, 2) := by decide +kernel
theorem dX16_compared_56 : decode cX16_compared 56 = .ok (.if_icmp .ne 8, 3) := by decide +kernel
theorem dX16_compared_59 : decode cX16_compared 59 = .ok (.bipush 9, 2) := by decide +kernel
theorem dX16_compared_61 : decode cX16_compared 61 = .ok (.goto 5, 3) := by decide +kernel
theorem dX16_compared_64 : decode cX16_compared 64 = .ok (.bipush 10, 2) := by decide +kernel
theorem dX16_compared_66 : decode cX16_compared 66 = .ok (.istore_n 2, 1) := by decide +kernel
theorem dX16_compared_67 : decode cX16_compared 67 = .ok (.aload_n 0, 1) := by decide +kernel
theorem dX16_compared_68 : decode cX16_compared 68 = .ok (.invokevirtual 84, 3) := by decide +kernel
theorem dX16_compared_71 : decode cX16_compared 71 = .ok (.aload_n 0, 1) := by decide +kernel
theorem dX16_compared_72 : decode cX16_compared 72 = .ok (.iload_n 1, 1) := by decide +kernel
theorem dX16_compared_73 : decode cX16_compared 73 = .ok (.invokevirtual 150, 3) := by decide +kernel
theorem dX16_compared_76 : decode cX16_compared 76 = .ok (.aload_n 0, 1) := by decide +kernel
theorem dX16_compared_77 : decode cX16_compared 77 = .ok (.getfield 118, 3) := by decide +kernel
theorem dX16_compared_80 : decode cX16_compared 80 = .ok (.iload_n 2, 1) := by decide +kernel
theorem dX16_compared_81 : decode cX16_compared 81 = .ok (.lconst 0, 1) := by decide +kernel
theorem dX16_compared_82 : decode cX16_compared 82 = .ok (.invokevirtual 131, 3) := by decide +kernel
theorem dX16_compared_85 : decode cX16_compared 85 = .ok (.pop, 1) := by decide +kernel
theorem dX16_compared_86 : decode cX16_compared 86 = .ok (.return_, 1) := by decide +kernel
set_option maxRecDepth 20000 in
theorem a_X16_compared_86 {Q : Sg → Unit → Prop} {X : Sg → String → Prop} {fr0 lw0 : Nat} {rc : Nat → Int → Sg → (Sg → Unit → Prop) → (Sg → String → Prop) → Prop} (K : MC R p s m args c cX16_compared 3 RX16 D cA tys A n0 s0 (fr0 + 1) (lw0 + 60) []) (hRC : HRC l D cA tys A dm ra jx rm fr0 lw0 rc) (hf0 : 40 ≤ fr0) (hl0 : 4000 ≤ lw0) (hQ : HQV p l e R s m args below meth c cX16_compared D cA A n0 s0 QM dm ra jx rm Q) (hX : HX p l e R s m args below meth c 3 D cA A n0 s0 QM dm ra jx rm X) : ∀ (σ : Sg), w_X16_compared_86 ra jx rm rc Q X σ → RG σ → Shp dm ra jx rm σ → JJ p l e R s m args below meth c 3 D cA A n0 s0 QM σ 86 [(0, .ref rm)] [] := by
  intro σ h hGσ hS H locs ls hH hl hc
  have B := K.1
  unfold w_X16_compared_86 at h
  exact hQ _ _ _ _ _ dX16_compared_86 hH hc h hGσ hS
set_option maxRecDepth 20000 in
theorem a_X16_compared_66 {Q : Sg → Unit → Prop} {X : Sg → String → Prop} {fr0 lw0 : Nat} {rc : Nat → Int → Sg → (Sg → Unit → Prop) → (Sg → String → Prop) → Prop} (K : MC R p s m args c cX16_compared 3 RX16 D cA tys A n0 s0 (fr0 + 1) (lw0 + 60) []) (hRC : HRC l D cA tys A dm ra jx rm fr0 lw0 rc) (hf0 : 40 ≤ fr0) (hl0 : 4000 ≤ lw0) (hQ : HQV p l e R s m args below meth c cX16_compared D cA A n0 s0 QM dm ra jx rm Q) (hX : HX p l e R s m args below meth c 3 D cA A n0 s0 QM dm ra jx rm X) : ∀ (σ : Sg) (v1 : Int) (u0 : Int) (g1 : rng v1) (gu0 : rng u0), w_X16_compared_66 ra jx rm rc Q X σ v1 u0 → RG σ → Shp dm ra jx rm σ → JJ p l e R s m args below meth c 3 D cA A n0 s0 QM σ 66 [(0, .ref rm), (1, .int (i32 v1))] [.int (i32 u0)] := by
  intro σ v1 u0 g1 gu0 h hGσ hS H locs ls hH hl hc
  have B := K.1
  unfold w_X16_compared_66 at h
  refine lv_istore_n (lv' := [(2, .int (i32 u0)), (0, .ref rm), (1, .int (i32 v1))]) B.1 B.2.1 dX16_compared_66 rfl hl (by decide) rfl (fun ls hl => ?_)
  refine lv_aload_n B.1 B.2.1 dX16_compared_67 rfl (lv_at hl 1 rfl) ?_
  refine c_V B hH hl hc K.2.2.1 (C := RX16) (T := TX16) (N := 123) (ci := 16) (As := []) (ok_X16_take K.2.1 σ hGσ hS h) wc_X16_84 0 hd_X16_take ⟨by have := K.2.2.2.1; omega, by have := K.2.2.2.2.1; omega⟩ hS.1.1 hS.1.2 (by decide) rfl rfl (rest := []) rfl (Nat.le_of_ble_eq_true rfl) dX16_compared_68 (fun σ15 w hq => ?_) (fun σ9 E9 hx9 => hX σ9 E9 _ _ _ (tb_out K.2.2.2.2.2 rfl) hx9.1 hx9.2.1 hx9.2.2)
  obtain ⟨rfl, h, hGσ15, hS⟩ := hq
  intro H locs ls hH hl hc
  refine W.eq (g2 := F0 m 71 ls []) (rfl) ?_
  try dsimp only at h
  refine lv_aload_n B.1 B.2.1 dX16_compared_71 rfl (lv_at hl 1 rfl) ?_
  refine lv_iload_n B.1 B.2.1 dX16_compared_72 rfl (lv_at hl 2 rfl) ?_
  refine c_V B hH hl hc K.2.2.1 (C := RX16) (T := TX16) (N := 123) (ci := 16) (As := [.int (i32 v1)]) (hRC.2.2.2.2.1 σ15 v1 g1 hGσ15 hS h) wc_X16_150 1 hd_X16_sum ⟨by have := K.2.2.2.1; omega, by have := K.2.2.2.2.1; omega⟩ hS.1.1 hS.1.2 (by decide) rfl rfl (rest := []) rfl (Nat.le_of_ble_eq_true rfl) dX16_compared_73 (fun σ16 w hq => ?_) (fun σ9 E9 hx9 => hX σ9 E9 _ _ _ (tb_out K.2.2.2.2.2 rfl) hx9.1 hx9.2.1 hx9.2.2)
  obtain ⟨rfl, h, hGσ16, hS⟩ := hq
  intro H locs ls hH hl hc
  refine W.eq (g2 := F0 m 76 ls []) (rfl) ?_
  try dsimp only at h
  refine lv_aload_n B.1 B.2.1 dX16_compared_76 rfl (lv_at hl 1 rfl) ?_
  refine r_getp B hH hS 18 (by decide) wf_X16_118 rfl rfl dX16_compared_77 ?_
  refine lv_iload_n B.1 B.2.1 dX16_compared_80 rfl (lv_at hl 0 rfl) ?_
  refine lv_lconst (v := 0) B.1 B.2.1 dX16_compared_81 (by decide) ?_
  obtain ⟨a17, ea17, ja17, h⟩ := h
  refine W.eq (g2 := F0 m 82 ls [.long 0, .int (i32 u0), .ref a17]) (by rw [ea17]; rfl) ?_
  refine c_V B hH hl hc K.2.2.1 (C := RX15) (T := TX15) (N := 20) (ci := 15) (As := [.int (i32 u0), .long 0]) (ok_X15_step ja17 K.2.1 σ16 u0 0 gu0 hGσ16 hS h) wc_X16_131 2 hd_X15_step ⟨by have := K.2.2.2.1; omega, by have := K.2.2.2.2.1; omega⟩ (hS.jb ja17).1 (hS.jb ja17).2 (by decide) rfl rfl (rest := []) rfl (Nat.le_of_ble_eq_true rfl) dX16_compared_82 (fun σ18 w hq => ?_) (fun σ9 E9 hx9 => hX σ9 E9 _ _ _ (tb_out K.2.2.2.2.2 rfl) hx9.1 hx9.2.1 hx9.2.2)
  obtain ⟨r19, rfl, gr19, h, hGσ18, hS⟩ := hq
  intro H locs ls hH hl hc
  refine W.eq (g2 := F0 m 85 ls [.int (i32 r19)]) (rfl) ?_
  try dsimp only at h
  refine lv_pop B.1 B.2.1 dX16_compared_85 rfl ?_
  exact a_X16_compared_86 K hRC hf0 hl0 hQ hX _ h hGσ18 hS _ _ _ hH (lv_sub (l' := [(0, .ref rm)]) hl [1] rfl) hc
set_option maxRecDepth 20000 in
theorem a_X16_compared_64 {Q : Sg → Unit → Prop} {X : Sg → String → Prop} {fr0 lw0 : Nat} {rc : Nat → Int → Sg → (Sg → Unit → Prop) → (Sg → String → Prop) → Prop} (K : MC R p s m args c cX16_compared 3 RX16 D cA tys A n0 s0 (fr0 + 1) (lw0 + 60) []) (hRC : HRC l D cA tys A dm ra jx rm fr0 lw0 rc) (hf0 : 40 ≤ fr0) (hl0 : 4000 ≤ lw0) (hQ : HQV p l e R s m args below meth c cX16_compared D cA A n0 s0 QM dm ra jx rm Q) (hX : HX p l e R s m args below meth c 3 D cA A n0 s0 QM dm ra jx rm X) : ∀ (σ : Sg) (v1 : Int) (g1 : rng v1), w_X16_compared_64 ra jx rm rc Q X σ v1 → RG σ → Shp dm ra jx rm σ → JJ p l e R s m args below meth c 3 D cA A n0 s0 QM σ 64 [(0, .ref rm), (1, .int (i32 v1))] [] := by
  intro σ v1 g1 h hGσ hS H locs ls hH hl hc
  have B := K.1
  unfold w_X16_compared_64 at h
  refine lv_bipush (v := i32 10) B.1 B.2.1 dX16_compared_64 (by decide) ?_
  exact a_X16_compared_66 K hRC hf0 hl0 hQ hX _ _ _ g1 (by unfold rng; omega) h hGσ hS _ _ _ hH (lv_sub (l' := [(0, .ref rm), (1, .int (i32 v1))]) hl [0, 1] rfl) hc
set_option maxRecDepth 20000 in
theorem a_X16_compared_59 {Q : Sg → Unit → Prop} {X : Sg → String → Prop} {fr0 lw0 : Nat} {rc : Nat → Int → Sg → (Sg → Unit → Prop) → (Sg → String → Prop) → Prop} (K : MC R p s m args c cX16_compared 3 RX16 D cA tys A n0 s0 (fr0 + 1) (lw0 + 60) []) (hRC : HRC l D cA tys A dm ra jx rm fr0 lw0 rc) (hf0 : 40 ≤ fr0) (hl0 : 4000 ≤ lw0) (hQ : HQV p l e R s m args below meth c cX16_compared D cA A n0 s0 QM dm ra jx rm Q) (hX : HX p l e R s m args below meth c 3 D cA A n0 s0 QM dm ra jx rm X) : ∀ (σ : Sg) (v1 : Int) (g1 : rng v1), w_X16_compared_59 ra jx rm rc Q X σ v1 → RG σ → Shp dm ra jx rm σ → JJ p l e R s m args below meth c 3 D cA A n0 s0 QM σ 59 [(0, .ref rm), (1, .int (i32 v1))] [] := by
  intro σ v1 g1 h hGσ hS H locs ls hH hl hc
  have B := K.1
  unfold w_X16_compared_59 at h
  refine lv_bipush (v := i32 9) B.1 B.2.1 dX16_compared_59 (by decide) ?_
  refine lv_goto (tgt := 66) B.1 B.2.1 dX16_compared_61 (by decide) ?_
  exact a_X16_compared_66 K hRC hf0 hl0 hQ hX _ _ _ g1 (by unfold rng; omega) h hGσ hS _ _ _ hH (lv_sub (l' := [(0, .ref rm), (1, .int (i32 v1))]) hl [0, 1] rfl) hc
set_option maxRecDepth 20000 in
theorem a_X16_compared_50 {Q : Sg → Unit → Prop} {X : Sg → String → Prop} {fr0 lw0 : Nat} {rc : Nat → Int → Sg → (Sg → Unit → Prop) → (Sg → String → Prop) → Prop} (K : MC R p s m args c cX16_compared 3 RX16 D cA tys A n0 s0 (fr0 + 1) (lw0 + 60) []) (hRC : HRC l D cA tys A dm ra jx rm fr0 lw0 rc) (hf0 : 40 ≤ fr0) (hl0 : 4000 ≤ lw0) (hQ : HQV p l e R s m args below meth c cX16_compared D cA A n0 s0 QM dm ra jx rm Q) (hX : HX p l e R s m args below meth c 3 D cA A n0 s0 QM dm ra jx rm X) : ∀ (σ : Sg) (v1 : Int) (g1 : rng v1), w_X16_compared_50 ra jx rm rc Q X σ v1 → RG σ → Shp dm ra jx rm σ → JJ p l e R s m args below meth c 3 D cA A n0 s0 QM σ 50 [(0, .ref rm), (1, .int (i32 v1))] [] := by
  intro σ v1 g1 h hGσ hS H locs ls hH hl hc
  have B := K.1
  unfold w_X16_compared_50 at h
  refine lv_aload_n B.1 B.2.1 dX16_compared_50 rfl (lv_at hl 0 rfl) ?_
  refine r_geti B hH hS 9 (by decide) wf_X16_38 rfl rfl dX16_compared_51 ?_
  refine lv_bipush (v := i32 62) B.1 B.2.1 dX16_compared_54 (by decide) ?_
  refine lv_icmp_ne (tgt := 64) B.1 B.2.1 dX16_compared_56 (by decide) (fun h9 => ?_) (fun h9 => ?_)
  · rw [if_pos (fun q => h9 ((i32_eq (hGσ _ _) (by unfold rng; omega)).mpr q))] at h
    exact a_X16_compared_64 K hRC hf0 hl0 hQ hX _ _ g1 h hGσ hS _ _ _ hH (lv_sub (l' := [(0, .ref rm), (1, .int (i32 v1))]) hl [0, 1] rfl) hc
  · rw [if_neg (fun q => q ((i32_eq (hGσ _ _) (by unfold rng; omega)).mp h9))] at h
    exact a_X16_compared_59 K hRC hf0 hl0 hQ hX _ _ g1 h hGσ hS _ _ _ hH (lv_sub (l' := [(0, .ref rm), (1, .int (i32 v1))]) hl [0, 1] rfl) hc
set_option maxRecDepth 20000 in
theorem a_X16_compared_45 {Q : Sg → Unit → Prop} {X : Sg → String → Prop} {fr0 lw0 : Nat} {rc : Nat → Int → Sg → (Sg → Unit → Prop) → (Sg → String → Prop) → Prop} (K : MC R p s m args c cX16_compared 3 RX16 D cA tys A n0 s0 (fr0 + 1) (lw0 + 60) []) (hRC : HRC l D cA tys A dm ra jx rm fr0 lw0 rc) (hf0 : 40 ≤ fr0) (hl0 : 4000 ≤ lw0) (hQ : HQV p l e R s m args below meth c cX16_compared D cA A n0 s0 QM dm ra jx rm Q) (hX : HX p l e R s m args below meth c 3 D cA A n0 s0 QM dm ra jx rm X) : ∀ (σ : Sg) (v1 : Int) (g1 : rng v1), w_X16_compared_45 ra jx rm rc Q X σ v1 → RG σ → Shp dm ra jx rm σ → JJ p l e R s m args below meth c 3 D cA A n0 s0 QM σ 45 [(0, .ref rm), (1, .int (i32 v1))] [] := by
  intro σ v1 g1 h hGσ hS H locs ls hH hl hc
  have B := K.1
  unfold w_X16_compared_45 at h
  refine lv_bipush (v := i32 8) B.1 B.2.1 dX16_compared_45 (by decide) ?_
  refine lv_goto (tgt := 66) B.1 B.2.1 dX16_compared_47 (by decide) ?_
  exact a_X16_compared_66 K hRC hf0 hl0 hQ hX _ _ _ g1 (by unfold rng; omega) h hGσ hS _ _ _ hH (lv_sub (l' := [(0, .ref rm), (1, .int (i32 v1))]) hl [0, 1] rfl) hc
set_option maxRecDepth 20000 in
theorem a_X16_compared_36 {Q : Sg → Unit → Prop} {X : Sg → String → Prop} {fr0 lw0 : Nat} {rc : Nat → Int → Sg → (Sg → Unit → Prop) → (Sg → String → Prop) → Prop} (K : MC R p s m args c cX16_compared 3 RX16 D cA tys A n0 s0 (fr0 + 1) (lw0 + 60) []) (hRC : HRC l D cA tys A dm ra jx rm fr0 lw0 rc) (hf0 : 40 ≤ fr0) (hl0 : 4000 ≤ lw0) (hQ : HQV p l e R s m args below meth c cX16_compared D cA A n0 s0 QM dm ra jx rm Q) (hX : HX p l e R s m args below meth c 3 D cA A n0 s0 QM dm ra jx rm X) : ∀ (σ : Sg) (v1 : Int) (g1 : rng v1), w_X16_compared_36 ra jx rm rc Q X σ v1 → RG σ → Shp dm ra jx rm σ → JJ p l e R s m args below meth c 3 D cA A n0 s0 QM σ 36 [(0, .ref rm), (1, .int (i32 v1))] [] := by
  intro σ v1 g1 h hGσ hS H locs ls hH hl hc
  have B := K.1
  unfold w_X16_compared_36 at h
  refine lv_aload_n B.1 B.2.1 dX16_compared_36 rfl (lv_at hl 0 rfl) ?_
  refine r_geti B hH hS 9 (by decide) wf_X16_38 rfl rfl dX16_compared_37 ?_
  refine lv_bipush (v := i32 60) B.1 B.2.1 dX16_compared_40 (by decide) ?_
  refine lv_icmp_ne (tgt := 50) B.1 B.2.1 dX16_compared_42 (by decide) (fun h9 => ?_) (fun h9 => ?_)
  · rw [if_pos (fun q => h9 ((i32_eq (hGσ _ _) (by unfold rng; omega)).mpr q))] at h
    exact a_X16_compared_50 K hRC hf0 hl0 hQ hX _ _ g1 h hGσ hS _ _ _ hH (lv_sub (l' := [(0, .ref rm), (1, .int (i32 v1))]) hl [0, 1] rfl) hc
  · rw [if_neg (fun q => q ((i32_eq (hGσ _ _) (by unfold rng; omega)).mp h9))] at h
    exact a_X16_compared_45 K hRC hf0 hl0 hQ hX _ _ g1 h hGσ hS _ _ _ hH (lv_sub (l' := [(0, .ref rm), (1, .int (i32 v1))]) hl [0, 1] rfl) hc
set_option maxRecDepth 20000 in
theorem a_X16_compared_27 {Q : Sg → Unit → Prop} {X : Sg → String → Prop} {fr0 lw0 : Nat} {rc : Nat → Int → Sg → (Sg → Unit → Prop) → (Sg → String → Prop) → Prop} (K : MC R p s m args c cX16_compared 3 RX16 D cA tys A n0 s0 (fr0 + 1) (lw0 + 60) []) (hRC : HRC l D cA tys A dm ra jx rm fr0 lw0 rc) (hf0 : 40 ≤ fr0) (hl0 : 4000 ≤ lw0) (hQ : HQV p l e R s m args below meth c cX16_compared D cA A n0 s0 QM dm ra jx rm Q) (hX : HX p l e R s m args below meth c 3 D cA A n0 s0 QM dm ra jx rm X) : ∀ (σ : Sg) (v1 : Int) (g1 : rng v1), w_X16_compared_27 ra jx rm rc Q X σ v1 → RG σ → Shp dm ra jx rm σ → JJ p l e R s m args below meth c 3 D cA A n0 s0 QM σ 27 [(0, .ref rm), (1, .int (i32 v1))] [] := by
  intro σ v1 g1 h hGσ hS H locs ls hH hl hc
  have B := K.1
  unfold w_X16_compared_27 at h
  refine lv_aload_n B.1 B.2.1 dX16_compared_27 rfl (lv_at hl 0 rfl) ?_
  refine r_geti B hH hS 9 (by decide) wf_X16_38 rfl rfl dX16_compared_28 ?_
  refine lv_bipush (v := i32 61) B.1 B.2.1 dX16_compared_31 (by decide) ?_
  refine lv_icmp_ne (tgt := 86) B.1 B.2.1 dX16_compared_33 (by decide) (fun h9 => ?_) (fun h9 => ?_)
  · rw [if_pos (fun q => h9 ((i32_eq (hGσ _ _) (by unfold rng; omega)).mpr q))] at h
    exact a_X16_compared_86 K hRC hf0 hl0 hQ hX _ h hGσ hS _ _ _ hH (lv_sub (l' := [(0, .ref rm)]) hl [0] rfl) hc
  · rw [if_neg (fun q => q ((i32_eq (hGσ _ _) (by unfold rng; omega)).mp h9))] at h
    exact a_X16_compared_36 K hRC hf0 hl0 hQ hX _ _ g1 h hGσ hS _ _ _ hH (lv_sub (l' := [(0, .ref rm), (1, .int (i32 v1))]) hl [0, 1] rfl) hc
set_option maxRecDepth 20000 in
theorem a_X16_compared_18 {Q : Sg → Unit → Prop} {X : Sg → String → Prop} {fr0 lw0 : Nat} {rc : Nat → Int → Sg → (Sg → Unit → Prop) → (Sg → String → Prop) → Prop} (K : MC R p s m args c cX16_compared 3 RX16 D cA tys A n0 s0 (fr0 + 1) (lw0 + 60) []) (hRC : HRC l D cA tys A dm ra jx rm fr0 lw0 rc) (hf0 : 40 ≤ fr0) (hl0 : 4000 ≤ lw0) (hQ : HQV p l e R s m args below meth c cX16_compared D cA A n0 s0 QM dm ra jx rm Q) (hX : HX p l e R s m args below meth c 3 D cA A n0 s0 QM dm ra jx rm X) : ∀ (σ : Sg) (v1 : Int) (g1 : rng v1), w_X16_compared_18 ra jx rm rc Q X σ v1 → RG σ → Shp dm ra jx rm σ → JJ p l e R s m args below meth c 3 D cA A n0 s0 QM σ 18 [(0, .ref rm), (1, .int (i32 v1))] [] := by
  intro σ v1 g1 h hGσ hS H locs ls hH hl hc
  have B := K.1
  unfold w_X16_compared_18 at h
  refine lv_aload_n B.1 B.2.1 dX16_compared_18 rfl (lv_at hl 0 rfl) ?_
  refine r_geti B hH hS 9 (by decide) wf_X16_38 rfl rfl dX16_compared_19 ?_
  refine lv_bipush (v := i32 62) B.1 B.2.1 dX16_compared_22 (by decide) ?_
  refine lv_icmp_eq (tgt := 36) B.1 B.2.1 dX16_compared_24 (by decide) (fun h9 => ?_) (fun h9 => ?_)
  · rw [if_pos ((i32_eq (hGσ _ _) (by unfold rng; omega)).mp h9)] at h
    exact a_X16_compared_36 K hRC hf0 hl0 hQ hX _ _ g1 h hGσ hS _ _ _ hH (lv_sub (l' := [(0, .ref rm), (1, .int (i32 v1))]) hl [0, 1] rfl) hc
  · rw [if_neg (fun q => h9 ((i32_eq (hGσ _ _) (by unfold rng; omega)).mpr q))] at h
    exact a_X16_compared_27 K hRC hf0 hl0 hQ hX _ _ g1 h hGσ hS _ _ _ hH (lv_sub (l' := [(0, .ref rm), (1, .int (i32 v1))]) hl [0, 1] rfl) hc
set_option maxRecDepth 20000 in
theorem a_X16_compared_0 {Q : Sg → Unit → Prop} {X : Sg → String → Prop} {fr0 lw0 : Nat} {rc : Nat → Int → Sg → (Sg → Unit → Prop) → (Sg → String → Prop) → Prop} (K : MC R p s m args c cX16_compared 3 RX16 D cA tys A n0 s0 (fr0 + 1) (lw0 + 60) []) (hRC : HRC l D cA tys A dm ra jx rm fr0 lw0 rc) (hf0 : 40 ≤ fr0) (hl0 : 4000 ≤ lw0) (hQ : HQV p l e R s m args below meth c cX16_compared D cA A n0 s0 QM dm ra jx rm Q) (hX : HX p l e R s m args below meth c 3 D cA A n0 s0 QM dm ra jx rm X) : ∀ (σ : Sg) (v1 : Int) (g1 : rng v1), w_X16_compared_0 ra jx rm rc Q X σ v1 → RG σ → Shp dm ra jx rm σ → JJ p l e R s m args below meth c 3 D cA A n0 s0 QM σ 0 [(0, .ref rm), (1, .int (i32 v1))] [] := by
  intro σ v1 g1 h hGσ hS H locs ls hH hl hc
  have B := K.1
  unfold w_X16_compared_0 at h
  refine lv_aload_n B.1 B.2.1 dX16_compared_0 rfl (lv_at hl 0 rfl) ?_
  refine lv_iload_n B.1 B.2.1 dX16_compared_1 rfl (lv_at hl 1 rfl) ?_
  refine c_V B hH hl hc K.2.2.1 (C := RX16) (T := TX16) (N := 123) (ci := 16) (As := [.int (i32 v1)]) (hRC.2.2.2.2.1 σ v1 g1 hGσ hS h) wc_X16_150 1 hd_X16_sum ⟨by have := K.2.2.2.1; omega, by have := K.2.2.2.2.1; omega⟩ hS.1.1 hS.1.2 (by decide) rfl rfl (rest := []) rfl (Nat.le_of_ble_eq_true rfl) dX16_compared_2 (fun σ20 w hq => ?_) (fun σ9 E9 hx9 => hX σ9 E9 _ _ _ (tb_out K.2.2.2.2.2 rfl) hx9.1 hx9.2.1 hx9.2.2)
  obtain ⟨rfl, h, hGσ20, hS⟩ := hq
  intro H locs ls hH hl hc
  refine W.eq (g2 := F0 m 5 ls []) (rfl) ?_
  try dsimp only at h
  refine lv_aload_n B.1 B.2.1 dX16_compared_5 rfl (lv_at hl 0 rfl) ?_
  refine c_V B hH hl hc K.2.2.1 (C := RX16) (T := TX16) (N := 123) (ci := 16) (As := []) (ok_X16_see K.2.1 σ20 hGσ20 hS h) wc_X16_76 0 hd_X16_see ⟨by have := K.2.2.2.1; omega, by have := K.2.2.2.2.1; omega⟩ hS.1.1 hS.1.2 (by decide) rfl rfl (rest := []) rfl (Nat.le_of_ble_eq_true rfl) dX16_compared_6 (fun σ21 w hq => ?_) (fun σ9 E9 hx9 => hX σ9 E9 _ _ _ (tb_out K.2.2.2.2.2 rfl) hx9.1 hx9.2.1 hx9.2.2)
  obtain ⟨rfl, h, hGσ21, hS⟩ := hq
  intro H locs ls hH hl hc
  refine W.eq (g2 := F0 m 9 ls []) (rfl) ?_
  try dsimp only at h
  refine lv_aload_n B.1 B.2.1 dX16_compared_9 rfl (lv_at hl 0 rfl) ?_
  refine r_geti B hH hS 9 (by decide) wf_X16_38 rfl rfl dX16_compared_10 ?_
  refine lv_bipush (v := i32 60) B.1 B.2.1 dX16_compared_13 (by decide) ?_
  refine lv_icmp_eq (tgt := 36) B.1 B.2.1 dX16_compared_15 (by decide) (fun h9 => ?_) (fun h9 => ?_)
  · rw [if_pos ((i32_eq (hGσ21 _ _) (by unfold rng; omega)).mp h9)] at h
    exact a_X16_compared_36 K hRC hf0 hl0 hQ hX _ _ g1 h hGσ21 hS _ _ _ hH (lv_sub (l' := [(0, .ref rm), (1, .int (i32 v1))]) hl [0, 1] rfl) hc
  · rw [if_neg (fun q => h9 ((i32_eq (hGσ21 _ _) (by unfold rng; omega)).mpr q))] at h
    exact a_X16_compared_18 K hRC hf0 hl0 hQ hX _ _ g1 h hGσ21 hS _ _ _ hH (lv_sub (l' := [(0, .ref rm), (1, .int (i32 v1))]) hl [0, 1] rfl) hc
theorem ok_X16_compared_r {fr0 lw0 : Nat} {rc : Nat → Int → Sg → (Sg → Unit → Prop) → (Sg → String → Prop) → Prop} (hRC : HRC l D cA tys A dm ra jx rm fr0 lw0 rc) (hf0 : 40 ≤ fr0) (hl0 : 4000 ≤ lw0) (hT : Tys cA tys) {Q : Sg → Unit → Prop} {X : Sg → String → Prop} (σ : Sg) (v1 : Int) (g1 : rng v1) (hG : RG σ) (hS : Shp dm ra jx rm σ) (h : w_X16_compared_0 ra jx rm rc Q X σ v1) : Ok l D cA tys A yX16_compared (.code yX16_compared cX16_compared 3 none) (fr0 + 1) (lw0 + 60) [.ref rm, .int (i32 v1)] σ (QnV dm ra jx rm Q) (QxR dm ra jx rm X) := by
  exact ok_V (plainFor_of_name (by decide)) (by exact Nat.le_of_ble_eq_true rfl) hT (fun p e R s m args below meth c K hQ hX H locs ls hH hl hc => a_X16_compared_0 K hRC hf0 hl0 hQ hX σ v1 g1 h hG hS H locs ls hH (lv_sub (l' := [(0, .ref rm), (1, .int (i32 v1))]) hl [0, 1] rfl) hc)
theorem dX16_sum_0 : decode cX16_sum 0 = .ok (.aload_n 0, 1) := by decide +kernel
theorem dX16_sum_1 : decode cX16_sum 1 = .ok (.iload_n 1, 1) := by decide +kernel
theorem dX16_sum_2 : decode cX16_sum 2 = .ok (.invokevirtual 153, 3) := by decide +kernel
theorem dX16_sum_5 : decode cX16_sum 5 = .ok (.aload_n 0, 1) := by decide +kernel
theorem dX16_sum_6 : decode cX16_sum 6 = .ok (.invokevirtual 76, 3) := by decide +kernel
theorem dX16_sum_9 : decode cX16_sum 9 = .ok (.aload_n 0, 1) := by decide +kernel
theorem dX16_sum_10 : decode cX16_sum 10 = .ok (.getfield 38, 3) := by decide +kernel
theorem dX16_sum_13 : decode cX16_sum 13 = .ok (.bipush 43, 2) := by decide +kernel
theorem dX16_sum_15 : decode cX16_sum 15 = .ok (.if_icmp .eq 12, 3) := by decide +kernel
theorem dX16_sum_18 : decode cX16_sum 18 = .ok (.aload_n 0, 1) := by decide +kernel
theorem dX16_sum_19 : decode cX16_sum 19 = .ok (.getfield 38, 3) := by decide +kernel
theorem dX16_sum_22 : decode cX16_sum 22 = .ok (.bipush 45, 2) := by decide +kernel
theorem dX16_sum_24 : decode cX16_sum 24 = .ok (.if_icmp .ne 44, 3) := by decide +kernel
theorem dX16_sum_27 : decode cX16_sum 27 = .ok (.aload_n 0, 1) := by decide +kernel
theorem dX16_sum_28 : decode cX16_sum 28 = .ok (.getfield 38, 3) := by decide +kernel
theorem dX16_sum_31 : decode cX16_sum 31 = .ok (.bipush 43, 2) := by decide +kernel
theorem dX16_sum_33 : decode cX16_sum 33 = .ok (.if_icmp .ne 7, 3) := by decide +kernel
theorem dX16_sum_36 : decode cX16_sum 36 = .ok (.iconst 3, 1) := by decide +kernel
theorem dX16_sum_37 : decode cX16_sum 37 = .ok (.goto 4, 3) := by decide +kernel
theorem dX16_sum_40 : decode cX16_sum 40 = .ok (.iconst 4, 1) := by decide +kernel
theorem dX16_sum_41 : decode cX16_sum 41 = .ok (.istore_n 2, 1) := by decide +kernel
theorem dX16_sum_42 : decode cX16_sum 42 = .ok (.aload_n 0, 1) := by decide +kernel
theorem dX16_sum_43 : decode cX16_sum 43 = .ok (.invokevirtual 84, 3) := by decide +kernel
theorem dX16_sum_46 : decode cX16_sum 46 = .ok (.aload_n 0, 1) := by decide +kernel
theorem dX16_sum_47 : decode cX16_sum 47 = .ok (.iload_n 1, 1) := by decide +kernel
theorem dX16_sum_48 : decode cX16_sum 48 = .ok (.invokevirtual 153, 3) := by decide +kernel
theorem dX16_sum_51 : decode cX16_sum 51 = .ok (.aload_n 0, 1) := by decide +kernel
theorem dX16_sum_52 : decode cX16_sum 52 = .ok (.getfield 118, 3) := by decide +kernel
theorem dX16_sum_55 : decode cX16_sum 55 = .ok (.iload_n 2, 1) := by decide +kernel
theorem dX16_sum_56 : decode cX16_sum 56 = .ok (.lconst 0, 1) := by decide +kernel
theorem dX16_sum_57 : decode cX16_sum 57 = .ok (.invokevirtual 131, 3) := by decide +kernel
theorem dX16_sum_60 : decode cX16_sum 60 = .ok (.pop, 1) := by decide +kernel
theorem dX16_sum_61 : decode cX16_sum 61 = .ok (.aload_n 0, 1) := by decide +kernel
theorem dX16_sum_62 : decode cX16_sum 62 = .ok (.invokevirtual 76, 3) := by decide +kernel
theorem dX16_sum_65 : decode cX16_sum 65 = .ok (.goto (-56), 3) := by decide +kernel
theorem dX16_sum_68 : decode cX16_sum 68 = .ok (.return_, 1) := by decide +kernel
set_option maxRecDepth 20000 in
theorem a_X16_sum_41 {Q : Sg → Unit → Prop} {X : Sg → String → Prop} {fr0 lw0 : Nat} {rc : Nat → Int → Sg → (Sg → Unit → Prop) → (Sg → String → Prop) → Prop} (K : MC R p s m args c cX16_sum 3 RX16 D cA tys A n0 s0 (fr0 + 1) (lw0 + 60) []) (hRC : HRC l D cA tys A dm ra jx rm fr0 lw0 rc) (hf0 : 40 ≤ fr0) (hl0 : 4000 ≤ lw0) (hQ : HQV p l e R s m args below meth c cX16_sum D cA A n0 s0 QM dm ra jx rm Q) (hX : HX p l e R s m args below meth c 3 D cA A n0 s0 QM dm ra jx rm X) {K9 : Sg → Int → Prop} (hK9 : ∀ (σ : Sg) (v1 : Int) (g1 : rng v1), K9 σ v1 → RG σ → Shp dm ra jx rm σ → JJ p l e R s m args below meth c 3 D cA A n0 s0 QM σ 9 [(0, .ref rm), (1, .int (i32 v1))] []) : ∀ (σ : Sg) (v1 : Int) (u0 : Int) (g1 : rng v1) (gu0 : rng u0), w_X16_sum_41 ra jx rm rc K9 Q X σ v1 u0 → RG σ → Shp dm ra jx rm σ → JJ p l e R s m args below meth c 3 D cA A n0 s0 QM σ 41 [(0, .ref rm), (1, .int (i32 v1))] [.int (i32 u0)] := by
  intro σ v1 u0 g1 gu0 h hGσ hS H locs ls hH hl hc
  have B := K.1
  unfold w_X16_sum_41 at h
  refine lv_istore_n (lv' := [(2, .int (i32 u0)), (0, .ref rm), (1, .int (i32 v1))]) B.1 B.2.1 dX16_sum_41 rfl hl (by decide) rfl (fun ls hl => ?_)
  refine lv_aload_n B.1 B.2.1 dX16_sum_42 rfl (lv_at hl 1 rfl) ?_
  refine c_V B hH hl hc K.2.2.1 (C := RX16) (T := TX16) (N := 123) (ci := 16) (As := []) (ok_X16_take K.2.1 σ hGσ hS h) wc_X16_84 0 hd_X16_take ⟨by have := K.2.2.2.1; omega, by have := K.2.2.2.2.1; omega⟩ hS.1.1 hS.1.2 (by decide) rfl rfl (rest := []) rfl (Nat.le_of_ble_eq_true rfl) dX16_sum_43 (fun σ17 w hq => ?_) (fun σ9 E9 hx9 => hX σ9 E9 _ _ _ (tb_out K.2.2.2.2.2 rfl) hx9.1 hx9.2.1 hx9.2.2)
  obtain ⟨rfl, h, hGσ17, hS⟩ := hq
  intro H locs ls hH hl hc
  refine W.eq (g2 := F0 m 46 ls []) (rfl) ?_
  try dsimp only at h
  refine lv_aload_n B.1 B.2.1 dX16_sum_46 rfl (lv_at hl 1 rfl) ?_
  refine lv_iload_n B.1 B.2.1 dX16_sum_47 rfl (lv_at hl 2 rfl) ?_
  refine c_V B hH hl hc K.2.2.1 (C := RX16) (T := TX16) (N := 123) (ci := 16) (As := [.int (i32 v1)]) (hRC.2.2.2.2.2.1 σ17 v1 g1 hGσ17 hS h) wc_X16_153 1 hd_X16_product ⟨by have := K.2.2.2.1; omega, by have := K.2.2.2.2.1; omega⟩ hS.1.1 hS.1.2 (by decide) rfl rfl (rest := []) rfl (Nat.le_of_ble_eq_true rfl) dX16_sum_48 (fun σ18 w hq => ?_) (fun σ9 E9 hx9 => hX σ9 E9 _ _ _ (tb_out K.2.2.2.2.2 rfl) hx9.1 hx9.2.1 hx9.2.2)
  obtain ⟨rfl, h, hGσ18, hS⟩ := hq
  intro H locs ls hH hl hc
  refine W.eq (g2 := F0 m 51 ls []) (rfl) ?_
  try dsimp only at h
  refine lv_aload_n B.1 B.2.1 dX16_sum_51 rfl (lv_at hl 1 rfl) ?_
  refine r_getp B hH hS 18 (by decide) wf_X16_118 rfl rfl dX16_sum_52 ?_
  refine lv_iload_n B.1 B.2.1 dX16_sum_55 rfl (lv_at hl 0 rfl) ?_
  refine lv_lconst (v := 0) B.1 B.2.1 dX16_sum_56 (by decide) ?_
  obtain ⟨a19, ea19, ja19, h⟩ := h
  refine W.eq (g2 := F0 m 57 ls [.long 0, .int (i32 u0), .ref a19]) (by rw [ea19]; rfl) ?_
  refine c_V B hH hl hc K.2.2.1 (C := RX15) (T := TX15) (N := 20) (ci := 15) (As := [.int (i32 u0), .long 0]) (ok_X15_step ja19 K.2.1 σ18 u0 0 gu0 hGσ18 hS h) wc_X16_131 2 hd_X15_step ⟨by have := K.2.2.2.1; omega, by have := K.2.2.2.2.1; omega⟩ (hS.jb ja19).1 (hS.jb ja19).2 (by decide) rfl rfl (rest := []) rfl (Nat.le_of_ble_eq_true rfl) dX16_sum_57 (fun σ20 w hq => ?_) (fun σ9 E9 hx9 => hX σ9 E9 _ _ _ (tb_out K.2.2.2.2.2 rfl) hx9.1 hx9.2.1 hx9.2.2)
  obtain ⟨r21, rfl, gr21, h, hGσ20, hS⟩ := hq
  intro H locs ls hH hl hc
  refine W.eq (g2 := F0 m 60 ls [.int (i32 r21)]) (rfl) ?_
  try dsimp only at h
  refine lv_pop B.1 B.2.1 dX16_sum_60 rfl ?_
  refine lv_aload_n B.1 B.2.1 dX16_sum_61 rfl (lv_at hl 1 rfl) ?_
  refine c_V B hH hl hc K.2.2.1 (C := RX16) (T := TX16) (N := 123) (ci := 16) (As := []) (ok_X16_see K.2.1 σ20 hGσ20 hS h) wc_X16_76 0 hd_X16_see ⟨by have := K.2.2.2.1; omega, by have := K.2.2.2.2.1; omega⟩ hS.1.1 hS.1.2 (by decide) rfl rfl (rest := []) rfl (Nat.le_of_ble_eq_true rfl) dX16_sum_62 (fun σ22 w hq => ?_) (fun σ9 E9 hx9 => hX σ9 E9 _ _ _ (tb_out K.2.2.2.2.2 rfl) hx9.1 hx9.2.1 hx9.2.2)
  obtain ⟨rfl, h, hGσ22, hS⟩ := hq
  intro H locs ls hH hl hc
  refine W.eq (g2 := F0 m 65 ls []) (rfl) ?_
  try dsimp only at h
  refine lv_goto (tgt := 9) B.1 B.2.1 dX16_sum_65 (by decide) ?_
  exact hK9 _ _ g1 h hGσ22 hS _ _ _ hH (lv_sub (l' := [(0, .ref rm), (1, .int (i32 v1))]) hl [1, 2] rfl) hc
set_option maxRecDepth 20000 in
theorem a_X16_sum_40 {Q : Sg → Unit → Prop} {X : Sg → String → Prop} {fr0 lw0 : Nat} {rc : Nat → Int → Sg → (Sg → Unit → Prop) → (Sg → String → Prop) → Prop} (K : MC R p s m args c cX16_sum 3 RX16 D cA tys A n0 s0 (fr0 + 1) (lw0 + 60) []) (hRC : HRC l D cA tys A dm ra jx rm fr0 lw0 rc) (hf0 : 40 ≤ fr0) (hl0 : 4000 ≤ lw0) (hQ : HQV p l e R s m args below meth c cX16_sum D cA A n0 s0 QM dm ra jx rm Q) (hX : HX p l e R s m args below meth c 3 D cA A n0 s0 QM dm ra jx rm X) {K9 : Sg → Int → Prop} (hK9 : ∀ (σ : Sg) (v1 : Int) (g1 : rng v1), K9 σ v1 → RG σ → Shp dm ra jx rm σ → JJ p l e R s m args below meth c 3 D cA A n0 s0 QM σ 9 [(0, .ref rm), (1, .int (i32 v1))] []) : ∀ (σ : Sg) (v1 : Int) (g1 : rng v1), w_X16_sum_40 ra jx rm rc K9 Q X σ v1 → RG σ → Shp dm ra jx rm σ → JJ p l e R s m args below meth c 3 D cA A n0 s0 QM σ 40 [(0, .ref rm), (1, .int (i32 v1))] [] := by
  intro σ v1 g1 h hGσ hS H locs ls hH hl hc
  have B := K.1
  unfold w_X16_sum_40 at h
  refine lv_iconst (v := i32 4) B.1 B.2.1 dX16_sum_40 (by decide) ?_
  exact a_X16_sum_41 K hRC hf0 hl0 hQ hX hK9 _ _ _ g1 (by unfold rng; omega) h hGσ hS _ _ _ hH (lv_sub (l' := [(0, .ref rm), (1, .int (i32 v1))]) hl [0, 1] rfl) hc
set_option maxRecDepth 20000 in
theorem a_X16_sum_36 {Q : Sg → Unit → Prop} {X : Sg → String → Prop} {fr0 lw0 : Nat} {rc : Nat → Int → Sg → (Sg → Unit → Prop) → (Sg → String → Prop) → Prop} (K : MC R p s m args c cX16_sum 3 RX16 D cA tys A n0 s0 (fr0 + 1) (lw0 + 60) []) (hRC : HRC l D cA tys A dm ra jx rm fr0 lw0 rc) (hf0 : 40 ≤ fr0) (hl0 : 4000 ≤ lw0) (hQ : HQV p l e R s m args below meth c cX16_sum D cA A n0 s0 QM dm ra jx rm Q) (hX : HX p l e R s m args below meth c 3 D cA A n0 s0 QM dm ra jx rm X) {K9 : Sg → Int → Prop} (hK9 : ∀ (σ : Sg) (v1 : Int) (g1 : rng v1), K9 σ v1 → RG σ → Shp dm ra jx rm σ → JJ p l e R s m args below meth c 3 D cA A n0 s0 QM σ 9 [(0, .ref rm), (1, .int (i32 v1))] []) : ∀ (σ : Sg) (v1 : Int) (g1 : rng v1), w_X16_sum_36 ra jx rm rc K9 Q X σ v1 → RG σ → Shp dm ra jx rm σ → JJ p l e R s m args below meth c 3 D cA A n0 s0 QM σ 36 [(0, .ref rm), (1, .int (i32 v1))] [] := by
  intro σ v1 g1 h hGσ hS H locs ls hH hl hc
  have B := K.1
  unfold w_X16_sum_36 at h
  refine lv_iconst (v := i32 3) B.1 B.2.1 dX16_sum_36 (by decide) ?_
  refine lv_goto (tgt := 41) B.1 B.2.1 dX16_sum_37 (by decide) ?_
  exact a_X16_sum_41 K hRC hf0 hl0 hQ hX hK9 _ _ _ g1 (by unfold rng; omega) h hGσ hS _ _ _ hH (lv_sub (l' := [(0, .ref rm), (1, .int (i32 v1))]) hl [0, 1] rfl) hc
set_option maxRecDepth 20000 in
theorem a_X16_sum_27 {Q : Sg → Unit → Prop} {X : Sg → String → Prop} {fr0 lw0 : Nat} {rc : Nat → Int → Sg → (Sg → Unit → Prop) → (Sg → String → Prop) → Prop} (K : MC R p s m args c cX16_sum 3 RX16 D cA tys A n0 s0 (fr0 + 1) (lw0 + 60) []) (hRC : HRC l D cA tys A dm ra jx rm fr0 lw0 rc) (hf0 : 40 ≤ fr0) (hl0 : 4000 ≤ lw0) (hQ : HQV p l e R s m args below meth c cX16_sum D cA A n0 s0 QM dm ra jx rm Q) (hX : HX p l e R s m args below meth c 3 D cA A n0 s0 QM dm ra jx rm X) {K9 : Sg → Int → Prop} (hK9 : ∀ (σ : Sg) (v1 : Int) (g1 : rng v1), K9 σ v1 → RG σ → Shp dm ra jx rm σ → JJ p l e R s m args below meth c 3 D cA A n0 s0 QM σ 9 [(0, .ref rm), (1, .int (i32 v1))] []) : ∀ (σ : Sg) (v1 : Int) (g1 : rng v1), w_X16_sum_27 ra jx rm rc K9 Q X σ v1 → RG σ → Shp dm ra jx rm σ → JJ p l e R s m args below meth c 3 D cA A n0 s0 QM σ 27 [(0, .ref rm), (1, .int (i32 v1))] [] := by
  intro σ v1 g1 h hGσ hS H locs ls hH hl hc
  have B := K.1
  unfold w_X16_sum_27 at h
  refine lv_aload_n B.1 B.2.1 dX16_sum_27 rfl (lv_at hl 0 rfl) ?_
  refine r_geti B hH hS 9 (by decide) wf_X16_38 rfl rfl dX16_sum_28 ?_
  refine lv_bipush (v := i32 43) B.1 B.2.1 dX16_sum_31 (by decide) ?_
  refine lv_icmp_ne (tgt := 40) B.1 B.2.1 dX16_sum_33 (by decide) (fun h9 => ?_) (fun h9 => ?_)
  · rw [if_pos (fun q => h9 ((i32_eq (hGσ _ _) (by unfold rng; omega)).mpr q))] at h
    exact a_X16_sum_40 K hRC hf0 hl0 hQ hX hK9 _ _ g1 h hGσ hS _ _ _ hH (lv_sub (l' := [(0, .ref rm), (1, .int (i32 v1))]) hl [0, 1] rfl) hc
  · rw [if_neg (fun q => q ((i32_eq (hGσ _ _) (by unfold rng; omega)).mp h9))] at h
    exact a_X16_sum_36 K hRC hf0 hl0 hQ hX hK9 _ _ g1 h hGσ hS _ _ _ hH (lv_sub (l' := [(0, .ref rm), (1, .int (i32 v1))]) hl [0, 1] rfl) hc
set_option maxRecDepth 20000 in
theorem a_X16_sum_68 {Q : Sg → Unit → Prop} {X : Sg → String → Prop} {fr0 lw0 : Nat} {rc : Nat → Int → Sg → (Sg → Unit → Prop) → (Sg → String → Prop) → Prop} (K : MC R p s m args c cX16_sum 3 RX16 D cA tys A n0 s0 (fr0 + 1) (lw0 + 60) []) (hRC : HRC l D cA tys A dm ra jx rm fr0 lw0 rc) (hf0 : 40 ≤ fr0) (hl0 : 4000 ≤ lw0) (hQ : HQV p l e R s m args below meth c cX16_sum D cA A n0 s0 QM dm ra jx rm Q) (hX : HX p l e R s m args below meth c 3 D cA A n0 s0 QM dm ra jx rm X) : ∀ (σ : Sg), w_X16_sum_68 ra jx rm rc Q X σ → RG σ → Shp dm ra jx rm σ → JJ p l e R s m args below meth c 3 D cA A n0 s0 QM σ 68 [(0, .ref rm)] [] := by
  intro σ h hGσ hS H locs ls hH hl hc
  have B := K.1
  unfold w_X16_sum_68 at h
  exact hQ _ _ _ _ _ dX16_sum_68 hH hc h hGσ hS
set_option maxRecDepth 20000 in
theorem a_X16_sum_18 {Q : Sg → Unit → Prop} {X : Sg → String → Prop} {fr0 lw0 : Nat} {rc : Nat → Int → Sg → (Sg → Unit → Prop) → (Sg → String → Prop) → Prop} (K : MC R p s m args c cX16_sum 3 RX16 D cA tys A n0 s0 (fr0 + 1) (lw0 + 60) []) (hRC : HRC l D cA tys A dm ra jx rm fr0 lw0 rc) (hf0 : 40 ≤ fr0) (hl0 : 4000 ≤ lw0) (hQ : HQV p l e R s m args below meth c cX16_sum D cA A n0 s0 QM dm ra jx rm Q) (hX : HX p l e R s m args below meth c 3 D cA A n0 s0 QM dm ra jx rm X) {K9 : Sg → Int → Prop} (hK9 : ∀ (σ : Sg) (v1 : Int) (g1 : rng v1), K9 σ v1 → RG σ → Shp dm ra jx rm σ → JJ p l e R s m args below meth c 3 D cA A n0 s0 QM σ 9 [(0, .ref rm), (1, .int (i32 v1))] []) : ∀ (σ : Sg) (v1 : Int) (g1 : rng v1), w_X16_sum_18 ra jx rm rc K9 Q X σ v1 → RG σ → Shp dm ra jx rm σ → JJ p l e R s m args below meth c 3 D cA A n0 s0 QM σ 18 [(0, .ref rm), (1, .int (i32 v1))] [] := by
  intro σ v1 g1 h hGσ hS H locs ls hH hl hc
  have B := K.1
  unfold w_X16_sum_18 at h
  refine lv_aload_n B.1 B.2.1 dX16_sum_18 rfl (lv_at hl 0 rfl) ?_
  refine r_geti B hH hS 9 (by decide) wf_X16_38 rfl rfl dX16_sum_19 ?_
  refine lv_bipush (v := i32 45) B.1 B.2.1 dX16_sum_22 (by decide) ?_
  refine lv_icmp_ne (tgt := 68) B.1 B.2.1 dX16_sum_24 (by decide) (fun h9 => ?_) (fun h9 => ?_)
  · rw [if_pos (fun q => h9 ((i32_eq (hGσ _ _) (by unfold rng; omega)).mpr q))] at h
    exact a_X16_sum_68 K hRC hf0 hl0 hQ hX _ h hGσ hS _ _ _ hH (lv_sub (l' := [(0, .ref rm)]) hl [0] rfl) hc
  · rw [if_neg (fun q => q ((i32_eq (hGσ _ _) (by unfold rng; omega)).mp h9))] at h
    exact a_X16_sum_27 K hRC hf0 hl0 hQ hX hK9 _ _ g1 h hGσ hS _ _ _ hH (lv_sub (l' := [(0, .ref rm), (1, .int (i32 v1))]) hl [0, 1] rfl) hc
set_option maxRecDepth 20000 in
theorem a_X16_sum_9 {Q : Sg → Unit → Prop} {X : Sg → String → Prop} {fr0 lw0 : Nat} {rc : Nat → Int → Sg → (Sg → Unit → Prop) → (Sg → String → Prop) → Prop} (K : MC R p s m args c cX16_sum 3 RX16 D cA tys A n0 s0 (fr0 + 1) (lw0 + 60) []) (hRC : HRC l D cA tys A dm ra jx rm fr0 lw0 rc) (hf0 : 40 ≤ fr0) (hl0 : 4000 ≤ lw0) (hQ : HQV p l e R s m args below meth c cX16_sum D cA A n0 s0 QM dm ra jx rm Q) (hX : HX p l e R s m args below meth c 3 D cA A n0 s0 QM dm ra jx rm X) {K9 : Sg → Int → Prop} (hK9 : ∀ (σ : Sg) (v1 : Int) (g1 : rng v1), K9 σ v1 → RG σ → Shp dm ra jx rm σ → JJ p l e R s m args below meth c 3 D cA A n0 s0 QM σ 9 [(0, .ref rm), (1, .int (i32 v1))] []) : ∀ (σ : Sg) (v1 : Int) (g1 : rng v1), w_X16_sum_9 ra jx rm rc K9 Q X σ v1 → RG σ → Shp dm ra jx rm σ → JJ p l e R s m args below meth c 3 D cA A n0 s0 QM σ 9 [(0, .ref rm), (1, .int (i32 v1))] [] := by
  intro σ v1 g1 h hGσ hS H locs ls hH hl hc
  have B := K.1
  unfold w_X16_sum_9 at h
  refine lv_aload_n B.1 B.2.1 dX16_sum_9 rfl (lv_at hl 0 rfl) ?_
  refine r_geti B hH hS 9 (by decide) wf_X16_38 rfl rfl dX16_sum_10 ?_
  refine lv_bipush (v := i32 43) B.1 B.2.1 dX16_sum_13 (by decide) ?_
  refine lv_icmp_eq (tgt := 27) B.1 B.2.1 dX16_sum_15 (by decide) (fun h9 => ?_) (fun h9 => ?_)
  · rw [if_pos ((i32_eq (hGσ _ _) (by unfold rng; omega)).mp h9)] at h
    exact a_X16_sum_27 K hRC hf0 hl0 hQ hX hK9 _ _ g1 h hGσ hS _ _ _ hH (lv_sub (l' := [(0, .ref rm), (1, .int (i32 v1))]) hl [0, 1] rfl) hc
  · rw [if_neg (fun q => h9 ((i32_eq (hGσ _ _) (by unfold rng; omega)).mpr q))] at h
    exact a_X16_sum_18 K hRC hf0 hl0 hQ hX hK9 _ _ g1 h hGσ hS _ _ _ hH (lv_sub (l' := [(0, .ref rm), (1, .int (i32 v1))]) hl [0, 1] rfl) hc
theorem al_X16_sum_9 {Q : Sg → Unit → Prop} {X : Sg → String → Prop} {fr0 lw0 : Nat} {rc : Nat → Int → Sg → (Sg → Unit → Prop) → (Sg → String → Prop) → Prop} (K : MC R p s m args c cX16_sum 3 RX16 D cA tys A n0 s0 (fr0 + 1) (lw0 + 60) []) (hRC : HRC l D cA tys A dm ra jx rm fr0 lw0 rc) (hf0 : 40 ≤ fr0) (hl0 : 4000 ≤ lw0) (hQ : HQV p l e R s m args below meth c cX16_sum D cA A n0 s0 QM dm ra jx rm Q) (hX : HX p l e R s m args below meth c 3 D cA A n0 s0 QM dm ra jx rm X) : ∀ (n : Nat), ∀ (σ : Sg) (v1 : Int) (g1 : rng v1), wl_X16_sum_9 ra jx rm rc Q X n σ v1 → RG σ → Shp dm ra jx rm σ → JJ p l e R s m args below meth c 3 D cA A n0 s0 QM σ 9 [(0, .ref rm), (1, .int (i32 v1))] [] := by
  intro n
  induction n with
  | zero => intro σ v1 g1 h; exact h.elim
  | succ n ih => exact fun σ v1 g1 h => a_X16_sum_9 K hRC hf0 hl0 hQ hX ih σ v1 g1 h
set_option maxRecDepth 20000 in
theorem a_X16_sum_0 {Q : Sg → Unit → Prop} {X : Sg → String → Prop} {fr0 lw0 : Nat} {rc : Nat → Int → Sg → (Sg → Unit → Prop) → (Sg → String → Prop) → Prop} (K : MC R p s m args c cX16_sum 3 RX16 D cA tys A n0 s0 (fr0 + 1) (lw0 + 60) []) (hRC : HRC l D cA tys A dm ra jx rm fr0 lw0 rc) (hf0 : 40 ≤ fr0) (hl0 : 4000 ≤ lw0) (hQ : HQV p l e R s m args below meth c cX16_sum D cA A n0 s0 QM dm ra jx rm Q) (hX : HX p l e R s m args below meth c 3 D cA A n0 s0 QM dm ra jx rm X) : ∀ (σ : Sg) (v1 : Int) (g1 : rng v1), w_X16_sum_0 ra jx rm rc Q X σ v1 → RG σ → Shp dm ra jx rm σ → JJ p l e R s m args below meth c 3 D cA A n0 s0 QM σ 0 [(0, .ref rm), (1, .int (i32 v1))] [] := by
  intro σ v1 g1 h hGσ hS H locs ls hH hl hc
  have B := K.1
  unfold w_X16_sum_0 at h
  refine lv_aload_n B.1 B.2.1 dX16_sum_0 rfl (lv_at hl 0 rfl) ?_
  refine lv_iload_n B.1 B.2.1 dX16_sum_1 rfl (lv_at hl 1 rfl) ?_
  refine c_V B hH hl hc K.2.2.1 (C := RX16) (T := TX16) (N := 123) (ci := 16) (As := [.int (i32 v1)]) (hRC.2.2.2.2.2.1 σ v1 g1 hGσ hS h) wc_X16_153 1 hd_X16_product ⟨by have := K.2.2.2.1; omega, by have := K.2.2.2.2.1; omega⟩ hS.1.1 hS.1.2 (by decide) rfl rfl (rest := []) rfl (Nat.le_of_ble_eq_true rfl) dX16_sum_2 (fun σ23 w hq => ?_) (fun σ9 E9 hx9 => hX σ9 E9 _ _ _ (tb_out K.2.2.2.2.2 rfl) hx9.1 hx9.2.1 hx9.2.2)
  obtain ⟨rfl, h, hGσ23, hS⟩ := hq
  intro H locs ls hH hl hc
  refine W.eq (g2 := F0 m 5 ls []) (rfl) ?_
  try dsimp only at h
  refine lv_aload_n B.1 B.2.1 dX16_sum_5 rfl (lv_at hl 0 rfl) ?_
  refine c_V B hH hl hc K.2.2.1 (C := RX16) (T := TX16) (N := 123) (ci := 16) (As := []) (ok_X16_see K.2.1 σ23 hGσ23 hS h) wc_X16_76 0 hd_X16_see ⟨by have := K.2.2.2.1; omega, by have := K.2.2.2.2.1; omega⟩ hS.1.1 hS.1.2 (by decide) rfl rfl (rest := []) rfl (Nat.le_of_ble_eq_true rfl) dX16_sum_6 (fun σ24 w hq => ?_) (fun σ9 E9 hx9 => hX σ9 E9 _ _ _ (tb_out K.2.2.2.2.2 rfl) hx9.1 hx9.2.1 hx9.2.2)
  obtain ⟨rfl, h, hGσ24, hS⟩ := hq
  intro H locs ls hH hl hc
  refine W.eq (g2 := F0 m 9 ls []) (rfl) ?_
  try dsimp only at h
  obtain ⟨n9, h⟩ := h
  exact al_X16_sum_9 K hRC hf0 hl0 hQ hX n9 _ _ g1 h hGσ24 hS _ _ _ hH (lv_sub (l' := [(0, .ref rm), (1, .int (i32 v1))]) hl [0, 1] rfl) hc
theorem ok_X16_sum_r {fr0 lw0 : Nat} {rc : Nat → Int → Sg → (Sg → Unit → Prop) → (Sg → String → Prop) → Prop} (hRC : HRC l D cA tys A dm ra jx rm fr0 lw0 rc) (hf0 : 40 ≤ fr0) (hl0 : 4000 ≤ lw0) (hT : Tys cA tys) {Q : Sg → Unit → Prop} {X : Sg → String → Prop} (σ : Sg) (v1 : Int) (g1 : rng v1) (hG : RG σ) (hS : Shp dm ra jx rm σ) (h : w_X16_sum_0 ra jx rm rc Q X σ v1) : Ok l D cA tys A yX16_sum (.code yX16_sum cX16_sum 3 none) (fr0 + 1) (lw0 + 60) [.ref rm, .int (i32 v1)] σ (QnV dm ra jx rm Q) (QxR dm ra jx rm X) := by
  exact ok_V (plainFor_of_name (by decide)) (by exact Nat.le_of_ble_eq_true rfl) hT (fun p e R s m args below meth c K hQ hX H locs ls hH hl hc => a_X16_sum_0 K hRC hf0 hl0 hQ hX σ v1 g1 h hG hS H locs ls hH (lv_sub (l' := [(0, .ref rm), (1, .int (i32 v1))]) hl [0, 1] rfl) hc)
theorem dX16_product_0 : decode cX16_product 0 = .ok (.aload_n 0, 1) := by decide +kernel
theorem dX16_product_1 : decode cX16_product 1 = .ok (.iload_n 1, 1) := by decide +kernel
theorem dX16_product_2 : decode cX16_product 2 = .ok (.invokevirtual 156, 3) := by decide +kernel
theorem dX16_product_5 : decode cX16_product 5 = .ok (.aload_n 0, 1) := by decide +kernel
theorem dX16_product_6 : decode cX16_product 6 = .ok (.invokevirtual 76, 3) := by decide +kernel
theorem dX16_product_9 : decode cX16_product 9 = .ok (.aload_n 0, 1) := by decide +kernel
theorem dX16_product_10 : decode cX16_product 10 = .ok (.getfield 38, 3) := by decide +kernel
theorem dX16_product_13 : decode cX16_product 13 = .ok (.bipush 42, 2) := by decide +kernel
theorem dX16_product_15 : decode cX16_product 15 = .ok (.if_icmp .eq 21, 3) := by decide +kernel
theorem dX16_product_18 : decode cX16_product 18 = .ok (.aload_n 0, 1) := by decide +kernel
theorem dX16_product_19 : decode cX16_product 19 = .ok (.getfield 38, 3) := by decide +kernel
theorem dX16_product_22 : decode cX16_product 22 = .ok (.bipush 47, 2) := by decide +kernel
theorem dX16_product_24 : decode cX16_product 24 = .ok (.if_icmp .eq 12, 3) := by decide +kernel
theorem dX16_product_27 : decode cX16_product 27 = .ok (.aload_n 0, 1) := by decide +kernel
theorem dX16_product_28 : decode cX16_product 28 = .ok (.getfield 38, 3) := by decide +kernel
theorem dX16_product_31 : decode cX16_product 31 = .ok (.bipush 37, 2) := by decide +kernel
theorem dX16_product_33 : decode cX16_product 33 = .ok (.if_icmp .ne 59, 3) := by decide +kernel
theorem dX16_product_36 : decode cX16_product 36 = .ok (.aload_n 0, 1) := by decide +kernel
theorem dX16_product_37 : decode cX16_product 37 = .ok (.getfield 38, 3) := by decide +kernel
theorem dX16_product_40 : decode cX16_product 40 = .ok (.bipush 42, 2) := by decide +kernel
theorem dX16_product_42 : decode cX16_product 42 = .ok (.if_icmp .ne 7, 3) := by decide +kernel
theorem dX16_product_45 : decode cX16_product 45 = .ok (.iconst 5, 1) := by decide +kernel
theorem dX16_product_46 : decode cX16_product 46 = .ok (.goto 19, 3) := by decide +kernel
theorem dX16_product_49 : decode cX16_product 49 = .ok (.aload_n 0, 1) := by decide +kernel
theorem dX16_product_50 : decode cX16_product 50 = .ok (.getfield 38, 3) := by decide +kernel
theorem dX16_product_53 : decode cX16_product 53 = .ok (.bipush 47, 2) := by decide +kernel
theorem dX16_product_55 : decode cX16_product 55 = .ok (.if_icmp .ne 8, 3) := by decide +kernel
theorem dX16_product_58 : decode cX16_product 58 = .ok (.bipush 6, 2) := by decide +kernel
theorem dX16_product_60 : decode cX16_product 60 = .ok (.goto 5, 3) := by decide +kernel
theorem dX16_product_63 : decode cX16_product 63 = .ok (.bipush 7, 2) := by decide +kernel
theorem dX16_product_65 : decode cX16_product 65 = .ok (.istore_n 2, 1) := by decide +kernel
theorem dX16_product_66 : decode cX16_product 66 = .ok (.aload_n 0, 1) := by decide +kernel
theorem dX16_product_67 : decode cX16_product 67 = .ok (.invokevirtual 84, 3) := by decide +kernel
theorem dX16_product_70 : decode cX16_product 70 = .ok (.aload_n 0, 1) := by decide +kernel
theorem dX16_product_71 : decode cX16_product 71 = .ok (.iload_n 1, 1) := by decide +kernel
theorem dX16_product_72 : decode cX16_product 72 = .ok (.invokevirtual 156, 3) := by decide +kernel
theorem dX16_product_75 : decode cX16_product 75 = .ok (.aload_n 0, 1) := by decide +kernel
theorem dX16_product_76 : decode cX16_product 76 = .ok (.getfield 118, 3) := by decide +kernel
theorem dX16_product_79 : decode cX16_product 79 = .ok (.iload_n 2, 1) := by decide +kernel
theorem dX16_product_80 : decode cX16_product 80 = .ok (.lconst 0, 1) := by decide +kernel
theorem dX16_product_81 : decode cX16_product 81 = .ok (.invokevirtual 131, 3) := by decide +kernel
theorem dX16_product_84 : decode cX16_product 84 = .ok (.pop, 1) := by decide +kernel
theorem dX16_product_85 : decode cX16_product 85 = .ok (.aload_n 0, 1) := by decide +kernel
theorem dX16_product_86 : decode cX16_product 86 = .ok (.invokevirtual 76, 3) := by decide +kernel
theorem dX16_product_89 : decode cX16_product 89 = .ok (.goto (-80), 3) := by decide +kernel
theorem dX16_product_92 : decode cX16_product 92 = .ok (.return_, 1) := by decide +kernel
set_option maxRecDepth 20000 in
theorem a_X16_product_65 {Q : Sg → Unit → Prop} {X : Sg → String → Prop} {fr0 lw0 : Nat} {rc : Nat → Int → Sg → (Sg → Unit → Prop) → (Sg → String → Prop) → Prop} (K : MC R p s m args c cX16_product 3 RX16 D cA tys A n0 s0 (fr0 + 1) (lw0 + 60) []) (hRC : HRC l D cA tys A dm ra jx rm fr0 lw0 rc) (hf0 : 40 ≤ fr0) (hl0 : 4000 ≤ lw0) (hQ : HQV p l e R s m args below meth c cX16_product D cA A n0 s0 QM dm ra jx rm Q) (hX : HX p l e R s m args below meth c 3 D cA A n0 s0 QM dm ra jx rm X) {K9 : Sg → Int → Prop} (hK9 : ∀ (σ : Sg) (v1 : Int) (g1 : rng v1), K9 σ v1 → RG σ → Shp dm ra jx rm σ → JJ p l e R s m args below meth c 3 D cA A n0 s0 QM σ 9 [(0, .ref rm), (1, .int (i32 v1))] []) : ∀ (σ : Sg) (v1 : Int) (u0 : Int) (g1 : rng v1) (gu0 : rng u0), w_X16_product_65 ra jx rm rc K9 Q X σ v1 u0 → RG σ → Shp dm ra jx rm σ → JJ p l e R s m args below meth c 3 D cA A n0 s0 QM σ 65 [(0, .ref rm), (1, .int (i32 v1))] [.int (i32 u0)] := by
  intro σ v1 u0 g1 gu0 h hGσ hS H locs ls hH hl hc
  have B := K.1
  unfold w_X16_product_65 at h
  refine lv_istore_n (lv' := [(2, .int (i32 u0)), (0, .ref rm), (1, .int (i32 v1))]) B.1 B.2.1 dX16_product_65 rfl hl (by decide) rfl (fun ls hl => ?_)
  refine lv_aload_n B.1 B.2.1 dX16_product_66 rfl (lv_at hl 1 rfl) ?_
  refine c_V B hH hl hc K.2.2.1 (C := RX16) (T := TX16) (N := 123) (ci := 16) (As := []) (ok_X16_take K.2.1 σ hGσ hS h) wc_X16_84 0 hd_X16_take ⟨by have := K.2.2.2.1; omega, by have := K.2.2.2.2.1; omega⟩ hS.1.1 hS.1.2 (by decide) rfl rfl (rest := []) rfl (Nat.le_of_ble_eq_true rfl) dX16_product_67 (fun σ17 w hq => ?_) (fun σ9 E9 hx9 => hX σ9 E9 _ _ _ (tb_out K.2.2.2.2.2 rfl) hx9.1 hx9.2.1 hx9.2.2)
  obtain ⟨rfl, h, hGσ17, hS⟩ := hq
  intro H locs ls hH hl hc
  refine W.eq (g2 := F0 m 70 ls []) (rfl) ?_
  try dsimp only at h
  refine lv_aload_n B.1 B.2.1 dX16_product_70 rfl (lv_at hl 1 rfl) ?_
  refine lv_iload_n B.1 B.2.1 dX16_product_71 rfl (lv_at hl 2 rfl) ?_
  refine c_V B hH hl hc K.2.2.1 (C := RX16) (T := TX16) (N := 123) (ci := 16) (As := [.int (i32 v1)]) (hRC.2.2.2.2.2.2 σ17 v1 g1 hGσ17 hS h) wc_X16_156 1 hd_X16_single ⟨by have := K.2.2.2.1; omega, by have := K.2.2.2.2.1; omega⟩ hS.1.1 hS.1.2 (by decide) rfl rfl (rest := []) rfl (Nat.le_of_ble_eq_true rfl) dX16_product_72 (fun σ18 w hq => ?_) (fun σ9 E9 hx9 => hX σ9 E9 _ _ _ (tb_out K.2.2.2.2.2 rfl) hx9.1 hx9.2.1 hx9.2.2)
  obtain ⟨rfl, h, hGσ18, hS⟩ := hq
  intro H locs ls hH hl hc
  refine W.eq (g2 := F0 m 75 ls []) (rfl) ?_
  try dsimp only at h
  refine lv_aload_n B.1 B.2.1 dX16_product_75 rfl (lv_at hl 1 rfl) ?_
  refine r_getp B hH hS 18 (by decide) wf_X16_118 rfl rfl dX16_product_76 ?_
  refine lv_iload_n B.1 B.2.1 dX16_product_79 rfl (lv_at hl 0 rfl) ?_
  refine lv_lconst (v := 0) B.1 B.2.1 dX16_product_80 (by decide) ?_
  obtain ⟨a19, ea19, ja19, h⟩ := h
  refine W.eq (g2 := F0 m 81 ls [.long 0, .int (i32 u0), .ref a19]) (by rw [ea19]; rfl) ?_
  refine c_V B hH hl hc K.2.2.1 (C := RX15) (T := TX15) (N := 20) (ci := 15) (As := [.int (i32 u0), .long 0]) (ok_X15_step ja19 K.2.1 σ18 u0 0 gu0 hGσ18 hS h) wc_X16_131 2 hd_X15_step ⟨by have := K.2.2.2.1; omega, by have := K.2.2.2.2.1; omega⟩ (hS.jb ja19).1 (hS.jb ja19).2 (by decide) rfl rfl (rest := []) rfl (Nat.le_of_ble_eq_true rfl) dX16_product_81 (fun σ20 w hq => ?_) (fun σ9 E9 hx9 => hX σ9 E9 _ _ _ (tb_out K.2.2.2.2.2 rfl) hx9.1 hx9.2.1 hx9.2.2)
  obtain ⟨r21, rfl, gr21, h, hGσ20, hS⟩ := hq
  intro H locs ls hH hl hc
  refine W.eq (g2 := F0 m 84 ls [.int (i32 r21)]) (rfl) ?_
  try dsimp only at h
  refine lv_pop B.1 B.2.1 dX16_product_84 rfl ?_
  refine lv_aload_n B.1 B.2.1 dX16_product_85 rfl (lv_at hl 1 rfl) ?_
  refine c_V B hH hl hc K.2.2.1 (C := RX16) (T := TX16) (N := 123) (ci := 16) (As := []) (ok_X16_see K.2.1 σ20 hGσ20 hS h) wc_X16_76 0 hd_X16_see ⟨by have := K.2.2.2.1; omega, by have := K.2.2.2.2.1; omega⟩ hS.1.1 hS.1.2 (by decide) rfl rfl (rest := []) rfl (Nat.le_of_ble_eq_true rfl) dX16_product_86 (fun σ22 w hq => ?_) (fun σ9 E9 hx9 => hX σ9 E9 _ _ _ (tb_out K.2.2.2.2.2 rfl) hx9.1 hx9.2.1 hx9.2.2)
  obtain ⟨rfl, h, hGσ22, hS⟩ := hq
  intro H locs ls hH hl hc
  refine W.eq (g2 := F0 m 89 ls []) (rfl) ?_
  try dsimp only at h
  refine lv_goto (tgt := 9) B.1 B.2.1 dX16_product_89 (by decide) ?_
  exact hK9 _ _ g1 h hGσ22 hS _ _ _ hH (lv_sub (l' := [(0, .ref rm), (1, .int (i32 v1))]) hl [1, 2] rfl) hc
set_option maxRecDepth 20000 in
theorem a_X16_product_63 {Q : Sg → Unit → Prop} {X : Sg → String → Prop} {fr0 lw0 : Nat} {rc : Nat → Int → Sg → (Sg → Unit → Prop) → (Sg → String → Prop) → Prop} (K : MC R p s m args c cX16_product 3 RX16 D cA tys A n0 s0 (fr0 + 1) (lw0 + 60) []) (hRC : HRC l D cA tys A dm ra jx rm fr0 lw0 rc) (hf0 : 40 ≤ fr0) (hl0 : 4000 ≤ lw0) (hQ : HQV p l e R s m args below meth c cX16_product D cA A n0 s0 QM dm ra jx rm Q) (hX : HX p l e R s m args below meth c 3 D cA A n0 s0 QM dm ra jx rm X) {K9 : Sg → Int → Prop} (hK9 : ∀ (σ : Sg) (v1 : Int) (g1 : rng v1), K9 σ v1 → RG σ → Shp dm ra jx rm σ → JJ p l e R s m args below meth c 3 D cA A n0 s0 QM σ 9 [(0, .ref rm), (1, .int (i32 v1))] []) : ∀ (σ : Sg) (v1 : Int) (g1 : rng v1), w_X16_product_63 ra jx rm rc K9 Q X σ v1 → RG σ → Shp dm ra jx rm σ → JJ p l e R s m args below meth c 3 D cA A n0 s0 QM σ 63 [(0, .ref rm), (1, .int (i32 v1))] [] := by
  intro σ v1 g1 h hGσ hS H locs ls hH hl hc
  have B := K.1
  unfold w_X16_product_63 at h
  refine lv_bipush (v := i32 7) B.1 B.2.1 dX16_product_63 (by decide) ?_
  exact a_X16_product_65 K hRC hf0 hl0 hQ hX hK9 _ _ _ g1 (by unfold rng; omega) h hGσ hS _ _ _ hH (lv_sub (l' := [(0, .ref rm), (1, .int (i32 v1))]) hl [0, 1] rfl) hc
set_option maxRecDepth 20000 in
theorem a_X16_product_58 {Q : Sg → Unit → Prop} {X : Sg → String → Prop} {fr0 lw0 : Nat} {rc : Nat → Int → Sg → (Sg → Unit → Prop) → (Sg → String → Prop) → Prop} (K : MC R p s m args c cX16_product 3 RX16 D cA tys A n0 s0 (fr0 + 1) (lw0 + 60) []) (hRC : HRC l D cA tys A dm ra jx rm fr0 lw0 rc) (hf0 : 40 ≤ fr0) (hl0 : 4000 ≤ lw0) (hQ : HQV p l e R s m args below meth c cX16_product D cA A n0 s0 QM dm ra jx rm Q) (hX : HX p l e R s m args below meth c 3 D cA A n0 s0 QM dm ra jx rm X) {K9 : Sg → Int → Prop} (hK9 : ∀ (σ : Sg) (v1 : Int) (g1 : rng v1), K9 σ v1 → RG σ → Shp dm ra jx rm σ → JJ p l e R s m args below meth c 3 D cA A n0 s0 QM σ 9 [(0, .ref rm), (1, .int (i32 v1))] []) : ∀ (σ : Sg) (v1 : Int) (g1 : rng v1), w_X16_product_58 ra jx rm rc K9 Q X σ v1 → RG σ → Shp dm ra jx rm σ → JJ p l e R s m args below meth c 3 D cA A n0 s0 QM σ 58 [(0, .ref rm), (1, .int (i32 v1))] [] := by
  intro σ v1 g1 h hGσ hS H locs ls hH hl hc
  have B := K.1
  unfold w_X16_product_58 at h
  refine lv_bipush (v := i32 6) B.1 B.2.1 dX16_product_58 (by decide) ?_
  refine lv_goto (tgt := 65) B.1 B.2.1 dX16_product_60 (by decide) ?_
  exact a_X16_product_65 K hRC hf0 hl0 hQ hX hK9 _ _ _ g1 (by unfold rng; omega) h hGσ hS _ _ _ hH (lv_sub (l' := [(0, .ref rm), (1, .int (i32 v1))]) hl [0, 1] rfl) hc
set_option maxRecDepth 20000 in
theorem a_X16_product_49 {Q : Sg → Unit → Prop} {X : Sg → String → Prop} {fr0 lw0 : Nat} {rc : Nat → Int → Sg → (Sg → Unit → Prop) → (Sg → String → Prop) → Prop} (K : MC R p s m args c cX16_product 3 RX16 D cA tys A n0 s0 (fr0 + 1) (lw0 + 60) []) (hRC : HRC l D cA tys A dm ra jx rm fr0 lw0 rc) (hf0 : 40 ≤ fr0) (hl0 : 4000 ≤ lw0) (hQ : HQV p l e R s m args below meth c cX16_product D cA A n0 s0 QM dm ra jx rm Q) (hX : HX p l e R s m args below meth c 3 D cA A n0 s0 QM dm ra jx rm X) {K9 : Sg → Int → Prop} (hK9 : ∀ (σ : Sg) (v1 : Int) (g1 : rng v1), K9 σ v1 → RG σ → Shp dm ra jx rm σ → JJ p l e R s m args below meth c 3 D cA A n0 s0 QM σ 9 [(0, .ref rm), (1, .int (i32 v1))] []) : ∀ (σ : Sg) (v1 : Int) (g1 : rng v1), w_X16_product_49 ra jx rm rc K9 Q X σ v1 → RG σ → Shp dm ra jx rm σ → JJ p l e R s m args below meth c 3 D cA A n0 s0 QM σ 49 [(0, .ref rm), (1, .int (i32 v1))] [] := by
  intro σ v1 g1 h hGσ hS H locs ls hH hl hc
  have B := K.1
  unfold w_X16_product_49 at h
  refine lv_aload_n B.1 B.2.1 dX16_product_49 rfl (lv_at hl 0 rfl) ?_
  refine r_geti B hH hS 9 (by decide) wf_X16_38 rfl rfl dX16_product_50 ?_
  refine lv_bipush (v := i32 47) B.1 B.2.1 dX16_product_53 (by decide) ?_
  refine lv_icmp_ne (tgt := 63) B.1 B.2.1 dX16_product_55 (by decide) (fun h9 => ?_) (fun h9 => ?_)
  · rw [if_pos (fun q => h9 ((i32_eq (hGσ _ _) (by unfold rng; omega)).mpr q))] at h
    exact a_X16_product_63 K hRC hf0 hl0 hQ hX hK9 _ _ g1 h hGσ hS _ _ _ hH (lv_sub (l' := [(0, .ref rm), (1, .int (i32 v1))]) hl [0, 1] rfl) hc
  · rw [if_neg (fun q => q ((i32_eq (hGσ _ _) (by unfold rng; omega)).mp h9))] at h
    exact a_X16_product_58 K hRC hf0 hl0 hQ hX hK9 _ _ g1 h hGσ hS _ _ _ hH (lv_sub (l' := [(0, .ref rm), (1, .int (i32 v1))]) hl [0, 1] rfl) hc
set_option maxRecDepth 20000 in
theorem a_X16_product_45 {Q : Sg → Unit → Prop} {X : Sg → String → Prop} {fr0 lw0 : Nat} {rc : Nat → Int → Sg → (Sg → Unit → Prop) → (Sg → String → Prop) → Prop} (K : MC R p s m args c cX16_product 3 RX16 D cA tys A n0 s0 (fr0 + 1) (lw0 + 60) []) (hRC : HRC l D cA tys A dm ra jx rm fr0 lw0 rc) (hf0 : 40 ≤ fr0) (hl0 : 4000 ≤ lw0) (hQ : HQV p l e R s m args below meth c cX16_product D cA A n0 s0 QM dm ra jx rm Q) (hX : HX p l e R s m args below meth c 3 D cA A n0 s0 QM dm ra jx rm X) {K9 : Sg → Int → Prop} (hK9 : ∀ (σ : Sg) (v1 : Int) (g1 : rng v1), K9 σ v1 → RG σ → Shp dm ra jx rm σ → JJ p l e R s m args below meth c 3 D cA A n0 s0 QM σ 9 [(0, .ref rm), (1, .int (i32 v1))] []) : ∀ (σ : Sg) (v1 : Int) (g1 : rng v1), w_X16_product_45 ra jx rm rc K9 Q X σ v1 → RG σ → Shp dm ra jx rm σ → JJ p l e R s m args below meth c 3 D cA A n0 s0 QM σ 45 [(0, .ref rm), (1, .int (i32 v1))] [] := by
  intro σ v1 g1 h hGσ hS H locs ls hH hl hc
  have B := K.1
  unfold w_X16_product_45 at h
  refine lv_iconst (v := i32 5) B.1 B.2.1 dX16_product_45 (by decide) ?_
  refine lv_goto (tgt := 65) B.1 B.2.1 dX16_product_46 (by decide) ?_
  exact a_X16_product_65 K hRC hf0 hl0 hQ hX hK9 _ _ _ g1 (by unfold rng; omega) h hGσ hS _ _ _ hH (lv_sub (l' := [(0, .ref rm), (1, .int (i32 v1))]) hl [0, 1] rfl) hc
set_option maxRecDepth 20000 in
theorem a_X16_product_36 {Q : Sg → Unit → Prop} {X : Sg → String → Prop} {fr0 lw0 : Nat} {rc : Nat → Int → Sg → (Sg → Unit → Prop) → (Sg → String → Prop) → Prop} (K : MC R p s m args c cX16_product 3 RX16 D cA tys A n0 s0 (fr0 + 1) (lw0 + 60) []) (hRC : HRC l D cA tys A dm ra jx rm fr0 lw0 rc) (hf0 : 40 ≤ fr0) (hl0 : 4000 ≤ lw0) (hQ : HQV p l e R s m args below meth c cX16_product D cA A n0 s0 QM dm ra jx rm Q) (hX : HX p l e R s m args below meth c 3 D cA A n0 s0 QM dm ra jx rm X) {K9 : Sg → Int → Prop} (hK9 : ∀ (σ : Sg) (v1 : Int) (g1 : rng v1), K9 σ v1 → RG σ → Shp dm ra jx rm σ → JJ p l e R s m args below meth c 3 D cA A n0 s0 QM σ 9 [(0, .ref rm), (1, .int (i32 v1))] []) : ∀ (σ : Sg) (v1 : Int) (g1 : rng v1), w_X16_product_36 ra jx rm rc K9 Q X σ v1 → RG σ → Shp dm ra jx rm σ → JJ p l e R s m args below meth c 3 D cA A n0 s0 QM σ 36 [(0, .ref rm), (1, .int (i32 v1))] [] := by
  intro σ v1 g1 h hGσ hS H locs ls hH hl hc
  have B := K.1
  unfold w_X16_product_36 at h
  refine lv_aload_n B.1 B.2.1 dX16_product_36 rfl (lv_at hl 0 rfl) ?_
  refine r_geti B hH hS 9 (by decide) wf_X16_38 rfl rfl dX16_product_37 ?_
  refine lv_bipush (v := i32 42) B.1 B.2.1 dX16_product_40 (by decide) ?_
  refine lv_icmp_ne (tgt := 49) B.1 B.2.1 dX16_product_42 (by decide) (fun h9 => ?_) (fun h9 => ?_)
  · rw [if_pos (fun q => h9 ((i32_eq (hGσ _ _) (by unfold rng; omega)).mpr q))] at h
    exact a_X16_product_49 K hRC hf0 hl0 hQ hX hK9 _ _ g1 h hGσ hS _ _ _ hH (lv_sub (l' := [(0, .ref rm), (1, .int (i32 v1))]) hl [0, 1] rfl) hc
  · rw [if_neg (fun q => q ((i32_eq (hGσ _ _) (by unfold rng; omega)).mp h9))] at h
    exact a_X16_product_45 K hRC hf0 hl0 hQ hX hK9 _ _ g1 h hGσ hS _ _ _ hH (lv_sub (l' := [(0, .ref rm), (1, .int (i32 v1))]) hl [0, 1] rfl) hc
set_option maxRecDepth 20000 in
theorem a_X16_product_92 {Q : Sg → Unit → Prop} {X : Sg → String → Prop} {fr0 lw0 : Nat} {rc : Nat → Int → Sg → (Sg → Unit → Prop) → (Sg → String → Prop) → Prop} (K : MC R p s m args c cX16_product 3 RX16 D cA tys A n0 s0 (fr0 + 1) (lw0 + 60) []) (hRC : HRC l D cA tys A dm ra jx rm fr0 lw0 rc) (hf0 : 40 ≤ fr0) (hl0 : 4000 ≤ lw0) (hQ : HQV p l e R s m args below meth c cX16_product D cA A n0 s0 QM dm ra jx rm Q) (hX : HX p l e R s m args below meth c 3 D cA A n0 s0 QM dm ra jx rm X) : ∀ (σ : Sg), w_X16_product_92 ra jx rm rc Q X σ → RG σ → Shp dm ra jx rm σ → JJ p l e R s m args below meth c 3 D cA A n0 s0 QM σ 92 [(0, .ref rm)] [] := by
  intro σ h hGσ hS H locs ls hH hl hc
  have B := K.1
  unfold w_X16_product_92 at h
  exact hQ _ _ _ _ _ dX16_product_92 hH hc h hGσ hS
set_option maxRecDepth 20000 in
theorem a_X16_product_27 {Q : Sg → Unit → Prop} {X : Sg → String → Prop} {fr0 lw0 : Nat} {rc : Nat → Int → Sg → (Sg → Unit → Prop) → (Sg → String → Prop) → Prop} (K : MC R p s m args c cX16_product 3 RX16 D cA tys A n0 s0 (fr0 + 1) (lw0 + 60) []) (hRC : HRC l D cA tys A dm ra jx rm fr0 lw0 rc) (hf0 : 40 ≤ fr0) (hl0 : 4000 ≤ lw0) (hQ : HQV p l e R s m args below meth c cX16_product D cA A n0 s0 QM dm ra jx rm Q) (hX : HX p l e R s m args below meth c 3 D cA A n0 s0 QM dm ra jx rm X) {K9 : Sg → Int → Prop} (hK9 : ∀ (σ : Sg) (v1 : Int) (g1 : rng v1), K9 σ v1 → RG σ → Shp dm ra jx rm σ → JJ p l e R s m args below meth c 3 D cA A n0 s0 QM σ 9 [(0, .ref rm), (1, .int (i32 v1))] []) : ∀ (σ : Sg) (v1 : Int) (g1 : rng v1), w_X16_product_27 ra jx rm rc K9 Q X σ v1 → RG σ → Shp dm ra jx rm σ → JJ p l e R s m args below meth c 3 D cA A n0 s0 QM σ 27 [(0, .ref rm), (1, .int (i32 v1))] [] := by
  intro σ v1 g1 h hGσ hS H locs ls hH hl hc
  have B := K.1
  unfold w_X16_product_27 at h
  refine lv_aload_n B.1 B.2.1 dX16_product_27 rfl (lv_at hl 0 rfl) ?_
  refine r_geti B hH hS 9 (by decide) wf_X16_38 rfl rfl dX16_product_28 ?_
  refine lv_bipush (v := i32 37) B.1 B.2.1 dX16_product_31 (by decide) ?_
  refine lv_icmp_ne (tgt := 92) B.1 B.2.1 dX16_product_33 (by decide) (fun h9 => ?_) (fun h9 => ?_)
  · rw [if_pos (fun q => h9 ((i32_eq (hGσ _ _) (by unfold rng; omega)).mpr q))] at h
    exact a_X16_product_92 K hRC hf0 hl0 hQ hX _ h hGσ hS _ _ _ hH (lv_sub (l' := [(0, .ref rm)]) hl [0] rfl) hc
  · rw [if_neg (fun q => q ((i32_eq (hGσ _ _) (by unfold rng; omega)).mp h9))] at h
    exact a_X16_product_36 K hRC hf0 hl0 hQ hX hK9 _ _ g1 h hGσ hS _ _ _ hH (lv_sub (l' := [(0, .ref rm), (1, .int (i32 v1))]) hl [0, 1] rfl) hc
set_option maxRecDepth 20000 in
theorem a_X16_product_18 {Q : Sg → Unit → Prop} {X : Sg → String → Prop} {fr0 lw0 : Nat} {rc : Nat → Int → Sg → (Sg → Unit → Prop) → (Sg → String → Prop) → Prop} (K : MC R p s m args c cX16_product 3 RX16 D cA tys A n0 s0 (fr0 + 1) (lw0 + 60) []) (hRC : HRC l D cA tys A dm ra jx rm fr0 lw0 rc) (hf0 : 40 ≤ fr0) (hl0 : 4000 ≤ lw0) (hQ : HQV p l e R s m args below meth c cX16_product D cA A n0 s0 QM dm ra jx rm Q) (hX : HX p l e R s m args below meth c 3 D cA A n0 s0 QM dm ra jx rm X) {K9 : Sg → Int → Prop} (hK9 : ∀ (σ : Sg) (v1 : Int) (g1 : rng v1), K9 σ v1 → RG σ → Shp dm ra jx rm σ → JJ p l e R s m args below meth c 3 D cA A n0 s0 QM σ 9 [(0, .ref rm), (1, .int (i32 v1))] []) : ∀ (σ : Sg) (v1 : Int) (g1 : rng v1), w_X16_product_18 ra jx rm rc K9 Q X σ v1 → RG σ → Shp dm ra jx rm σ → JJ p l e R s m args below meth c 3 D cA A n0 s0 QM σ 18 [(0, .ref rm), (1, .int (i32 v1))] [] := by
  intro σ v1 g1 h hGσ hS H locs ls hH hl hc
  have B := K.1
  unfold w_X16_product_18 at h
  refine lv_aload_n B.1 B.2.1 dX16_product_18 rfl (lv_at hl 0 rfl) ?_
  refine r_geti B hH hS 9 (by decide) wf_X16_38 rfl rfl dX16_product_19 ?_
  refine lv_bipush (v := i32 47) B.1 B.2.1 dX16_product_22 (by decide) ?_
  refine lv_icmp_eq (tgt := 36) B.1 B.2.1 dX16_product_24 (by decide) (fun h9 => ?_) (fun h9 => ?_)
  · rw [if_pos ((i32_eq (hGσ _ _) (by unfold rng; omega)).mp h9)] at h
    exact a_X16_product_36 K hRC hf0 hl0 hQ hX hK9 _ _ g1 h hGσ hS _ _ _ hH (lv_sub (l' := [(0, .ref rm), (1, .int (i32 v1))]) hl [0, 1] rfl) hc
  · rw [if_neg (fun q => h9 ((i32_eq (hGσ _ _) (by unfold rng; omega)).mpr q))] at h
    exact a_X16_product_27 K hRC hf0 hl0 hQ hX hK9 _ _ g1 h hGσ hS _ _ _ hH (lv_sub (l' := [(0, .ref rm), (1, .int (i32 v1))]) hl [0, 1] rfl) hc
set_option maxRecDepth 20000 in
theorem a_X16_product_9 {Q : Sg → Unit → Prop} {X : Sg → String → Prop} {fr0 lw0 : Nat} {rc : Nat → Int → Sg → (Sg → Unit → Prop) → (Sg → String → Prop) → Prop} (K : MC R p s m args c cX16_product 3 RX16 D cA tys A n0 s0 (fr0 + 1) (lw0 + 60) []) (hRC : HRC l D cA tys A dm ra jx rm fr0 lw0 rc) (hf0 : 40 ≤ fr0) (hl0 : 4000 ≤ lw0) (hQ : HQV p l e R s m args below meth c cX16_product D cA A n0 s0 QM dm ra jx rm Q) (hX : HX p l e R s m args below meth c 3 D cA A n0 s0 QM dm ra jx rm X) {K9 : Sg → Int → Prop} (hK9 : ∀ (σ : Sg) (v1 : Int) (g1 : rng v1), K9 σ v1 → RG σ → Shp dm ra jx rm σ → JJ p l e R s m args below meth c 3 D cA A n0 s0 QM σ 9 [(0, .ref rm), (1, .int (i32 v1))] []) : ∀ (σ : Sg) (v1 : Int) (g1 : rng v1), w_X16_product_9 ra jx rm rc K9 Q X σ v1 → RG σ → Shp dm ra jx rm σ → JJ p l e R s m args below meth c 3 D cA A n0 s0 QM σ 9 [(0, .ref rm), (1, .int (i32 v1))] [] := by
  intro σ v1 g1 h hGσ hS H locs ls hH hl hc
  have B := K.1
  unfold w_X16_product_9 at h
  refine lv_aload_n B.1 B.2.1 dX16_product_9 rfl (lv_at hl 0 rfl) ?_
  refine r_geti B hH hS 9 (by decide) wf_X16_38 rfl rfl dX16_product_10 ?_
  refine lv_bipush (v := i32 42) B.1 B.2.1 dX16_product_13 (by decide) ?_
  refine lv_icmp_eq (tgt := 36) B.1 B.2.1 dX16_product_15 (by decide) (fun h9 => ?_) (fun h9 => ?_)
  · rw [if_pos ((i32_eq (hGσ _ _) (by unfold rng; omega)).mp h9)] at h
    exact a_X16_product_36 K hRC hf0 hl0 hQ hX hK9 _ _ g1 h hGσ hS _ _ _ hH (lv_sub (l' := [(0, .ref rm), (1, .int (i32 v1))]) hl [0, 1] rfl) hc
  · rw [if_neg (fun q => h9 ((i32_eq (hGσ _ _) (by unfold rng; omega)).mpr q))] at h
    exact a_X16_product_18 K hRC hf0 hl0 hQ hX hK9 _ _ g1 h hGσ hS _ _ _ hH (lv_sub (l' := [(0, .ref rm), (1, .int (i32 v1))]) hl [0, 1] rfl) hc
theorem al_X16_product_9 {Q : Sg → Unit → Prop} {X : Sg → String → Prop} {fr0 lw0 : Nat} {rc : Nat → Int → Sg → (Sg → Unit → Prop) → (Sg → String → Prop) → Prop} (K : MC R p s m args c cX16_product 3 RX16 D cA tys A n0 s0 (fr0 + 1) (lw0 + 60) []) (hRC : HRC l D cA tys A dm ra jx rm fr0 lw0 rc) (hf0 : 40 ≤ fr0) (hl0 : 4000 ≤ lw0) (hQ : HQV p l e R s m args below meth c cX16_product D cA A n0 s0 QM dm ra jx rm Q) (hX : HX p l e R s m args below meth c 3 D cA A n0 s0 QM dm ra jx rm X) : ∀ (n : Nat), ∀ (σ : Sg) (v1 : Int) (g1 : rng v1), wl_X16_product_9 ra jx rm rc Q X n σ v1 → RG σ → Shp dm ra jx rm σ → JJ p l e R s m args below meth c 3 D cA A n0 s0 QM σ 9 [(0, .ref rm), (1, .int (i32 v1))] [] := by
  intro n
  induction n with
  | zero => intro σ v1 g1 h; exact h.elim
  | succ n ih => exact fun σ v1 g1 h => a_X16_product_9 K hRC hf0 hl0 hQ hX ih σ v1 g1 h
set_option maxRecDepth 20000 in
theorem a_X16_product_0 {Q : Sg → Unit → Prop} {X : Sg → String → Prop} {fr0 lw0 : Nat} {rc : Nat → Int → Sg → (Sg → Unit → Prop) → (Sg → String → Prop) → Prop} (K : MC R p s m args c cX16_product 3 RX16 D cA tys A n0 s0 (fr0 + 1) (lw0 + 60) []) (hRC : HRC l D cA tys A dm ra jx rm fr0 lw0 rc) (hf0 : 40 ≤ fr0) (hl0 : 4000 ≤ lw0) (hQ : HQV p l e R s m args below meth c cX16_product D cA A n0 s0 QM dm ra jx rm Q) (hX : HX p l e R s m args below meth c 3 D cA A n0 s0 QM dm ra jx rm X) : ∀ (σ : Sg) (v1 : Int) (g1 : rng v1), w_X16_product_0 ra jx rm rc Q X σ v1 → RG σ → Shp dm ra jx rm σ → JJ p l e R s m args below meth c 3 D cA A n0 s0 QM σ 0 [(0, .ref rm), (1, .int (i32 v1))] [] := by
  intro σ v1 g1 h hGσ hS H locs ls hH hl hc
  have B := K.1
  unfold w_X16_product_0 at h
  refine lv_aload_n B.1 B.2.1 dX16_product_0 rfl (lv_at hl 0 rfl) ?_
  refine lv_iload_n B.1 B.2.1 dX16_product_1 rfl (lv_at hl 1 rfl) ?_
  refine c_V B hH hl hc K.2.2.1 (C := RX16) (T := TX16) (N := 123) (ci := 16) (As := [.int (i32 v1)]) (hRC.2.2.2.2.2.2 σ v1 g1 hGσ hS h) wc_X16_156 1 hd_X16_single ⟨by have := K.2.2.2.1; omega, by have := K.2.2.2.2.1; omega⟩ hS.1.1 hS.1.2 (by decide) rfl rfl (rest := []) rfl (Nat.le_of_ble_eq_true rfl) dX16_product_2 (fun σ23 w hq => ?_) (fun σ9 E9 hx9 => hX σ9 E9 _ _ _ (tb_out K.2.2.2.2.2 rfl) hx9.1 hx9.2.1 hx9.2.2)
  obtain ⟨rfl, h, hGσ23, hS⟩ := hq
  intro H locs ls hH hl hc
  refine W.eq (g2 := F0 m 5 ls []) (rfl) ?_
  try dsimp only at h
  refine lv_aload_n B.1 B.2.1 dX16_product_5 rfl (lv_at hl 0 rfl) ?_
  refine c_V B hH hl hc K.2.2.1 (C := RX16) (T := TX16) (N := 123) (ci := 16) (As := []) (ok_X16_see K.2.1 σ23 hGσ23 hS h) wc_X16_76 0 hd_X16_see ⟨by have := K.2.2.2.1; omega, by have := K.2.2.2.2.1; omega⟩ hS.1.1 hS.1.2 (by decide) rfl rfl (rest := []) rfl (Nat.le_of_ble_eq_true rfl) dX16_product_6 (fun σ24 w hq => ?_) (fun σ9 E9 hx9 => hX σ9 E9 _ _ _ (tb_out K.2.2.2.2.2 rfl) hx9.1 hx9.2.1 hx9.2.2)
  obtain ⟨rfl, h, hGσ24, hS⟩ := hq
  intro H locs ls hH hl hc
  refine W.eq (g2 := F0 m 9 ls []) (rfl) ?_
  try dsimp only at h
  obtain ⟨n9, h⟩ := h
  exact al_X16_product_9 K hRC hf0 hl0 hQ hX n9 _ _ g1 h hGσ24 hS _ _ _ hH (lv_sub (l' := [(0, .ref rm), (1, .int (i32 v1))]) hl [0, 1] rfl) hc
theorem ok_X16_product_r {fr0 lw0 : Nat} {rc : Nat → Int → Sg → (Sg → Unit → Prop) → (Sg → String → Prop) → Prop} (hRC : HRC l D cA tys A dm ra jx rm fr0 lw0 rc) (hf0 : 40 ≤ fr0) (hl0 : 4000 ≤ lw0) (hT : Tys cA tys) {Q : Sg → Unit → Prop} {X : Sg → String → Prop} (σ : Sg) (v1 : Int) (g1 : rng v1) (hG : RG σ) (hS : Shp dm ra jx rm σ) (h : w_X16_product_0 ra jx rm rc Q X σ v1) : Ok l D cA tys A yX16_product (.code yX16_product cX16_product 3 none) (fr0 + 1) (lw0 + 60) [.ref rm, .int (i32 v1)] σ (QnV dm ra jx rm Q) (QxR dm ra jx rm X) := by
  exact ok_V (plainFor_of_name (by decide)) (by exact Nat.le_of_ble_eq_true rfl) hT (fun p e R s m args below meth c K hQ hX H locs ls hH hl hc => a_X16_product_0 K hRC hf0 hl0 hQ hX σ v1 g1 h hG hS H locs ls hH (lv_sub (l' := [(0, .ref rm), (1, .int (i32 v1))]) hl [0, 1] rfl) hc)
theorem dX16_single_0 : decode cX16_single 0 = .ok (.aload_n 0, 1) := by decide +kernel
theorem dX16_single_1 : decode cX16_single 1 = .ok (.invokevirtual 76, 3) := by decide +kernel
theorem dX16_single_4 : decode cX16_single 4 = .ok (.aload_n 0, 1) := by decide +kernel
theorem dX16_single_5 : decode cX16_single 5 = .ok (.getfield 38, 3) := by decide +kernel
theorem dX16_single_8 : decode cX16_single 8 = .ok (.bipush 45, 2) := by decide +kernel
theorem dX16_single_10 : decode cX16_single 10 = .ok (.if_icmp .eq 12, 3) := by decide +kernel
theorem dX16_single_13 : decode cX16_single 13 = .ok (.aload_n 0, 1) := by decide +kernel
theorem dX16_single_14 : decode cX16_single 14 = .ok (.getfield 38, 3) := by decide +kernel
theorem dX16_single_17 : decode cX16_single 17 = .ok (.bipush 33, 2) := by decide +kernel
theorem dX16_single_19 : decode cX16_single 19 = .ok (.if_icmp .ne 52, 3) := by decide +kernel
theorem dX16_single_22 : decode cX16_single 22 = .ok (.aload_n 0, 1) := by decide +kernel
theorem dX16_single_23 : decode cX16_single 23 = .ok (.getfield 38, 3) := by decide +kernel
theorem dX16_single_26 : decode cX16_single 26 = .ok (.bipush 45, 2) := by decide +kernel
theorem dX16_single_28 : decode cX16_single 28 = .ok (.if_icmp .ne 8, 3) := by decide +kernel
theorem dX16_single_31 : decode cX16_single 31 = .ok (.bipush 11, 2) := by decide +kernel
theorem dX16_single_33 : decode cX16_single 33 = .ok (.goto 5, 3) := by decide +kernel
theorem dX16_single_36 : decode cX16_single 36 = .ok (.bipush 12, 2) := by decide +kernel
theorem dX16_single_38 : decode cX16_single 38 = .ok (.istore_n 2, 1) := by decide +kernel
theorem dX16_single_39 : decode cX16_single 39 = .ok (.aload_n 0, 1) := by decide +kernel
theorem dX16_single_40 : decode cX16_single 40 = .ok (.invokevirtual 138, 3) := by decide +kernel
theorem dX16_single_43 : decode cX16_single 43 = .ok (.aload_n 0, 1) := by decide +kernel
theorem dX16_single_44 : decode cX16_single 44 = .ok (.iload_n 1, 1) := by decide +kernel
theorem dX16_single_45 : decode cX16_single 45 = .ok (.invokevirtual 156, 3) := by decide +kernel
theorem dX16_single_48 : decode cX16_single 48 = .ok (.aload_n 0, 1) := by decide +kernel
theorem dX16_single_49 : decode cX16_single 49 = .ok (.getfield 118, 3) := by decide +kernel
theorem dX16_single_52 : decode cX16_single 52 = .ok (.iload_n 2, 1) := by decide +kernel
theorem dX16_single_53 : decode cX16_single 53 = .ok (.lconst 0, 1) := by decide +kernel
theorem dX16_single_54 : decode cX16_single 54 = .ok (.invokevirtual 131, 3) := by decide +kernel
theorem dX16_single_57 : decode cX16_single 57 = .ok (.pop, 1) := by decide +kernel
theorem dX16_single_58 : decode cX16_single 58 = .ok (.aload_n 0, 1) := by decide +kernel
theorem dX16_single_59 : decode cX16_single 59 = .ok (.dup, 1) := by decide +kernel
theorem dX16_single_60 : decode cX16_single 60 = .ok (.getfield 115, 3) := by decide +kernel
theorem dX16_single_63 : decode cX16_single 63 = .ok (.iconst 1, 1) := by decide +kernel
theorem dX16_single_64 : decode cX16_single 64 = .ok (.isub, 1) := by decide +kernel
theorem dX16_single_65 : decode cX16_single 65 = .ok (.putfield 115, 3) := by decide +kernel
theorem dX16_single_68 : decode cX16_single 68 = .ok (.goto 133, 3) := by decide +kernel
theorem dX16_single_71 : decode cX16_single 71 = .ok (.aload_n 0, 1) := by decide +kernel
theorem dX16_single_72 : decode cX16_single 72 = .ok (.getfield 38, 3) := by decide +kernel
theorem dX16_single_75 : decode cX16_single 75 = .ok (.bipush 40, 2) := by decide +kernel
theorem dX16_single_77 : decode cX16_single 77 = .ok (.if_icmp .ne 31, 3) := by decide +kernel
theorem dX16_single_80 : decode cX16_single 80 = .ok (.aload_n 0, 1) := by decide +kernel
theorem dX16_single_81 : decode cX16_single 81 = .ok (.invokevirtual 138, 3) := by decide +kernel
theorem dX16_single_84 : decode cX16_single 84 = .ok (.aload_n 0, 1) := by decide +kernel
theorem dX16_single_85 : decode cX16_single 85 = .ok (.iload_n 1, 1) := by decide +kernel
theorem dX16_single_86 : decode cX16_single 86 = .ok (.invokevirtual 127, 3) := by decide +kernel
theorem dX16_single_89 : decode cX16_single 89 = .ok (.aload_n 0, 1) := by decide +kernel
theorem dX16_single_90 : decode cX16_single 90 = .ok (.dup, 1) := by decide +kernel
theorem dX16_single_91 : decode cX16_single 91 = .ok (.getfield 115, 3) := by decide +kernel
theorem dX16_single_94 : decode cX16_single 94 = .ok (.iconst 1, 1) := by decide +kernel
theorem dX16_single_95 : decode cX16_single 95 = .ok (.isub, 1) := by decide +kernel
theorem dX16_single_96 : decode cX16_single 96 = .ok (.putfield 115, 3) := by decide +kernel
theorem dX16_single_99 : decode cX16_single 99 = .ok (.aload_n 0, 1) := by decide +kernel
theorem dX16_single_100 : decode cX16_single 100 = .ok (.bipush 41, 2) := by decide +kernel
theorem dX16_single_102 : decode cX16_single 102 = .ok (.invokevirtual 159, 3) := by decide +kernel
theorem dX16_single_105 : decode cX16_single 105 = .ok (.goto 96, 3) := by decide +kernel
theorem dX16_single_108 : decode cX16_single 108 = .ok (.aload_n 0, 1) := by decide +kernel
theorem dX16_single_109 : decode cX16_single 109 = .ok (.getfield 38, 3) := by decide +kernel
theorem dX16_single_112 : decode cX16_single 112 = .ok (.iconst 2, 1) := by decide +kernel
theorem dX16_single_113 : decode cX16_single 113 = .ok (.if_icmp .ne 23, 3) := by decide +kernel
theorem dX16_single_116 : decode cX16_single 116 = .ok (.aload_n 0, 1) := by decide +kernel
theorem dX16_single_117 : decode cX16_single 117 = .ok (.getfield 118, 3) := by decide +kernel
theorem dX16_single_120 : decode cX16_single 120 = .ok (.iconst 0, 1) := by decide +kernel
theorem dX16_single_121 : decode cX16_single 121 = .ok (.aload_n 0, 1) := by decide +kernel
theorem dX16_single_122 : decode cX16_single 122 = .ok (.getfield 60, 3) := by decide +kernel
theorem dX16_single_125 : decode cX16_single 125 = .ok (.invokevirtual 131, 3) := by decide +kernel
theorem dX16_single_128 : decode cX16_single 128 = .ok (.pop, 1) := by decide +kernel
theorem dX16_single_129 : decode cX16_single 129 = .ok (.aload_n 0, 1) := by decide +kernel
theorem dX16_single_130 : decode cX16_single 130 = .ok (.invokevirtual 84, 3) := by decide +kernel
theorem dX16_single_133 : decode cX16_single 133 = .ok (.goto 68, 3) := by decide +kernel
theorem dX16_single_136 : decode cX16_single 136 = .ok (.aload_n 0, 1) := by decide +kernel
theorem dX16_single_137 : decode cX16_single 137 = .ok (.ldc 162, 2) := by decide +kernel
theorem dX16_single_139 : decode cX16_single 139 = .ok (.invokevirtual 103, 3) := by decide +kernel
theorem dX16_single_142 : decode cX16_single 142 = .ok (.ifCond .eq 20, 3) := by decide +kernel
theorem dX16_single_145 : decode cX16_single 145 = .ok (.aload_n 0, 1) := by decide +kernel
theorem dX16_single_146 : decode cX16_single 146 = .ok (.getfield 118, 3) := by decide +kernel
theorem dX16_single_149 : decode cX16_single 149 = .ok (.iconst 2, 1) := by decide +kernel
theorem dX16_single_150 : decode cX16_single 150 = .ok (.lconst 0, 1) := by decide +kernel
theorem dX16_single_151 : decode cX16_single 151 = .ok (.invokevirtual 131, 3) := by decide +kernel
theorem dX16_single_154 : decode cX16_single 154 = .ok (.pop, 1) := by decide +kernel
theorem dX16_single_155 : decode cX16_single 155 = .ok (.aload_n 0, 1) := by decide +kernel
theorem dX16_single_156 : decode cX16_single 156 = .ok (.invokevirtual 84, 3) := by decide +kernel
theorem dX16_single_159 : decode cX16_single 159 = .ok (.goto 42, 3) := by decide +kernel
theorem dX16_single_162 : decode cX16_single 162 = .ok (.aload_n 0, 1) := by decide +kernel
theorem dX16_single_163 : decode cX16_single 163 = .ok (.getfield 118, 3) := by decide +kernel
theorem dX16_single_166 : decode cX16_single 166 = .ok (.iload_n 1, 1) := by decide +kernel
theorem dX16_single_167 : decode cX16_single 167 = .ok (.aload_n 0, 1) := by decide +kernel
theorem dX16_single_168 : decode cX16_single 168 = .ok (.invokevirtual 164, 3) := by decide +kernel
theorem dX16_single_171 : decode cX16_single 171 = .ok (.invokevirtual 168, 3) := by decide +kernel
theorem dX16_single_174 : decode cX16_single 174 = .ok (.istore_n 2, 1) := by decide +kernel
theorem dX16_single_175 : decode cX16_single 175 = .ok (.iload_n 2, 1) := by decide +kernel
theorem dX16_single_176 : decode cX16_single 176 = .ok (.iconst (-1), 1) := by decide +kernel
theorem dX16_single_177 : decode cX16_single 177 = .ok (.if_icmp .ne 9, 3) := by decide +kernel
theorem dX16_single_180 : decode cX16_single 180 = .ok (.aload_n 0, 1) := by decide +kernel
theorem dX16_single_181 : decode cX16_single 181 = .ok (.iconst 5, 1) := by decide +kernel
theorem dX16_single_182 : decode cX16_single 182 = .ok (.invokevirtual 65, 3) := by decide +kernel
theorem dX16_single_185 : decode cX16_single 185 = .ok (.athrow, 1) := by decide +kernel
theorem dX16_single_186 : decode cX16_single 186 = .ok (.aload_n 0, 1) := by decide +kernel
theorem dX16_single_187 : decode cX16_single 187 = .ok (.getfield 118, 3) := by decide +kernel
theorem dX16_single_190 : decode cX16_single 190 = .ok (.iconst 1, 1) := by decide +kernel
theorem dX16_single_191 : decode cX16_single 191 = .ok (.iload_n 2, 1) := by decide +kernel
theorem dX16_single_192 : decode cX16_single 192 = .ok (.i2l, 1) := by decide +kernel
theorem dX16_single_193 : decode cX16_single 193 = .ok (.invokevirtual 131, 3) := by decide +kernel
theorem dX16_single_196 : decode cX16_single 196 = .ok (.pop, 1) := by decide +kernel
theorem dX16_single_197 : decode cX16_single 197 = .ok (.aload_n 0, 1) := by decide +kernel
theorem dX16_single_198 : decode cX16_single 198 = .ok (.invokevirtual 84, 3) := by decide +kernel
theorem dX16_single_201 : decode cX16_single 201 = .ok (.return_, 1) := by decide +kernel
set_option maxRecDepth 20000 in
theorem a_X16_single_201 {Q : Sg → Unit → Prop} {X : Sg → String → Prop} {fr0 lw0 : Nat} {rc : Nat → Int → Sg → (Sg → Unit → Prop) → (Sg → String → Prop) → Prop} (K : MC R p s m args c cX16_single 3 RX16 D cA tys A n0 s0 (fr0 + 1) (lw0 + 60) []) (hRC : HRC l D cA tys A dm ra jx rm fr0 lw0 rc) (hf0 : 40 ≤ fr0) (hl0 : 4000 ≤ lw0) (hQ : HQV p l e R s m args below meth c cX16_single D cA A n0 s0 QM dm ra jx rm Q) (hX : HX p l e R s m args below meth c 3 D cA A n0 s0 QM dm ra jx rm X) : ∀ (σ : Sg), w_X16_single_201 ra jx rm rc Q X σ → RG σ → Shp dm ra jx rm σ → JJ p l e R s m args below meth c 3 D cA A n0 s0 QM σ 201 [(0, .ref rm)] [] := by
  intro σ h hGσ hS H locs ls hH hl hc
  have B := K.1
  unfold w_X16_single_201 at h
  exact hQ _ _ _ _ _ dX16_single_201 hH hc h hGσ hS
set_option maxRecDepth 20000 in
theorem a_X16_single_38 {Q : Sg → Unit → Prop} {X : Sg → String → Prop} {fr0 lw0 : Nat} {rc : Nat → Int → Sg → (Sg → Unit → Prop) → (Sg → String → Prop) → Prop} (K : MC R p s m args c cX16_single 3 RX16 D cA tys A n0 s0 (fr0 + 1) (lw0 + 60) []) (hRC : HRC l D cA tys A dm ra jx rm fr0 lw0 rc) (hf0 : 40 ≤ fr0) (hl0 : 4000 ≤ lw0) (hQ : HQV p l e R s m args below meth c cX16_single D cA A n0 s0 QM dm ra jx rm Q) (hX : HX p l e R s m args below meth c 3 D cA A n0 s0 QM dm ra jx rm X) : ∀ (σ : Sg) (v1 : Int) (u0 : Int) (g1 : rng v1) (gu0 : rng u0), w_X16_single_38 ra jx rm rc Q X σ v1 u0 → RG σ → Shp dm ra jx rm σ → JJ p l e R s m args below meth c 3 D cA A n0 s0 QM σ 38 [(0, .ref rm), (1, .int (i32 v1))] [.int (i32 u0)] := by
  intro σ v1 u0 g1 gu0 h hGσ hS H locs ls hH hl hc
  have B := K.1
  unfold w_X16_single_38 at h
  refine lv_istore_n (lv' := [(2, .int (i32 u0)), (0, .ref rm), (1, .int (i32 v1))]) B.1 B.2.1 dX16_single_38 rfl hl (by decide) rfl (fun ls hl => ?_)
  refine lv_aload_n B.1 B.2.1 dX16_single_39 rfl (lv_at hl 1 rfl) ?_
  refine c_V B hH hl hc K.2.2.1 (C := RX16) (T := TX16) (N := 123) (ci := 16) (As := []) (ok_X16_opens K.2.1 σ hGσ hS h) wc_X16_138 0 hd_X16_opens ⟨by have := K.2.2.2.1; omega, by have := K.2.2.2.2.1; omega⟩ hS.1.1 hS.1.2 (by decide) rfl rfl (rest := []) rfl (Nat.le_of_ble_eq_true rfl) dX16_single_40 (fun σ65 w hq => ?_) (fun σ9 E9 hx9 => hX σ9 E9 _ _ _ (tb_out K.2.2.2.2.2 rfl) hx9.1 hx9.2.1 hx9.2.2)
  obtain ⟨rfl, h, hGσ65, hS⟩ := hq
  intro H locs ls hH hl hc
  refine W.eq (g2 := F0 m 43 ls []) (rfl) ?_
  try dsimp only at h
  refine lv_aload_n B.1 B.2.1 dX16_single_43 rfl (lv_at hl 1 rfl) ?_
  refine lv_iload_n B.1 B.2.1 dX16_single_44 rfl (lv_at hl 2 rfl) ?_
  refine c_V B hH hl hc K.2.2.1 (C := RX16) (T := TX16) (N := 123) (ci := 16) (As := [.int (i32 v1)]) (hRC.2.2.2.2.2.2 σ65 v1 g1 hGσ65 hS h) wc_X16_156 1 hd_X16_single ⟨by have := K.2.2.2.1; omega, by have := K.2.2.2.2.1; omega⟩ hS.1.1 hS.1.2 (by decide) rfl rfl (rest := []) rfl (Nat.le_of_ble_eq_true rfl) dX16_single_45 (fun σ66 w hq => ?_) (fun σ9 E9 hx9 => hX σ9 E9 _ _ _ (tb_out K.2.2.2.2.2 rfl) hx9.1 hx9.2.1 hx9.2.2)
  obtain ⟨rfl, h, hGσ66, hS⟩ := hq
  intro H locs ls hH hl hc
  refine W.eq (g2 := F0 m 48 ls []) (rfl) ?_
  try dsimp only at h
  refine lv_aload_n B.1 B.2.1 dX16_single_48 rfl (lv_at hl 1 rfl) ?_
  refine r_getp B hH hS 18 (by decide) wf_X16_118 rfl rfl dX16_single_49 ?_
  refine lv_iload_n B.1 B.2.1 dX16_single_52 rfl (lv_at hl 0 rfl) ?_
  refine lv_lconst (v := 0) B.1 B.2.1 dX16_single_53 (by decide) ?_
  obtain ⟨a67, ea67, ja67, h⟩ := h
  refine W.eq (g2 := F0 m 54 ls [.long 0, .int (i32 u0), .ref a67]) (by rw [ea67]; rfl) ?_
  refine c_V B hH hl hc K.2.2.1 (C := RX15) (T := TX15) (N := 20) (ci := 15) (As := [.int (i32 u0), .long 0]) (ok_X15_step ja67 K.2.1 σ66 u0 0 gu0 hGσ66 hS h) wc_X16_131 2 hd_X15_step ⟨by have := K.2.2.2.1; omega, by have := K.2.2.2.2.1; omega⟩ (hS.jb ja67).1 (hS.jb ja67).2 (by decide) rfl rfl (rest := []) rfl (Nat.le_of_ble_eq_true rfl) dX16_single_54 (fun σ68 w hq => ?_) (fun σ9 E9 hx9 => hX σ9 E9 _ _ _ (tb_out K.2.2.2.2.2 rfl) hx9.1 hx9.2.1 hx9.2.2)
  obtain ⟨r69, rfl, gr69, h, hGσ68, hS⟩ := hq
  intro H locs ls hH hl hc
  refine W.eq (g2 := F0 m 57 ls [.int (i32 r69)]) (rfl) ?_
  try dsimp only at h
  refine lv_pop B.1 B.2.1 dX16_single_57 rfl ?_
  refine lv_aload_n B.1 B.2.1 dX16_single_58 rfl (lv_at hl 1 rfl) ?_
  refine lv_dup B.1 B.2.1 dX16_single_59 rfl ?_
  refine r_geti B hH hS 19 (by decide) wf_X16_115 rfl rfl dX16_single_60 ?_
  refine lv_iconst (v := i32 1) B.1 B.2.1 dX16_single_63 (by decide) ?_
  obtain ⟨q2, h⟩ := h
  refine lv_isub B.1 B.2.1 dX16_single_64 ?_
  rw [i32_sub]
  obtain ⟨σ70, eσ70⟩ : ∃ z, z = pI σ68 rm 19 (gI σ68 rm 19 - 1) := ⟨_, rfl⟩
  have h := h σ70 eσ70
  refine r_puti B hH hS 19 (ty := .int) (by decide) wf_X16_115 rfl rfl rfl rfl rfl rfl dX16_single_65 (fun H locs hH => ?_)
  have hH : Hd D cA A s (pI σ68 rm 19 (gI σ68 rm 19 - 1)) H locs := hH
  rw [← eσ70] at hH
  have hGσ70 : RG σ70 := by rw [eσ70]; exact hGσ68.pI q2
  have hS : Shp dm ra jx rm σ70 := by rw [eσ70]; exact hS
  have hc : CB n0 s0 σ70 := by rw [eσ70]; exact hc
  rw [show gc σ68 = gc σ70 by rw [eσ70], show gs σ68 = gs σ70 by rw [eσ70]]
  refine lv_goto (tgt := 201) B.1 B.2.1 dX16_single_68 (by decide) ?_
  exact a_X16_single_201 K hRC hf0 hl0 hQ hX _ h hGσ70 hS _ _ _ hH (lv_sub (l' := [(0, .ref rm)]) hl [1] rfl) hc
set_option maxRecDepth 20000 in
theorem a_X16_single_36 {Q : Sg → Unit → Prop} {X : Sg → String → Prop} {fr0 lw0 : Nat} {rc : Nat → Int → Sg → (Sg → Unit → Prop) → (Sg → String → Prop) → Prop} (K : MC R p s m args c cX16_single 3 RX16 D cA tys A n0 s0 (fr0 + 1) (lw0 + 60) []) (hRC : HRC l D cA tys A dm ra jx rm fr0 lw0 rc) (hf0 : 40 ≤ fr0) (hl0 : 4000 ≤ lw0) (hQ : HQV p l e R s m args below meth c cX16_single D cA A n0 s0 QM dm ra jx rm Q) (hX : HX p l e R s m args below meth c 3 D cA A n0 s0 QM dm ra jx rm X) : ∀ (σ : Sg) (v1 : Int) (g1 : rng v1), w_X16_single_36 ra jx rm rc Q X σ v1 → RG σ → Shp dm ra jx rm σ → JJ p l e R s m args below meth c 3 D cA A n0 s0 QM σ 36 [(0, .ref rm), (1, .int (i32 v1))] [] := by
  intro σ v1 g1 h hGσ hS H locs ls hH hl hc
  have B := K.1
  unfold w_X16_single_36 at h
  refine lv_bipush (v := i32 12) B.1 B.2.1 dX16_single_36 (by decide) ?_
  exact a_X16_single_38 K hRC hf0 hl0 hQ hX _ _ _ g1 (by unfold rng; omega) h hGσ hS _ _ _ hH (lv_sub (l' := [(0, .ref rm), (1, .int (i32 v1))]) hl [0, 1] rfl) hc
set_option maxRecDepth 20000 in
theorem a_X16_single_31 {Q : Sg → Unit → Prop} {X : Sg → String → Prop} {fr0 lw0 : Nat} {rc : Nat → Int → Sg → (Sg → Unit → Prop) → (Sg → String → Prop) → Prop} (K : MC R p s m args c cX16_single 3 RX16 D cA tys A n0 s0 (fr0 + 1) (lw0 + 60) []) (hRC : HRC l D cA tys A dm ra jx rm fr0 lw0 rc) (hf0 : 40 ≤ fr0) (hl0 : 4000 ≤ lw0) (hQ : HQV p l e R s m args below meth c cX16_single D cA A n0 s0 QM dm ra jx rm Q) (hX : HX p l e R s m args below meth c 3 D cA A n0 s0 QM dm ra jx rm X) : ∀ (σ : Sg) (v1 : Int) (g1 : rng v1), w_X16_single_31 ra jx rm rc Q X σ v1 → RG σ → Shp dm ra jx rm σ → JJ p l e R s m args below meth c 3 D cA A n0 s0 QM σ 31 [(0, .ref rm), (1, .int (i32 v1))] [] := by
  intro σ v1 g1 h hGσ hS H locs ls hH hl hc
  have B := K.1
  unfold w_X16_single_31 at h
  refine lv_bipush (v := i32 11) B.1 B.2.1 dX16_single_31 (by decide) ?_
  refine lv_goto (tgt := 38) B.1 B.2.1 dX16_single_33 (by decide) ?_
  exact a_X16_single_38 K hRC hf0 hl0 hQ hX _ _ _ g1 (by unfold rng; omega) h hGσ hS _ _ _ hH (lv_sub (l' := [(0, .ref rm), (1, .int (i32 v1))]) hl [0, 1] rfl) hc
set_option maxRecDepth 20000 in
theorem a_X16_single_22 {Q : Sg → Unit → Prop} {X : Sg → String → Prop} {fr0 lw0 : Nat} {rc : Nat → Int → Sg → (Sg → Unit → Prop) → (Sg → String → Prop) → Prop} (K : MC R p s m args c cX16_single 3 RX16 D cA tys A n0 s0 (fr0 + 1) (lw0 + 60) []) (hRC : HRC l D cA tys A dm ra jx rm fr0 lw0 rc) (hf0 : 40 ≤ fr0) (hl0 : 4000 ≤ lw0) (hQ : HQV p l e R s m args below meth c cX16_single D cA A n0 s0 QM dm ra jx rm Q) (hX : HX p l e R s m args below meth c 3 D cA A n0 s0 QM dm ra jx rm X) : ∀ (σ : Sg) (v1 : Int) (g1 : rng v1), w_X16_single_22 ra jx rm rc Q X σ v1 → RG σ → Shp dm ra jx rm σ → JJ p l e R s m args below meth c 3 D cA A n0 s0 QM σ 22 [(0, .ref rm), (1, .int (i32 v1))] [] := by
  intro σ v1 g1 h hGσ hS H locs ls hH hl hc
  have B := K.1
  unfold w_X16_single_22 at h
  refine lv_aload_n B.1 B.2.1 dX16_single_22 rfl (lv_at hl 0 rfl) ?_
  refine r_geti B hH hS 9 (by decide) wf_X16_38 rfl rfl dX16_single_23 ?_
  refine lv_bipush (v := i32 45) B.1 B.2.1 dX16_single_26 (by decide) ?_
  refine lv_icmp_ne (tgt := 36) B.1 B.2.1 dX16_single_28 (by decide) (fun h9 => ?_) (fun h9 => ?_)
  · rw [if_pos (fun q => h9 ((i32_eq (hGσ _ _) (by unfold rng; omega)).mpr q))] at h
    exact a_X16_single_36 K hRC hf0 hl0 hQ hX _ _ g1 h hGσ hS _ _ _ hH (lv_sub (l' := [(0, .ref rm), (1, .int (i32 v1))]) hl [0, 1] rfl) hc
  · rw [if_neg (fun q => q ((i32_eq (hGσ _ _) (by unfold rng; omega)).mp h9))] at h
    exact a_X16_single_31 K hRC hf0 hl0 hQ hX _ _ g1 h hGσ hS _ _ _ hH (lv_sub (l' := [(0, .ref rm), (1, .int (i32 v1))]) hl [0, 1] rfl) hc
set_option maxRecDepth 20000 in
theorem a_X16_single_186 {Q : Sg → Unit → Prop} {X : Sg → String → Prop} {fr0 lw0 : Nat} {rc : Nat → Int → Sg → (Sg → Unit → Prop) → (Sg → String → Prop) → Prop} (K : MC R p s m args c cX16_single 3 RX16 D cA tys A n0 s0 (fr0 + 1) (lw0 + 60) []) (hRC : HRC l D cA tys A dm ra jx rm fr0 lw0 rc) (hf0 : 40 ≤ fr0) (hl0 : 4000 ≤ lw0) (hQ : HQV p l e R s m args below meth c cX16_single D cA A n0 s0 QM dm ra jx rm Q) (hX : HX p l e R s m args below meth c 3 D cA A n0 s0 QM dm ra jx rm X) : ∀ (σ : Sg) (v2 : Int) (g2 : rng v2), w_X16_single_186 ra jx rm rc Q X σ v2 → RG σ → Shp dm ra jx rm σ → JJ p l e R s m args below meth c 3 D cA A n0 s0 QM σ 186 [(0, .ref rm), (2, .int (i32 v2))] [] := by
  intro σ v2 g2 h hGσ hS H locs ls hH hl hc
  have B := K.1
  unfold w_X16_single_186 at h
  refine lv_aload_n B.1 B.2.1 dX16_single_186 rfl (lv_at hl 0 rfl) ?_
  refine r_getp B hH hS 18 (by decide) wf_X16_118 rfl rfl dX16_single_187 ?_
  refine lv_iconst (v := i32 1) B.1 B.2.1 dX16_single_190 (by decide) ?_
  refine lv_iload_n B.1 B.2.1 dX16_single_191 rfl (lv_at hl 1 rfl) ?_
  refine lv_i2l B.1 B.2.1 dX16_single_192 (i32_i64 g2) ?_
  obtain ⟨a71, ea71, ja71, h⟩ := h
  refine W.eq (g2 := F0 m 193 ls [.long (Int64.ofInt v2), .int (i32 1), .ref a71]) (by rw [ea71]; rfl) ?_
  refine c_V B hH hl hc K.2.2.1 (C := RX15) (T := TX15) (N := 20) (ci := 15) (As := [.int (i32 1), .long (Int64.ofInt v2)]) (ok_X15_step ja71 K.2.1 σ 1 (Int64.ofInt v2) (by unfold rng; omega) hGσ hS h) wc_X16_131 2 hd_X15_step ⟨by have := K.2.2.2.1; omega, by have := K.2.2.2.2.1; omega⟩ (hS.jb ja71).1 (hS.jb ja71).2 (by decide) rfl rfl (rest := []) rfl (Nat.le_of_ble_eq_true rfl) dX16_single_193 (fun σ72 w hq => ?_) (fun σ9 E9 hx9 => hX σ9 E9 _ _ _ (tb_out K.2.2.2.2.2 rfl) hx9.1 hx9.2.1 hx9.2.2)
  obtain ⟨r73, rfl, gr73, h, hGσ72, hS⟩ := hq
  intro H locs ls hH hl hc
  refine W.eq (g2 := F0 m 196 ls [.int (i32 r73)]) (rfl) ?_
  try dsimp only at h
  refine lv_pop B.1 B.2.1 dX16_single_196 rfl ?_
  refine lv_aload_n B.1 B.2.1 dX16_single_197 rfl (lv_at hl 0 rfl) ?_
  refine c_V B hH hl hc K.2.2.1 (C := RX16) (T := TX16) (N := 123) (ci := 16) (As := []) (ok_X16_take K.2.1 σ72 hGσ72 hS h) wc_X16_84 0 hd_X16_take ⟨by have := K.2.2.2.1; omega, by have := K.2.2.2.2.1; omega⟩ hS.1.1 hS.1.2 (by decide) rfl rfl (rest := []) rfl (Nat.le_of_ble_eq_true rfl) dX16_single_198 (fun σ74 w hq => ?_) (fun σ9 E9 hx9 => hX σ9 E9 _ _ _ (tb_out K.2.2.2.2.2 rfl) hx9.1 hx9.2.1 hx9.2.2)
  obtain ⟨rfl, h, hGσ74, hS⟩ := hq
  intro H locs ls hH hl hc
  refine W.eq (g2 := F0 m 201 ls []) (rfl) ?_
  try dsimp only at h
  exact a_X16_single_201 K hRC hf0 hl0 hQ hX _ h hGσ74 hS _ _ _ hH (lv_sub (l' := [(0, .ref rm)]) hl [0] rfl) hc
set_option maxRecDepth 20000 in
theorem a_X16_single_180 {Q : Sg → Unit → Prop} {X : Sg → String → Prop} {fr0 lw0 : Nat} {rc : Nat → Int → Sg → (Sg → Unit → Prop) → (Sg → String → Prop) → Prop} (K : MC R p s m args c cX16_single 3 RX16 D cA tys A n0 s0 (fr0 + 1) (lw0 + 60) []) (hRC : HRC l D cA tys A dm ra jx rm fr0 lw0 rc) (hf0 : 40 ≤ fr0) (hl0 : 4000 ≤ lw0) (hQ : HQV p l e R s m args below meth c cX16_single D cA A n0 s0 QM dm ra jx rm Q) (hX : HX p l e R s m args below meth c 3 D cA A n0 s0 QM dm ra jx rm X) : ∀ (σ : Sg), w_X16_single_180 ra jx rm rc Q X σ → RG σ → Shp dm ra jx rm σ → JJ p l e R s m args below meth c 3 D cA A n0 s0 QM σ 180 [(0, .ref rm)] [] := by
  intro σ h hGσ hS H locs ls hH hl hc
  have B := K.1
  unfold w_X16_single_180 at h
  refine lv_aload_n B.1 B.2.1 dX16_single_180 rfl (lv_at hl 0 rfl) ?_
  refine lv_iconst (v := i32 5) B.1 B.2.1 dX16_single_181 (by decide) ?_
  refine c_V B hH hl hc K.2.2.1 (C := RX16) (T := TX16) (N := 123) (ci := 16) (As := [.int (i32 5)]) (ok_X16_fail K.2.1 σ 5 (by unfold rng; omega) hGσ hS h) wc_X16_65 1 hd_X16_fail ⟨by have := K.2.2.2.1; omega, by have := K.2.2.2.2.1; omega⟩ hS.1.1 hS.1.2 (by decide) rfl rfl (rest := []) rfl (Nat.le_of_ble_eq_true rfl) dX16_single_182 (fun σ75 w hq => ?_) (fun σ9 E9 hx9 => hX σ9 E9 _ _ _ (tb_out K.2.2.2.2.2 rfl) hx9.1 hx9.2.1 hx9.2.2)
  obtain ⟨r76, rfl, h, hGσ75, hS⟩ := hq
  intro H locs ls hH hl hc
  refine W.eq (g2 := F0 m 185 ls [va_rf r76]) (rfl) ?_
  try dsimp only at h
  obtain ⟨qt, h⟩ := h
  refine W.eq (g2 := F0 m 185 ls [.ref (ra 1)]) (by rw [qt]; rfl) ?_
  have hx9 := And.intro h (And.intro hGσ75 hS)
  refine h_athrow B hH hl hc (ci := 14) (hS.ob (k := 1) (ci := 14) (by decide)).1 (hS.ob (k := 1) (ci := 14) (by decide)).2 (by decide) rfl dX16_single_185 ?_
  exact hX σ75 _ _ _ _ (tb_out K.2.2.2.2.2 rfl) hx9.1 hx9.2.1 hx9.2.2
set_option maxRecDepth 20000 in
theorem a_X16_single_162 {Q : Sg → Unit → Prop} {X : Sg → String → Prop} {fr0 lw0 : Nat} {rc : Nat → Int → Sg → (Sg → Unit → Prop) → (Sg → String → Prop) → Prop} (K : MC R p s m args c cX16_single 3 RX16 D cA tys A n0 s0 (fr0 + 1) (lw0 + 60) []) (hRC : HRC l D cA tys A dm ra jx rm fr0 lw0 rc) (hf0 : 40 ≤ fr0) (hl0 : 4000 ≤ lw0) (hQ : HQV p l e R s m args below meth c cX16_single D cA A n0 s0 QM dm ra jx rm Q) (hX : HX p l e R s m args below meth c 3 D cA A n0 s0 QM dm ra jx rm X) : ∀ (σ : Sg) (v1 : Int) (g1 : rng v1), w_X16_single_162 ra jx rm rc Q X σ v1 → RG σ → Shp dm ra jx rm σ → JJ p l e R s m args below meth c 3 D cA A n0 s0 QM σ 162 [(0, .ref rm), (1, .int (i32 v1))] [] := by
  intro σ v1 g1 h hGσ hS H locs ls hH hl hc
  have B := K.1
  unfold w_X16_single_162 at h
  refine lv_aload_n B.1 B.2.1 dX16_single_162 rfl (lv_at hl 0 rfl) ?_
  refine r_getp B hH hS 18 (by decide) wf_X16_118 rfl rfl dX16_single_163 ?_
  refine lv_iload_n B.1 B.2.1 dX16_single_166 rfl (lv_at hl 1 rfl) ?_
  refine lv_aload_n B.1 B.2.1 dX16_single_167 rfl (lv_at hl 0 rfl) ?_
  refine c_V B hH hl hc K.2.2.1 (C := RX16) (T := TX16) (N := 123) (ci := 16) (As := []) (ok_X16_seeName K.2.1 σ hGσ hS h) wc_X16_164 0 hd_X16_seeName ⟨by have := K.2.2.2.1; omega, by have := K.2.2.2.2.1; omega⟩ hS.1.1 hS.1.2 (by decide) rfl rfl (rest := [.int (i32 v1), va_rf (gP σ rm 18)]) rfl (by simp only [List.map_cons, List.map_nil, rf_cat]; exact Nat.le_of_ble_eq_true rfl) dX16_single_168 (fun σ77 w hq => ?_) (fun σ9 E9 hx9 => hX σ9 E9 _ _ _ (tb_out K.2.2.2.2.2 rfl) hx9.1 hx9.2.1 hx9.2.2)
  obtain ⟨r78, rfl, h, hGσ77, hS⟩ := hq
  intro H locs ls hH hl hc
  refine W.eq (g2 := F0 m 171 ls [.long r78, .int (i32 v1), va_rf (gP σ rm 18)]) (rfl) ?_
  try dsimp only at h
  obtain ⟨a79, ea79, ja79, h⟩ := h
  refine W.eq (g2 := F0 m 171 ls [.long r78, .int (i32 v1), .ref a79]) (by rw [ea79]; rfl) ?_
  refine c_V B hH hl hc K.2.2.1 (C := RX15) (T := TX15) (N := 20) (ci := 15) (As := [.int (i32 v1), .long r78]) (ok_X15_column ja79 K.2.1 σ77 v1 r78 g1 hGσ77 hS h) wc_X16_168 2 hd_X15_column ⟨by have := K.2.2.2.1; omega, by have := K.2.2.2.2.1; omega⟩ (hS.jb ja79).1 (hS.jb ja79).2 (by decide) rfl rfl (rest := []) rfl (Nat.le_of_ble_eq_true rfl) dX16_single_171 (fun σ80 w hq => ?_) (fun σ9 E9 hx9 => hX σ9 E9 _ _ _ (tb_out K.2.2.2.2.2 rfl) hx9.1 hx9.2.1 hx9.2.2)
  obtain ⟨r81, rfl, gr81, h, hGσ80, hS⟩ := hq
  intro H locs ls hH hl hc
  refine W.eq (g2 := F0 m 174 ls [.int (i32 r81)]) (rfl) ?_
  try dsimp only at h
  refine lv_istore_n (lv' := [(2, .int (i32 r81)), (0, .ref rm), (1, .int (i32 v1))]) B.1 B.2.1 dX16_single_174 rfl hl (by decide) rfl (fun ls hl => ?_)
  refine lv_iload_n B.1 B.2.1 dX16_single_175 rfl (lv_at hl 0 rfl) ?_
  refine lv_iconst (v := i32 (-1)) B.1 B.2.1 dX16_single_176 (by decide) ?_
  refine lv_icmp_ne (tgt := 186) B.1 B.2.1 dX16_single_177 (by decide) (fun h9 => ?_) (fun h9 => ?_)
  · rw [if_pos (fun q => h9 ((i32_eq gr81 (by unfold rng; omega)).mpr q))] at h
    exact a_X16_single_186 K hRC hf0 hl0 hQ hX _ _ gr81 h hGσ80 hS _ _ _ hH (lv_sub (l' := [(0, .ref rm), (2, .int (i32 r81))]) hl [1, 0] rfl) hc
  · rw [if_neg (fun q => q ((i32_eq gr81 (by unfold rng; omega)).mp h9))] at h
    exact a_X16_single_180 K hRC hf0 hl0 hQ hX _ h hGσ80 hS _ _ _ hH (lv_sub (l' := [(0, .ref rm)]) hl [1] rfl) hc
set_option maxRecDepth 20000 in
theorem a_X16_single_145 {Q : Sg → Unit → Prop} {X : Sg → String → Prop} {fr0 lw0 : Nat} {rc : Nat → Int → Sg → (Sg → Unit → Prop) → (Sg → String → Prop) → Prop} (K : MC R p s m args c cX16_single 3 RX16 D cA tys A n0 s0 (fr0 + 1) (lw0 + 60) []) (hRC : HRC l D cA tys A dm ra jx rm fr0 lw0 rc) (hf0 : 40 ≤ fr0) (hl0 : 4000 ≤ lw0) (hQ : HQV p l e R s m args below meth c cX16_single D cA A n0 s0 QM dm ra jx rm Q) (hX : HX p l e R s m args below meth c 3 D cA A n0 s0 QM dm ra jx rm X) : ∀ (σ : Sg), w_X16_single_145 ra jx rm rc Q X σ → RG σ → Shp dm ra jx rm σ → JJ p l e R s m args below meth c 3 D cA A n0 s0 QM σ 145 [(0, .ref rm)] [] := by
  intro σ h hGσ hS H locs ls hH hl hc
  have B := K.1
  unfold w_X16_single_145 at h
  refine lv_aload_n B.1 B.2.1 dX16_single_145 rfl (lv_at hl 0 rfl) ?_
  refine r_getp B hH hS 18 (by decide) wf_X16_118 rfl rfl dX16_single_146 ?_
  refine lv_iconst (v := i32 2) B.1 B.2.1 dX16_single_149 (by decide) ?_
  refine lv_lconst (v := 0) B.1 B.2.1 dX16_single_150 (by decide) ?_
  obtain ⟨a82, ea82, ja82, h⟩ := h
  refine W.eq (g2 := F0 m 151 ls [.long 0, .int (i32 2), .ref a82]) (by rw [ea82]; rfl) ?_
  refine c_V B hH hl hc K.2.2.1 (C := RX15) (T := TX15) (N := 20) (ci := 15) (As := [.int (i32 2), .long 0]) (ok_X15_step ja82 K.2.1 σ 2 0 (by unfold rng; omega) hGσ hS h) wc_X16_131 2 hd_X15_step ⟨by have := K.2.2.2.1; omega, by have := K.2.2.2.2.1; omega⟩ (hS.jb ja82).1 (hS.jb ja82).2 (by decide) rfl rfl (rest := []) rfl (Nat.le_of_ble_eq_true rfl) dX16_single_151 (fun σ83 w hq => ?_) (fun σ9 E9 hx9 => hX σ9 E9 _ _ _ (tb_out K.2.2.2.2.2 rfl) hx9.1 hx9.2.1 hx9.2.2)
  obtain ⟨r84, rfl, gr84, h, hGσ83, hS⟩ := hq
  intro H locs ls hH hl hc
  refine W.eq (g2 := F0 m 154 ls [.int (i32 r84)]) (rfl) ?_
  try dsimp only at h
  refine lv_pop B.1 B.2.1 dX16_single_154 rfl ?_
  refine lv_aload_n B.1 B.2.1 dX16_single_155 rfl (lv_at hl 0 rfl) ?_
  refine c_V B hH hl hc K.2.2.1 (C := RX16) (T := TX16) (N := 123) (ci := 16) (As := []) (ok_X16_take K.2.1 σ83 hGσ83 hS h) wc_X16_84 0 hd_X16_take ⟨by have := K.2.2.2.1; omega, by have := K.2.2.2.2.1; omega⟩ hS.1.1 hS.1.2 (by decide) rfl rfl (rest := []) rfl (Nat.le_of_ble_eq_true rfl) dX16_single_156 (fun σ85 w hq => ?_) (fun σ9 E9 hx9 => hX σ9 E9 _ _ _ (tb_out K.2.2.2.2.2 rfl) hx9.1 hx9.2.1 hx9.2.2)
  obtain ⟨rfl, h, hGσ85, hS⟩ := hq
  intro H locs ls hH hl hc
  refine W.eq (g2 := F0 m 159 ls []) (rfl) ?_
  try dsimp only at h
  refine lv_goto (tgt := 201) B.1 B.2.1 dX16_single_159 (by decide) ?_
  exact a_X16_single_201 K hRC hf0 hl0 hQ hX _ h hGσ85 hS _ _ _ hH (lv_sub (l' := [(0, .ref rm)]) hl [0] rfl) hc
set_option maxRecDepth 20000 in
theorem a_X16_single_136 {Q : Sg → Unit → Prop} {X : Sg → String → Prop} {fr0 lw0 : Nat} {rc : Nat → Int → Sg → (Sg → Unit → Prop) → (Sg → String → Prop) → Prop} (K : MC R p s m args c cX16_single 3 RX16 D cA tys A n0 s0 (fr0 + 1) (lw0 + 60) []) (hRC : HRC l D cA tys A dm ra jx rm fr0 lw0 rc) (hf0 : 40 ≤ fr0) (hl0 : 4000 ≤ lw0) (hQ : HQV p l e R s m args below meth c cX16_single D cA A n0 s0 QM dm ra jx rm Q) (hX : HX p l e R s m args below meth c 3 D cA A n0 s0 QM dm ra jx rm X) : ∀ (σ : Sg) (v1 : Int) (g1 : rng v1), w_X16_single_136 ra jx rm rc Q X σ v1 → RG σ → Shp dm ra jx rm σ → JJ p l e R s m args below meth c 3 D cA A n0 s0 QM σ 136 [(0, .ref rm), (1, .int (i32 v1))] [] := by
  intro σ v1 g1 h hGσ hS H locs ls hH hl hc
  have B := K.1
  unfold w_X16_single_136 at h
  refine lv_aload_n B.1 B.2.1 dX16_single_136 rfl (lv_at hl 0 rfl) ?_
  refine xs_ldc B.1 B.2.1 B.2.2.1 (B.2.2.2.2.2.2.2.2.2.2.1 _ (List.mem_of_getElem? (l := stL) (i := 1) rfl)).1 dX16_single_137 ?_
  refine c_V B hH hl hc K.2.2.1 (C := RX16) (T := TX16) (N := 123) (ci := 16) (As := [.ref (cA (1000 + 162))]) (ok_X16_isWord K.2.1 σ 162 st_162 hGσ hS h) wc_X16_103 1 hd_X16_isWord ⟨by have := K.2.2.2.1; omega, by have := K.2.2.2.2.1; omega⟩ hS.1.1 hS.1.2 (by decide) rfl rfl (rest := []) rfl (Nat.le_of_ble_eq_true rfl) dX16_single_139 (fun σ86 w hq => ?_) (fun σ9 E9 hx9 => hX σ9 E9 _ _ _ (tb_out K.2.2.2.2.2 rfl) hx9.1 hx9.2.1 hx9.2.2)
  obtain ⟨r87, rfl, ⟨gr87, gzr87⟩, h, hGσ86, hS⟩ := hq
  intro H locs ls hH hl hc
  refine W.eq (g2 := F0 m 142 ls [.int (i32 r87)]) (rfl) ?_
  try dsimp only at h
  refine lv_if_eq (tgt := 162) B.1 B.2.1 dX16_single_142 (by decide) (fun h9 => ?_) (fun h9 => ?_)
  · rw [if_pos ((z_eq gr87).mp h9)] at h
    exact a_X16_single_162 K hRC hf0 hl0 hQ hX _ _ g1 h hGσ86 hS _ _ _ hH (lv_sub (l' := [(0, .ref rm), (1, .int (i32 v1))]) hl [0, 1] rfl) hc
  · rw [if_neg (fun q => h9 ((z_eq gr87).mpr q))] at h
    exact a_X16_single_145 K hRC hf0 hl0 hQ hX _ h hGσ86 hS _ _ _ hH (lv_sub (l' := [(0, .ref rm)]) hl [0] rfl) hc
set_option maxRecDepth 20000 in
theorem a_X16_single_116 {Q : Sg → Unit → Prop} {X : Sg → String → Prop} {fr0 lw0 : Nat} {rc : Nat → Int → Sg → (Sg → Unit → Prop) → (Sg → String → Prop) → Prop} (K : MC R p s m args c cX16_single 3 RX16 D cA tys A n0 s0 (fr0 + 1) (lw0 + 60) []) (hRC : HRC l D cA tys A dm ra jx rm fr0 lw0 rc) (hf0 : 40 ≤ fr0) (hl0 : 4000 ≤ lw0) (hQ : HQV p l e R s m args below meth c cX16_single D cA A n0 s0 QM dm ra jx rm Q) (hX : HX p l e R s m args below meth c 3 D cA A n0 s0 QM dm ra jx rm X) : ∀ (σ : Sg), w_X16_single_116 ra jx rm rc Q X σ → RG σ → Shp dm ra jx rm σ → JJ p l e R s m args below meth c 3 D cA A n0 s0 QM σ 116 [(0, .ref rm)] [] := by
  intro σ h hGσ hS H locs ls hH hl hc
  have B := K.1
  unfold w_X16_single_116 at h
  refine lv_aload_n B.1 B.2.1 dX16_single_116 rfl (lv_at hl 0 rfl) ?_
  refine r_getp B hH hS 18 (by decide) wf_X16_118 rfl rfl dX16_single_117 ?_
  refine lv_iconst (v := i32 0) B.1 B.2.1 dX16_single_120 (by decide) ?_
  refine lv_aload_n B.1 B.2.1 dX16_single_121 rfl (lv_at hl 0 rfl) ?_
  refine r_getl B hH hS 13 (by decide) wf_X16_60 rfl rfl dX16_single_122 ?_
  obtain ⟨a88, ea88, ja88, h⟩ := h
  refine W.eq (g2 := F0 m 125 ls [.long (gJ σ rm 13), .int (i32 0), .ref a88]) (by rw [ea88]; rfl) ?_
  refine c_V B hH hl hc K.2.2.1 (C := RX15) (T := TX15) (N := 20) (ci := 15) (As := [.int (i32 0), .long (gJ σ rm 13)]) (ok_X15_step ja88 K.2.1 σ 0 (gJ σ rm 13) (by unfold rng; omega) hGσ hS h) wc_X16_131 2 hd_X15_step ⟨by have := K.2.2.2.1; omega, by have := K.2.2.2.2.1; omega⟩ (hS.jb ja88).1 (hS.jb ja88).2 (by decide) rfl rfl (rest := []) rfl (Nat.le_of_ble_eq_true rfl) dX16_single_125 (fun σ89 w hq => ?_) (fun σ9 E9 hx9 => hX σ9 E9 _ _ _ (tb_out K.2.2.2.2.2 rfl) hx9.1 hx9.2.1 hx9.2.2)
  obtain ⟨r90, rfl, gr90, h, hGσ89, hS⟩ := hq
  intro H locs ls hH hl hc
  refine W.eq (g2 := F0 m 128 ls [.int (i32 r90)]) (rfl) ?_
  try dsimp only at h
  refine lv_pop B.1 B.2.1 dX16_single_128 rfl ?_
  refine lv_aload_n B.1 B.2.1 dX16_single_129 rfl (lv_at hl 0 rfl) ?_
  refine c_V B hH hl hc K.2.2.1 (C := RX16) (T := TX16) (N := 123) (ci := 16) (As := []) (ok_X16_take K.2.1 σ89 hGσ89 hS h) wc_X16_84 0 hd_X16_take ⟨by have := K.2.2.2.1; omega, by have := K.2.2.2.2.1; omega⟩ hS.1.1 hS.1.2 (by decide) rfl rfl (rest := []) rfl (Nat.le_of_ble_eq_true rfl) dX16_single_130 (fun σ91 w hq => ?_) (fun σ9 E9 hx9 => hX σ9 E9 _ _ _ (tb_out K.2.2.2.2.2 rfl) hx9.1 hx9.2.1 hx9.2.2)
  obtain ⟨rfl, h, hGσ91, hS⟩ := hq
  intro H locs ls hH hl hc
  refine W.eq (g2 := F0 m 133 ls []) (rfl) ?_
  try dsimp only at h
  refine lv_goto (tgt := 201) B.1 B.2.1 dX16_single_133 (by decide) ?_
  exact a_X16_single_201 K hRC hf0 hl0 hQ hX _ h hGσ91 hS _ _ _ hH (lv_sub (l' := [(0, .ref rm)]) hl [0] rfl) hc
set_option maxRecDepth 20000 in
theorem a_X16_single_108 {Q : Sg → Unit → Prop} {X : Sg → String → Prop} {fr0 lw0 : Nat} {rc : Nat → Int → Sg → (Sg → Unit → Prop) → (Sg → String → Prop) → Prop} (K : MC R p s m args c cX16_single 3 RX16 D cA tys A n0 s0 (fr0 + 1) (lw0 + 60) []) (hRC : HRC l D cA tys A dm ra jx rm fr0 lw0 rc) (hf0 : 40 ≤ fr0) (hl0 : 4000 ≤ lw0) (hQ : HQV p l e R s m args below meth c cX16_single D cA A n0 s0 QM dm ra jx rm Q) (hX : HX p l e R s m args below meth c 3 D cA A n0 s0 QM dm ra jx rm X) : ∀ (σ : Sg) (v1 : Int) (g1 : rng v1), w_X16_single_108 ra jx rm rc Q X σ v1 → RG σ → Shp dm ra jx rm σ → JJ p l e R s m args below meth c 3 D cA A n0 s0 QM σ 108 [(0, .ref rm), (1, .int (i32 v1))] [] := by
  intro σ v1 g1 h hGσ hS H locs ls hH hl hc
  have B := K.1
  unfold w_X16_single_108 at h
  refine lv_aload_n B.1 B.2.1 dX16_single_108 rfl (lv_at hl 0 rfl) ?_
  refine r_geti B hH hS 9 (by decide) wf_X16_38 rfl rfl dX16_single_109 ?_
  refine lv_iconst (v := i32 2) B.1 B.2.1 dX16_single_112 (by decide) ?_
  refine lv_icmp_ne (tgt := 136) B.1 B.2.1 dX16_single_113 (by decide) (fun h9 => ?_) (fun h9 => ?_)
  · rw [if_pos (fun q => h9 ((i32_eq (hGσ _ _) (by unfold rng; omega)).mpr q))] at h
    exact a_X16_single_136 K hRC hf0 hl0 hQ hX _ _ g1 h hGσ hS _ _ _ hH (lv_sub (l' := [(0, .ref rm), (1, .int (i32 v1))]) hl [0, 1] rfl) hc
  · rw [if_neg (fun q => q ((i32_eq (hGσ _ _) (by unfold rng; omega)).mp h9))] at h
    exact a_X16_single_116 K hRC hf0 hl0 hQ hX _ h hGσ hS _ _ _ hH (lv_sub (l' := [(0, .ref rm)]) hl [0] rfl) hc
set_option maxRecDepth 20000 in
theorem a_X16_single_80 {Q : Sg → Unit → Prop} {X : Sg → String → Prop} {fr0 lw0 : Nat} {rc : Nat → Int → Sg → (Sg → Unit → Prop) → (Sg → String → Prop) → Prop} (K : MC R p s m args c cX16_single 3 RX16 D cA tys A n0 s0 (fr0 + 1) (lw0 + 60) []) (hRC : HRC l D cA tys A dm ra jx rm fr0 lw0 rc) (hf0 : 40 ≤ fr0) (hl0 : 4000 ≤ lw0) (hQ : HQV p l e R s m args below meth c cX16_single D cA A n0 s0 QM dm ra jx rm Q) (hX : HX p l e R s m args below meth c 3 D cA A n0 s0 QM dm ra jx rm X) : ∀ (σ : Sg) (v1 : Int) (g1 : rng v1), w_X16_single_80 ra jx rm rc Q X σ v1 → RG σ → Shp dm ra jx rm σ → JJ p l e R s m args below meth c 3 D cA A n0 s0 QM σ 80 [(0, .ref rm), (1, .int (i32 v1))] [] := by
  intro σ v1 g1 h hGσ hS H locs ls hH hl hc
  have B := K.1
  unfold w_X16_single_80 at h
  refine lv_aload_n B.1 B.2.1 dX16_single_80 rfl (lv_at hl 0 rfl) ?_
  refine c_V B hH hl hc K.2.2.1 (C := RX16) (T := TX16) (N := 123) (ci := 16) (As := []) (ok_X16_opens K.2.1 σ hGσ hS h) wc_X16_138 0 hd_X16_opens ⟨by have := K.2.2.2.1; omega, by have := K.2.2.2.2.1; omega⟩ hS.1.1 hS.1.2 (by decide) rfl rfl (rest := []) rfl (Nat.le_of_ble_eq_true rfl) dX16_single_81 (fun σ92 w hq => ?_) (fun σ9 E9 hx9 => hX σ9 E9 _ _ _ (tb_out K.2.2.2.2.2 rfl) hx9.1 hx9.2.1 hx9.2.2)
  obtain ⟨rfl, h, hGσ92, hS⟩ := hq
  intro H locs ls hH hl hc
  refine W.eq (g2 := F0 m 84 ls []) (rfl) ?_
  try dsimp only at h
  refine lv_aload_n B.1 B.2.1 dX16_single_84 rfl (lv_at hl 0 rfl) ?_
  refine lv_iload_n B.1 B.2.1 dX16_single_85 rfl (lv_at hl 1 rfl) ?_
  refine c_V B hH hl hc K.2.2.1 (C := RX16) (T := TX16) (N := 123) (ci := 16) (As := [.int (i32 v1)]) (hRC.1 σ92 v1 g1 hGσ92 hS h) wc_X16_127 1 hd_X16_choice ⟨by have := K.2.2.2.1; omega, by have := K.2.2.2.2.1; omega⟩ hS.1.1 hS.1.2 (by decide) rfl rfl (rest := []) rfl (Nat.le_of_ble_eq_true rfl) dX16_single_86 (fun σ93 w hq => ?_) (fun σ9 E9 hx9 => hX σ9 E9 _ _ _ (tb_out K.2.2.2.2.2 rfl) hx9.1 hx9.2.1 hx9.2.2)
  obtain ⟨rfl, h, hGσ93, hS⟩ := hq
  intro H locs ls hH hl hc
  refine W.eq (g2 := F0 m 89 ls []) (rfl) ?_
  try dsimp only at h
  refine lv_aload_n B.1 B.2.1 dX16_single_89 rfl (lv_at hl 0 rfl) ?_
  refine lv_dup B.1 B.2.1 dX16_single_90 rfl ?_
  refine r_geti B hH hS 19 (by decide) wf_X16_115 rfl rfl dX16_single_91 ?_
  refine lv_iconst (v := i32 1) B.1 B.2.1 dX16_single_94 (by decide) ?_
  obtain ⟨q1, h⟩ := h
  refine lv_isub B.1 B.2.1 dX16_single_95 ?_
  rw [i32_sub]
  obtain ⟨σ94, eσ94⟩ : ∃ z, z = pI σ93 rm 19 (gI σ93 rm 19 - 1) := ⟨_, rfl⟩
  have h := h σ94 eσ94
  refine r_puti B hH hS 19 (ty := .int) (by decide) wf_X16_115 rfl rfl rfl rfl rfl rfl dX16_single_96 (fun H locs hH => ?_)
  have hH : Hd D cA A s (pI σ93 rm 19 (gI σ93 rm 19 - 1)) H locs := hH
  rw [← eσ94] at hH
  have hGσ94 : RG σ94 := by rw [eσ94]; exact hGσ93.pI q1
  have hS : Shp dm ra jx rm σ94 := by rw [eσ94]; exact hS
  have hc : CB n0 s0 σ94 := by rw [eσ94]; exact hc
  rw [show gc σ93 = gc σ94 by rw [eσ94], show gs σ93 = gs σ94 by rw [eσ94]]
  refine lv_aload_n B.1 B.2.1 dX16_single_99 rfl (lv_at hl 0 rfl) ?_
  refine lv_bipush (v := i32 41) B.1 B.2.1 dX16_single_100 (by decide) ?_
  refine c_V B hH hl hc K.2.2.1 (C := RX16) (T := TX16) (N := 123) (ci := 16) (As := [.int (i32 41)]) (ok_X16_sign K.2.1 σ94 41 (by unfold rng; omega) hGσ94 hS h) wc_X16_159 1 hd_X16_sign ⟨by have := K.2.2.2.1; omega, by have := K.2.2.2.2.1; omega⟩ hS.1.1 hS.1.2 (by decide) rfl rfl (rest := []) rfl (Nat.le_of_ble_eq_true rfl) dX16_single_102 (fun σ95 w hq => ?_) (fun σ9 E9 hx9 => hX σ9 E9 _ _ _ (tb_out K.2.2.2.2.2 rfl) hx9.1 hx9.2.1 hx9.2.2)
  obtain ⟨rfl, h, hGσ95, hS⟩ := hq
  intro H locs ls hH hl hc
  refine W.eq (g2 := F0 m 105 ls []) (rfl) ?_
  try dsimp only at h
  refine lv_goto (tgt := 201) B.1 B.2.1 dX16_single_105 (by decide) ?_
  exact a_X16_single_201 K hRC hf0 hl0 hQ hX _ h hGσ95 hS _ _ _ hH (lv_sub (l' := [(0, .ref rm)]) hl [0] rfl) hc
set_option maxRecDepth 20000 in
theorem a_X16_single_71 {Q : Sg → Unit → Prop} {X : Sg → String → Prop} {fr0 lw0 : Nat} {rc : Nat → Int → Sg → (Sg → Unit → Prop) → (Sg → String → Prop) → Prop} (K : MC R p s m args c cX16_single 3 RX16 D cA tys A n0 s0 (fr0 + 1) (lw0 + 60) []) (hRC : HRC l D cA tys A dm ra jx rm fr0 lw0 rc) (hf0 : 40 ≤ fr0) (hl0 : 4000 ≤ lw0) (hQ : HQV p l e R s m args below meth c cX16_single D cA A n0 s0 QM dm ra jx rm Q) (hX : HX p l e R s m args below meth c 3 D cA A n0 s0 QM dm ra jx rm X) : ∀ (σ : Sg) (v1 : Int) (g1 : rng v1), w_X16_single_71 ra jx rm rc Q X σ v1 → RG σ → Shp dm ra jx rm σ → JJ p l e R s m args below meth c 3 D cA A n0 s0 QM σ 71 [(0, .ref rm), (1, .int (i32 v1))] [] := by
  intro σ v1 g1 h hGσ hS H locs ls hH hl hc
  have B := K.1
  unfold w_X16_single_71 at h
  refine lv_aload_n B.1 B.2.1 dX16_single_71 rfl (lv_at hl 0 rfl) ?_
  refine r_geti B hH hS 9 (by decide) wf_X16_38 rfl rfl dX16_single_72 ?_
  refine lv_bipush (v := i32 40) B.1 B.2.1 dX16_single_75 (by decide) ?_
  refine lv_icmp_ne (tgt := 108) B.1 B.2.1 dX16_single_77 (by decide) (fun h9 => ?_) (fun h9 => ?_)
  · rw [if_pos (fun q => h9 ((i32_eq (hGσ _ _) (by unfold rng; omega)).mpr q))] at h
    exact a_X16_single_108 K hRC hf0 hl0 hQ hX _ _ g1 h hGσ hS _ _ _ hH (lv_sub (l' := [(0, .ref rm), (1, .int (i32 v1))]) hl [0, 1] rfl) hc
  · rw [if_neg (fun q => q ((i32_eq (hGσ _ _) (by unfold rng; omega)).mp h9))] at h
    exact a_X16_single_80 K hRC hf0 hl0 hQ hX _ _ g1 h hGσ hS _ _ _ hH (lv_sub (l' := [(0, .ref rm), (1, .int (i32 v1))]) hl [0, 1] rfl) hc
set_option maxRecDepth 20000 in
theorem a_X16_single_13 {Q : Sg → Unit → Prop} {X : Sg → String → Prop} {fr0 lw0 : Nat} {rc : Nat → Int → Sg → (Sg → Unit → Prop) → (Sg → String → Prop) → Prop} (K : MC R p s m args c cX16_single 3 RX16 D cA tys A n0 s0 (fr0 + 1) (lw0 + 60) []) (hRC : HRC l D cA tys A dm ra jx rm fr0 lw0 rc) (hf0 : 40 ≤ fr0) (hl0 : 4000 ≤ lw0) (hQ : HQV p l e R s m args below meth c cX16_single D cA A n0 s0 QM dm ra jx rm Q) (hX : HX p l e R s m args below meth c 3 D cA A n0 s0 QM dm ra jx rm X) : ∀ (σ : Sg) (v1 : Int) (g1 : rng v1), w_X16_single_13 ra jx rm rc Q X σ v1 → RG σ → Shp dm ra jx rm σ → JJ p l e R s m args below meth c 3 D cA A n0 s0 QM σ 13 [(0, .ref rm), (1, .int (i32 v1))] [] := by
  intro σ v1 g1 h hGσ hS H locs ls hH hl hc
  have B := K.1
  unfold w_X16_single_13 at h
  refine lv_aload_n B.1 B.2.1 dX16_single_13 rfl (lv_at hl 0 rfl) ?_
  refine r_geti B hH hS 9 (by decide) wf_X16_38 rfl rfl dX16_single_14 ?_
  refine lv_bipush (v := i32 33) B.1 B.2.1 dX16_single_17 (by decide) ?_
  refine lv_icmp_ne (tgt := 71) B.1 B.2.1 dX16_single_19 (by decide) (fun h9 => ?_) (fun h9 => ?_)
  · rw [if_pos (fun q => h9 ((i32_eq (hGσ _ _) (by unfold rng; omega)).mpr q))] at h
    exact a_X16_single_71 K hRC hf0 hl0 hQ hX _ _ g1 h hGσ hS _ _ _ hH (lv_sub (l' := [(0, .ref rm), (1, .int (i32 v1))]) hl [0, 1] rfl) hc
  · rw [if_neg (fun q => q ((i32_eq (hGσ _ _) (by unfold rng; omega)).mp h9))] at h
    exact a_X16_single_22 K hRC hf0 hl0 hQ hX _ _ g1 h hGσ hS _ _ _ hH (lv_sub (l' := [(0, .ref rm), (1, .int (i32 v1))]) hl [0, 1] rfl) hc
set_option maxRecDepth 20000 in
theorem a_X16_single_0 {Q : Sg → Unit → Prop} {X : Sg → String → Prop} {fr0 lw0 : Nat} {rc : Nat → Int → Sg → (Sg → Unit → Prop) → (Sg → String → Prop) → Prop} (K : MC R p s m args c cX16_single 3 RX16 D cA tys A n0 s0 (fr0 + 1) (lw0 + 60) []) (hRC : HRC l D cA tys A dm ra jx rm fr0 lw0 rc) (hf0 : 40 ≤ fr0) (hl0 : 4000 ≤ lw0) (hQ : HQV p l e R s m args below meth c cX16_single D cA A n0 s0 QM dm ra jx rm Q) (hX : HX p l e R s m args below meth c 3 D cA A n0 s0 QM dm ra jx rm X) : ∀ (σ : Sg) (v1 : Int) (g1 : rng v1), w_X16_single_0 ra jx rm rc Q X σ v1 → RG σ → Shp dm ra jx rm σ → JJ p l e R s m args below meth c 3 D cA A n0 s0 QM σ 0 [(0, .ref rm), (1, .int (i32 v1))] [] := by
  intro σ v1 g1 h hGσ hS H locs ls hH hl hc
  have B := K.1
  unfold w_X16_single_0 at h
  refine lv_aload_n B.1 B.2.1 dX16_single_0 rfl (lv_at hl 0 rfl) ?_
  refine c_V B hH hl hc K.2.2.1 (C := RX16) (T := TX16) (N := 123) (ci := 16) (As := []) (ok_X16_see K.2.1 σ hGσ hS h) wc_X16_76 0 hd_X16_see ⟨by have := K.2.2.2.1; omega, by have := K.2.2.2.2.1; omega⟩ hS.1.1 hS.1.2 (by decide) rfl rfl (rest := []) rfl (Nat.le_of_ble_eq_true rfl) dX16_single_1 (fun σ96 w hq => ?_) (fun σ9 E9 hx9 => hX σ9 E9 _ _ _ (tb_out K.2.2.2.2.2 rfl) hx9.1 hx9.2.1 hx9.2.2)
  obtain ⟨rfl, h, hGσ96, hS⟩ := hq
  intro H locs ls hH hl hc
  refine W.eq (g2 := F0 m 4 ls []) (rfl) ?_
  try dsimp only at h
  refine lv_aload_n B.1 B.2.1 dX16_single_4 rfl (lv_at hl 0 rfl) ?_
  refine r_geti B hH hS 9 (by decide) wf_X16_38 rfl rfl dX16_single_5 ?_
  refine lv_bipush (v := i32 45) B.1 B.2.1 dX16_single_8 (by decide) ?_
  refine lv_icmp_eq (tgt := 22) B.1 B.2.1 dX16_single_10 (by decide) (fun h9 => ?_) (fun h9 => ?_)
  · rw [if_pos ((i32_eq (hGσ96 _ _) (by unfold rng; omega)).mp h9)] at h
    exact a_X16_single_22 K hRC hf0 hl0 hQ hX _ _ g1 h hGσ96 hS _ _ _ hH (lv_sub (l' := [(0, .ref rm), (1, .int (i32 v1))]) hl [0, 1] rfl) hc
  · rw [if_neg (fun q => h9 ((i32_eq (hGσ96 _ _) (by unfold rng; omega)).mpr q))] at h
    exact a_X16_single_13 K hRC hf0 hl0 hQ hX _ _ g1 h hGσ96 hS _ _ _ hH (lv_sub (l' := [(0, .ref rm), (1, .int (i32 v1))]) hl [0, 1] rfl) hc
theorem ok_X16_single_r {fr0 lw0 : Nat} {rc : Nat → Int → Sg → (Sg → Unit → Prop) → (Sg → String → Prop) → Prop} (hRC : HRC l D cA tys A dm ra jx rm fr0 lw0 rc) (hf0 : 40 ≤ fr0) (hl0 : 4000 ≤ lw0) (hT : Tys cA tys) {Q : Sg → Unit → Prop} {X : Sg → String → Prop} (σ : Sg) (v1 : Int) (g1 : rng v1) (hG : RG σ) (hS : Shp dm ra jx rm σ) (h : w_X16_single_0 ra jx rm rc Q X σ v1) : Ok l D cA tys A yX16_single (.code yX16_single cX16_single 3 none) (fr0 + 1) (lw0 + 60) [.ref rm, .int (i32 v1)] σ (QnV dm ra jx rm Q) (QxR dm ra jx rm X) := by
  exact ok_V (plainFor_of_name (by decide)) (by exact Nat.le_of_ble_eq_true rfl) hT (fun p e R s m args below meth c K hQ hX H locs ls hH hl hc => a_X16_single_0 K hRC hf0 hl0 hQ hX σ v1 g1 h hG hS H locs ls hH (lv_sub (l' := [(0, .ref rm), (1, .int (i32 v1))]) hl [0, 1] rfl) hc)
theorem rec_allR (hT : Tys cA tys) : ∀ n : Nat, HRC l D cA tys A dm ra jx rm (40 + n) (4000 + 60 * n) (wrec ra jx rm n) := by
  intro n
  induction n with
  | zero => exact ⟨fun σ v1 g1 hG hS Q X h => h.elim, fun σ v1 g1 hG hS Q X h => h.elim, fun σ v1 g1 hG hS Q X h => h.elim, fun σ v1 g1 hG hS Q X h => h.elim, fun σ v1 g1 hG hS Q X h => h.elim, fun σ v1 g1 hG hS Q X h => h.elim, fun σ v1 g1 hG hS Q X h => h.elim⟩
  | succ n ih =>
    have e9 : 4000 + 60 * (n + 1) = (4000 + 60 * n) + 60 := by omega
    rw [e9]
    exact ⟨fun σ v1 g1 hG hS Q X h => ok_X16_choice_r ih (by omega) (by omega) hT σ v1 g1 hG hS h, fun σ v1 g1 hG hS Q X h => ok_X16_either_r ih (by omega) (by omega) hT σ v1 g1 hG hS h, fun σ v1 g1 hG hS Q X h => ok_X16_both_r ih (by omega) (by omega) hT σ v1 g1 hG hS h, fun σ v1 g1 hG hS Q X h => ok_X16_compared_r ih (by omega) (by omega) hT σ v1 g1 hG hS h, fun σ v1 g1 hG hS Q X h => ok_X16_sum_r ih (by omega) (by omega) hT σ v1 g1 hG hS h, fun σ v1 g1 hG hS Q X h => ok_X16_product_r ih (by omega) (by omega) hT σ v1 g1 hG hS h, fun σ v1 g1 hG hS Q X h => ok_X16_single_r ih (by omega) (by omega) hT σ v1 g1 hG hS h⟩
theorem ok_X16_choice (hT : Tys cA tys) {Q : Sg → Unit → Prop} {X : Sg → String → Prop} (σ : Sg) (v1 : Int) (g1 : rng v1) (hG : RG σ) (hS : Shp dm ra jx rm σ) (h : wp_X16_choice ra jx rm v1 σ Q X) : Ok l D cA tys A yX16_choice (.code yX16_choice cX16_choice 4 none) 140 10000 [.ref rm, .int (i32 v1)] σ (QnV dm ra jx rm Q) (QxR dm ra jx rm X) := (rec_allR hT 100).1 σ v1 g1 hG hS h
theorem ok_X16_either (hT : Tys cA tys) {Q : Sg → Unit → Prop} {X : Sg → String → Prop} (σ : Sg) (v1 : Int) (g1 : rng v1) (hG : RG σ) (hS : Shp dm ra jx rm σ) (h : wp_X16_either ra jx rm v1 σ Q X) : Ok l D cA tys A yX16_either (.code yX16_either cX16_either 4 none) 140 10000 [.ref rm, .int (i32 v1)] σ (QnV dm ra jx rm Q) (QxR dm ra jx rm X) := (rec_allR hT 100).2.1 σ v1 g1 hG hS h
theorem ok_X16_both (hT : Tys cA tys) {Q : Sg → Unit → Prop} {X : Sg → String → Prop} (σ : Sg) (v1 : Int) (g1 : rng v1) (hG : RG σ) (hS : Shp dm ra jx rm σ) (h : wp_X16_both ra jx rm v1 σ Q X) : Ok l D cA tys A yX16_both (.code yX16_both cX16_both 4 none) 140 10000 [.ref rm, .int (i32 v1)] σ (QnV dm ra jx rm Q) (QxR dm ra jx rm X) := (rec_allR hT 100).2.2.1 σ v1 g1 hG hS h
theorem ok_X16_compared (hT : Tys cA tys) {Q : Sg → Unit → Prop} {X : Sg → String → Prop} (σ : Sg) (v1 : Int) (g1 : rng v1) (hG : RG σ) (hS : Shp dm ra jx rm σ) (h : wp_X16_compared ra jx rm v1 σ Q X) : Ok l D cA tys A yX16_compared (.code yX16_compared cX16_compared 3 none) 140 10000 [.ref rm, .int (i32 v1)] σ (QnV dm ra jx rm Q) (QxR dm ra jx rm X) := (rec_allR hT 100).2.2.2.1 σ v1 g1 hG hS h
theorem ok_X16_sum (hT : Tys cA tys) {Q : Sg → Unit → Prop} {X : Sg → String → Prop} (σ : Sg) (v1 : Int) (g1 : rng v1) (hG : RG σ) (hS : Shp dm ra jx rm σ) (h : wp_X16_sum ra jx rm v1 σ Q X) : Ok l D cA tys A yX16_sum (.code yX16_sum cX16_sum 3 none) 140 10000 [.ref rm, .int (i32 v1)] σ (QnV dm ra jx rm Q) (QxR dm ra jx rm X) := (rec_allR hT 100).2.2.2.2.1 σ v1 g1 hG hS h
theorem ok_X16_product (hT : Tys cA tys) {Q : Sg → Unit → Prop} {X : Sg → String → Prop} (σ : Sg) (v1 : Int) (g1 : rng v1) (hG : RG σ) (hS : Shp dm ra jx rm σ) (h : wp_X16_product ra jx rm v1 σ Q X) : Ok l D cA tys A yX16_product (.code yX16_product cX16_product 3 none) 140 10000 [.ref rm, .int (i32 v1)] σ (QnV dm ra jx rm Q) (QxR dm ra jx rm X) := (rec_allR hT 100).2.2.2.2.2.1 σ v1 g1 hG hS h
theorem ok_X16_single (hT : Tys cA tys) {Q : Sg → Unit → Prop} {X : Sg → String → Prop} (σ : Sg) (v1 : Int) (g1 : rng v1) (hG : RG σ) (hS : Shp dm ra jx rm σ) (h : wp_X16_single ra jx rm v1 σ Q X) : Ok l D cA tys A yX16_single (.code yX16_single cX16_single 3 none) 140 10000 [.ref rm, .int (i32 v1)] σ (QnV dm ra jx rm Q) (QxR dm ra jx rm X) := (rec_allR hT 100).2.2.2.2.2.2 σ v1 g1 hG hS h
end M56

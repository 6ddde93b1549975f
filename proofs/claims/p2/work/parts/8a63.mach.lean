section M63
variable {p : Program} {l : Launch} {e : Env} {R : Room} {s : State} {m : MethodId} {args : Array Value} {below : List Frame} {meth : Method} {c : Code} {D : va_G} {cA : Nat → ClassId} {tys : List (ClassId × FieldType)} {A : Nat → Prop} {n0 s0 : Nat} {QM : State → Prop} {dm : List Nat × Nat × Nat} {ra : Nat → Nat} {jx : Nat → Nat → Nat} {rm : Nat}
theorem dX16_top_0 : decode cX16_top 0 = .ok (.aload_n 0, 1) := by decide +kernel
theorem dX16_top_1 : decode cX16_top 1 = .ok (.getfield 118, 3) := by decide +kernel
theorem dX16_top_4 : decode cX16_top 4 = .ok (.getfield 191, 3) := by decide +kernel
theorem dX16_top_7 : decode cX16_top 7 = .ok (.iload_n 1, 1) := by decide +kernel
theorem dX16_top_8 : decode cX16_top 8 = .ok (.aload_n 0, 1) := by decide +kernel
theorem dX16_top_9 : decode cX16_top 9 = .ok (.lconst 1, 1) := by decide +kernel
theorem dX16_top_10 : decode cX16_top 10 = .ok (.ldc2_w 273, 3) := by decide +kernel
theorem dX16_top_13 : decode cX16_top 13 = .ok (.invokevirtual 209, 3) := by decide +kernel
theorem dX16_top_16 : decode cX16_top 16 = .ok (.lastore, 1) := by decide +kernel
theorem dX16_top_17 : decode cX16_top 17 = .ok (.aload_n 0, 1) := by decide +kernel
theorem dX16_top_18 : decode cX16_top 18 = .ok (.invokevirtual 175, 3) := by decide +kernel
theorem dX16_top_21 : decode cX16_top 21 = .ok (.istore_n 2, 1) := by decide +kernel
theorem dX16_top_22 : decode cX16_top 22 = .ok (.aload_n 0, 1) := by decide +kernel
theorem dX16_top_23 : decode cX16_top 23 = .ok (.getfield 118, 3) := by decide +kernel
theorem dX16_top_26 : decode cX16_top 26 = .ok (.iload_n 2, 1) := by decide +kernel
theorem dX16_top_27 : decode cX16_top 27 = .ok (.ldc_w 275, 3) := by decide +kernel
theorem dX16_top_30 : decode cX16_top 30 = .ok (.invokestatic 99, 3) := by decide +kernel
theorem dX16_top_33 : decode cX16_top 33 = .ok (.invokevirtual 168, 3) := by decide +kernel
theorem dX16_top_36 : decode cX16_top 36 = .ok (.iconst (-1), 1) := by decide +kernel
theorem dX16_top_37 : decode cX16_top 37 = .ok (.if_icmp .eq 10, 3) := by decide +kernel
theorem dX16_top_40 : decode cX16_top 40 = .ok (.aload_n 0, 1) := by decide +kernel
theorem dX16_top_41 : decode cX16_top 41 = .ok (.bipush 6, 2) := by decide +kernel
theorem dX16_top_43 : decode cX16_top 43 = .ok (.invokevirtual 65, 3) := by decide +kernel
theorem dX16_top_46 : decode cX16_top 46 = .ok (.athrow, 1) := by decide +kernel
theorem dX16_top_47 : decode cX16_top 47 = .ok (.aload_n 0, 1) := by decide +kernel
theorem dX16_top_48 : decode cX16_top 48 = .ok (.getfield 118, 3) := by decide +kernel
theorem dX16_top_51 : decode cX16_top 51 = .ok (.getfield 178, 3) := by decide +kernel
theorem dX16_top_54 : decode cX16_top 54 = .ok (.iload_n 2, 1) := by decide +kernel
theorem dX16_top_55 : decode cX16_top 55 = .ok (.iaload, 1) := by decide +kernel
theorem dX16_top_56 : decode cX16_top 56 = .ok (.bipush 8, 2) := by decide +kernel
theorem dX16_top_58 : decode cX16_top 58 = .ok (.if_icmp .ne 10, 3) := by decide +kernel
theorem dX16_top_61 : decode cX16_top 61 = .ok (.aload_n 0, 1) := by decide +kernel
theorem dX16_top_62 : decode cX16_top 62 = .ok (.bipush 8, 2) := by decide +kernel
theorem dX16_top_64 : decode cX16_top 64 = .ok (.invokevirtual 65, 3) := by decide +kernel
theorem dX16_top_67 : decode cX16_top 67 = .ok (.athrow, 1) := by decide +kernel
theorem dX16_top_68 : decode cX16_top 68 = .ok (.aload_n 0, 1) := by decide +kernel
theorem dX16_top_69 : decode cX16_top 69 = .ok (.invokevirtual 84, 3) := by decide +kernel
theorem dX16_top_72 : decode cX16_top 72 = .ok (.aload_n 0, 1) := by decide +kernel
theorem dX16_top_73 : decode cX16_top 73 = .ok (.getfield 118, 3) := by decide +kernel
theorem dX16_top_76 : decode cX16_top 76 = .ok (.getfield 216, 3) := by decide +kernel
theorem dX16_top_79 : decode cX16_top 79 = .ok (.iload_n 1, 1) := by decide +kernel
theorem dX16_top_80 : decode cX16_top 80 = .ok (.iload_n 2, 1) := by decide +kernel
theorem dX16_top_81 : decode cX16_top 81 = .ok (.iastore, 1) := by decide +kernel
theorem dX16_top_82 : decode cX16_top 82 = .ok (.aload_n 0, 1) := by decide +kernel
theorem dX16_top_83 : decode cX16_top 83 = .ok (.getfield 118, 3) := by decide +kernel
theorem dX16_top_86 : decode cX16_top 86 = .ok (.iload_n 1, 1) := by decide +kernel
theorem dX16_top_87 : decode cX16_top 87 = .ok (.iload_n 2, 1) := by decide +kernel
theorem dX16_top_88 : decode cX16_top 88 = .ok (.invokevirtual 234, 3) := by decide +kernel
theorem dX16_top_91 : decode cX16_top 91 = .ok (.aload_n 0, 1) := by decide +kernel
theorem dX16_top_92 : decode cX16_top 92 = .ok (.getfield 118, 3) := by decide +kernel
theorem dX16_top_95 : decode cX16_top 95 = .ok (.iload_n 1, 1) := by decide +kernel
theorem dX16_top_96 : decode cX16_top 96 = .ok (.ldc_w 275, 3) := by decide +kernel
theorem dX16_top_99 : decode cX16_top 99 = .ok (.invokestatic 99, 3) := by decide +kernel
theorem dX16_top_102 : decode cX16_top 102 = .ok (.invokevirtual 182, 3) := by decide +kernel
theorem dX16_top_105 : decode cX16_top 105 = .ok (.aload_n 0, 1) := by decide +kernel
theorem dX16_top_106 : decode cX16_top 106 = .ok (.ldc 237, 2) := by decide +kernel
theorem dX16_top_108 : decode cX16_top 108 = .ok (.invokevirtual 200, 3) := by decide +kernel
theorem dX16_top_111 : decode cX16_top 111 = .ok (.aload_n 0, 1) := by decide +kernel
theorem dX16_top_112 : decode cX16_top 112 = .ok (.getfield 118, 3) := by decide +kernel
theorem dX16_top_115 : decode cX16_top 115 = .ok (.getfield 239, 3) := by decide +kernel
theorem dX16_top_118 : decode cX16_top 118 = .ok (.iload_n 1, 1) := by decide +kernel
theorem dX16_top_119 : decode cX16_top 119 = .ok (.aload_n 0, 1) := by decide +kernel
theorem dX16_top_120 : decode cX16_top 120 = .ok (.iload_n 2, 1) := by decide +kernel
theorem dX16_top_121 : decode cX16_top 121 = .ok (.invokevirtual 241, 3) := by decide +kernel
theorem dX16_top_124 : decode cX16_top 124 = .ok (.iastore, 1) := by decide +kernel
theorem dX16_top_125 : decode cX16_top 125 = .ok (.aload_n 0, 1) := by decide +kernel
theorem dX16_top_126 : decode cX16_top 126 = .ok (.ldc 244, 2) := by decide +kernel
theorem dX16_top_128 : decode cX16_top 128 = .ok (.invokevirtual 200, 3) := by decide +kernel
theorem dX16_top_131 : decode cX16_top 131 = .ok (.aload_n 0, 1) := by decide +kernel
theorem dX16_top_132 : decode cX16_top 132 = .ok (.getfield 118, 3) := by decide +kernel
theorem dX16_top_135 : decode cX16_top 135 = .ok (.getfield 204, 3) := by decide +kernel
theorem dX16_top_138 : decode cX16_top 138 = .ok (.iload_n 1, 1) := by decide +kernel
theorem dX16_top_139 : decode cX16_top 139 = .ok (.aload_n 0, 1) := by decide +kernel
theorem dX16_top_140 : decode cX16_top 140 = .ok (.lconst 1, 1) := by decide +kernel
theorem dX16_top_141 : decode cX16_top 141 = .ok (.ldc2_w 207, 3) := by decide +kernel
theorem dX16_top_144 : decode cX16_top 144 = .ok (.invokevirtual 209, 3) := by decide +kernel
theorem dX16_top_147 : decode cX16_top 147 = .ok (.lastore, 1) := by decide +kernel
theorem dX16_top_148 : decode cX16_top 148 = .ok (.return_, 1) := by decide +kernel
set_option maxRecDepth 20000 in
theorem a_X16_top_68 {Q : Sg → Unit → Prop} {X : Sg → String → Prop} (K : MC R p s m args c cX16_top 3 RX16 D cA tys A n0 s0 8 175 []) (hQ : HQV p l e R s m args below meth c cX16_top D cA A n0 s0 QM dm ra jx rm Q) (hX : HX p l e R s m args below meth c 3 D cA A n0 s0 QM dm ra jx rm X) : ∀ (σ : Sg) (v1 : Int) (v2 : Int) (g1 : rng v1) (g2 : rng v2), w_X16_top_68 ra jx rm Q X σ v1 v2 → RG σ → Shp dm ra jx rm σ → JJ p l e R s m args below meth c 3 D cA A n0 s0 QM σ 68 [(0, .ref rm), (1, .int (i32 v1)), (2, .int (i32 v2))] [] := by
  intro σ v1 v2 g1 g2 h hGσ hS H locs ls hH hl hc
  have B := K.1
  unfold w_X16_top_68 at h
  refine lv_aload_n B.1 B.2.1 dX16_top_68 rfl (lv_at hl 0 rfl) ?_
  refine c_V B hH hl hc K.2.2.1 (C := RX16) (T := TX16) (N := 123) (ci := 16) (As := []) (ok_X16_take K.2.1 σ hGσ hS h) wc_X16_84 0 hd_X16_take ⟨Nat.le_trans (Nat.le_of_ble_eq_true rfl) K.2.2.2.1, Nat.le_trans (Nat.le_of_ble_eq_true rfl) K.2.2.2.2.1⟩ hS.1.1 hS.1.2 (by decide) rfl rfl (rest := []) rfl (Nat.le_of_ble_eq_true rfl) dX16_top_69 (fun σ71 w hq => ?_) (fun σ9 E9 hx9 => hX σ9 E9 _ _ _ (tb_out K.2.2.2.2.2 rfl) hx9.1 hx9.2.1 hx9.2.2)
  obtain ⟨rfl, h, hGσ71, hS⟩ := hq
  intro H locs ls hH hl hc
  refine W.eq (g2 := F0 m 72 ls []) (rfl) ?_
  try dsimp only at h
  refine lv_aload_n B.1 B.2.1 dX16_top_72 rfl (lv_at hl 0 rfl) ?_
  refine r_getp B hH hS 18 (by decide) wf_X16_118 rfl rfl dX16_top_73 ?_
  obtain ⟨a72, ea72, ja72, h⟩ := h
  refine W.eq (g2 := F0 m 76 ls [.ref a72]) (by rw [ea72]; rfl) ?_
  refine n_arr B hH hS ja72 4 (kd := 100) (n := 16) (by decide) (by decide) (List.mem_of_getElem? (i := 4) rfl) rfl dX16_top_76 ?_
  refine lv_iload_n B.1 B.2.1 dX16_top_79 rfl (lv_at hl 1 rfl) ?_
  refine lv_iload_n B.1 B.2.1 dX16_top_80 rfl (lv_at hl 2 rfl) ?_
  obtain ⟨q2, h⟩ := h
  obtain ⟨σ73, eσ73⟩ : ∃ z, z = pI σ71 (jx a72 4) v1.toNat v2 := ⟨_, rfl⟩
  have h := h σ73 eσ73
  refine x_iast B K.2.1 hH (hS.ja ja72 (k := 4) (kd := 100) (n := 16) (by decide)) (by decide) q2 dX16_top_81 (fun H locs hH => ?_)
  have hH : Hd D cA A s (pI σ71 (jx a72 4) v1.toNat v2) H locs := hH
  rw [← eσ73] at hH
  have hGσ73 : RG σ73 := by rw [eσ73]; exact hGσ71.pI g2
  have hS : Shp dm ra jx rm σ73 := by rw [eσ73]; exact hS
  have hc : CB n0 s0 σ73 := by rw [eσ73]; exact hc
  rw [show gc σ71 = gc σ73 by rw [eσ73], show gs σ71 = gs σ73 by rw [eσ73]]
  refine lv_aload_n B.1 B.2.1 dX16_top_82 rfl (lv_at hl 0 rfl) ?_
  refine r_getp B hH hS 18 (by decide) wf_X16_118 rfl rfl dX16_top_83 ?_
  refine lv_iload_n B.1 B.2.1 dX16_top_86 rfl (lv_at hl 1 rfl) ?_
  refine lv_iload_n B.1 B.2.1 dX16_top_87 rfl (lv_at hl 2 rfl) ?_
  obtain ⟨a74, ea74, ja74, h⟩ := h
  refine W.eq (g2 := F0 m 88 ls [.int (i32 v2), .int (i32 v1), .ref a74]) (by rw [ea74]; rfl) ?_
  refine c_V B hH hl hc K.2.2.1 (C := RX15) (T := TX15) (N := 20) (ci := 15) (As := [.int (i32 v1), .int (i32 v2)]) (ok_X15_copyColumns ja74 K.2.1 σ73 v1 v2 g1 g2 hGσ73 hS h) wc_X16_234 2 hd_X15_copyColumns ⟨Nat.le_trans (Nat.le_of_ble_eq_true rfl) K.2.2.2.1, Nat.le_trans (Nat.le_of_ble_eq_true rfl) K.2.2.2.2.1⟩ (hS.jb ja74).1 (hS.jb ja74).2 (by decide) rfl rfl (rest := []) rfl (Nat.le_of_ble_eq_true rfl) dX16_top_88 (fun σ75 w hq => ?_) (fun σ9 E9 hx9 => hX σ9 E9 _ _ _ (tb_out K.2.2.2.2.2 rfl) hx9.1 hx9.2.1 hx9.2.2)
  obtain ⟨rfl, h, hGσ75, hS⟩ := hq
  intro H locs ls hH hl hc
  refine W.eq (g2 := F0 m 91 ls []) (rfl) ?_
  try dsimp only at h
  refine lv_aload_n B.1 B.2.1 dX16_top_91 rfl (lv_at hl 0 rfl) ?_
  refine r_getp B hH hS 18 (by decide) wf_X16_118 rfl rfl dX16_top_92 ?_
  refine lv_iload_n B.1 B.2.1 dX16_top_95 rfl (lv_at hl 1 rfl) ?_
  refine xs_ldcw B.1 B.2.1 B.2.2.1 (B.2.2.2.2.2.2.2.2.2.2.1 _ (List.mem_of_getElem? (l := stL) (i := 15) rfl)).1 dX16_top_96 ?_
  refine c_S B hH hl hc K.2.2.1 (As := [.ref (cA (1000 + 275))]) (ok_X16_nameOf K.2.1 σ75 275 st_275 hGσ75 hS h) wc_X16_99 1 hd_X16_nameOf ⟨Nat.le_trans (Nat.le_of_ble_eq_true rfl) K.2.2.2.1, Nat.le_trans (Nat.le_of_ble_eq_true rfl) K.2.2.2.2.1⟩ rfl (rest := [.int (i32 v1), va_rf (gP σ75 rm 18)]) rfl (by simp only [List.map_cons, List.map_nil, rf_cat]; exact Nat.le_of_ble_eq_true rfl) dX16_top_99 (fun σ76 w hq => ?_) (fun σ9 E9 hx9 => hX σ9 E9 _ _ _ (tb_out K.2.2.2.2.2 rfl) hx9.1 hx9.2.1 hx9.2.2)
  obtain ⟨r77, rfl, h, hGσ76, hS⟩ := hq
  intro H locs ls hH hl hc
  refine W.eq (g2 := F0 m 102 ls [.long r77, .int (i32 v1), va_rf (gP σ75 rm 18)]) (rfl) ?_
  try dsimp only at h
  obtain ⟨a78, ea78, ja78, h⟩ := h
  refine W.eq (g2 := F0 m 102 ls [.long r77, .int (i32 v1), .ref a78]) (by rw [ea78]; rfl) ?_
  refine c_V B hH hl hc K.2.2.1 (C := RX15) (T := TX15) (N := 20) (ci := 15) (As := [.int (i32 v1), .long r77]) (ok_X15_add ja78 K.2.1 σ76 v1 r77 g1 hGσ76 hS h) wc_X16_182 2 hd_X15_add ⟨Nat.le_trans (Nat.le_of_ble_eq_true rfl) K.2.2.2.1, Nat.le_trans (Nat.le_of_ble_eq_true rfl) K.2.2.2.2.1⟩ (hS.jb ja78).1 (hS.jb ja78).2 (by decide) rfl rfl (rest := []) rfl (Nat.le_of_ble_eq_true rfl) dX16_top_102 (fun σ79 w hq => ?_) (fun σ9 E9 hx9 => hX σ9 E9 _ _ _ (tb_out K.2.2.2.2.2 rfl) hx9.1 hx9.2.1 hx9.2.2)
  obtain ⟨rfl, h, hGσ79, hS⟩ := hq
  intro H locs ls hH hl hc
  refine W.eq (g2 := F0 m 105 ls []) (rfl) ?_
  try dsimp only at h
  refine lv_aload_n B.1 B.2.1 dX16_top_105 rfl (lv_at hl 0 rfl) ?_
  refine xs_ldc B.1 B.2.1 B.2.2.1 (B.2.2.2.2.2.2.2.2.2.2.1 _ (List.mem_of_getElem? (l := stL) (i := 3) rfl)).1 dX16_top_106 ?_
  refine c_V B hH hl hc K.2.2.1 (C := RX16) (T := TX16) (N := 123) (ci := 16) (As := [.ref (cA (1000 + 237))]) (ok_X16_keyword K.2.1 σ79 237 st_237 hGσ79 hS h) wc_X16_200 1 hd_X16_keyword ⟨Nat.le_trans (Nat.le_of_ble_eq_true rfl) K.2.2.2.1, Nat.le_trans (Nat.le_of_ble_eq_true rfl) K.2.2.2.2.1⟩ hS.1.1 hS.1.2 (by decide) rfl rfl (rest := []) rfl (Nat.le_of_ble_eq_true rfl) dX16_top_108 (fun σ80 w hq => ?_) (fun σ9 E9 hx9 => hX σ9 E9 _ _ _ (tb_out K.2.2.2.2.2 rfl) hx9.1 hx9.2.1 hx9.2.2)
  obtain ⟨rfl, h, hGσ80, hS⟩ := hq
  intro H locs ls hH hl hc
  refine W.eq (g2 := F0 m 111 ls []) (rfl) ?_
  try dsimp only at h
  refine lv_aload_n B.1 B.2.1 dX16_top_111 rfl (lv_at hl 0 rfl) ?_
  refine r_getp B hH hS 18 (by decide) wf_X16_118 rfl rfl dX16_top_112 ?_
  obtain ⟨a81, ea81, ja81, h⟩ := h
  refine W.eq (g2 := F0 m 115 ls [.ref a81]) (by rw [ea81]; rfl) ?_
  refine n_arr B hH hS ja81 10 (kd := 100) (n := 16) (by decide) (by decide) (List.mem_of_getElem? (i := 10) rfl) rfl dX16_top_115 ?_
  refine lv_iload_n B.1 B.2.1 dX16_top_118 rfl (lv_at hl 1 rfl) ?_
  refine lv_aload_n B.1 B.2.1 dX16_top_119 rfl (lv_at hl 0 rfl) ?_
  refine lv_iload_n B.1 B.2.1 dX16_top_120 rfl (lv_at hl 2 rfl) ?_
  refine c_V B hH hl hc K.2.2.1 (C := RX16) (T := TX16) (N := 123) (ci := 16) (As := [.int (i32 v2)]) (ok_X16_columnOf K.2.1 σ80 v2 g2 hGσ80 hS h) wc_X16_241 1 hd_X16_columnOf ⟨Nat.le_trans (Nat.le_of_ble_eq_true rfl) K.2.2.2.1, Nat.le_trans (Nat.le_of_ble_eq_true rfl) K.2.2.2.2.1⟩ hS.1.1 hS.1.2 (by decide) rfl rfl (rest := [.int (i32 v1), .ref (jx a81 10)]) rfl (Nat.le_of_ble_eq_true rfl) dX16_top_121 (fun σ82 w hq => ?_) (fun σ9 E9 hx9 => hX σ9 E9 _ _ _ (tb_out K.2.2.2.2.2 rfl) hx9.1 hx9.2.1 hx9.2.2)
  obtain ⟨r83, rfl, gr83, h, hGσ82, hS⟩ := hq
  intro H locs ls hH hl hc
  refine W.eq (g2 := F0 m 124 ls [.int (i32 r83), .int (i32 v1), .ref (jx a81 10)]) (rfl) ?_
  try dsimp only at h
  obtain ⟨q7, h⟩ := h
  obtain ⟨σ84, eσ84⟩ : ∃ z, z = pI σ82 (jx a81 10) v1.toNat r83 := ⟨_, rfl⟩
  have h := h σ84 eσ84
  refine x_iast B K.2.1 hH (hS.ja ja81 (k := 10) (kd := 100) (n := 16) (by decide)) (by decide) q7 dX16_top_124 (fun H locs hH => ?_)
  have hH : Hd D cA A s (pI σ82 (jx a81 10) v1.toNat r83) H locs := hH
  rw [← eσ84] at hH
  have hGσ84 : RG σ84 := by rw [eσ84]; exact hGσ82.pI gr83
  have hS : Shp dm ra jx rm σ84 := by rw [eσ84]; exact hS
  have hc : CB n0 s0 σ84 := by rw [eσ84]; exact hc
  rw [show gc σ82 = gc σ84 by rw [eσ84], show gs σ82 = gs σ84 by rw [eσ84]]
  refine lv_aload_n B.1 B.2.1 dX16_top_125 rfl (lv_at hl 0 rfl) ?_
  refine xs_ldc B.1 B.2.1 B.2.2.1 (B.2.2.2.2.2.2.2.2.2.2.1 _ (List.mem_of_getElem? (l := stL) (i := 4) rfl)).1 dX16_top_126 ?_
  refine c_V B hH hl hc K.2.2.1 (C := RX16) (T := TX16) (N := 123) (ci := 16) (As := [.ref (cA (1000 + 244))]) (ok_X16_keyword K.2.1 σ84 244 st_244 hGσ84 hS h) wc_X16_200 1 hd_X16_keyword ⟨Nat.le_trans (Nat.le_of_ble_eq_true rfl) K.2.2.2.1, Nat.le_trans (Nat.le_of_ble_eq_true rfl) K.2.2.2.2.1⟩ hS.1.1 hS.1.2 (by decide) rfl rfl (rest := []) rfl (Nat.le_of_ble_eq_true rfl) dX16_top_128 (fun σ85 w hq => ?_) (fun σ9 E9 hx9 => hX σ9 E9 _ _ _ (tb_out K.2.2.2.2.2 rfl) hx9.1 hx9.2.1 hx9.2.2)
  obtain ⟨rfl, h, hGσ85, hS⟩ := hq
  intro H locs ls hH hl hc
  refine W.eq (g2 := F0 m 131 ls []) (rfl) ?_
  try dsimp only at h
  refine lv_aload_n B.1 B.2.1 dX16_top_131 rfl (lv_at hl 0 rfl) ?_
  refine r_getp B hH hS 18 (by decide) wf_X16_118 rfl rfl dX16_top_132 ?_
  obtain ⟨a86, ea86, ja86, h⟩ := h
  refine W.eq (g2 := F0 m 135 ls [.ref a86]) (by rw [ea86]; rfl) ?_
  refine n_arr B hH hS ja86 9 (kd := 101) (n := 16) (by decide) (by decide) (List.mem_of_getElem? (i := 9) rfl) rfl dX16_top_135 ?_
  refine lv_iload_n B.1 B.2.1 dX16_top_138 rfl (lv_at hl 1 rfl) ?_
  refine lv_aload_n B.1 B.2.1 dX16_top_139 rfl (lv_at hl 0 rfl) ?_
  refine lv_lconst (v := 1) B.1 B.2.1 dX16_top_140 (by decide) ?_
  refine lv_ldc2 B.1 B.2.1 B.2.2.1 (B.2.2.2.1 _ (wk_X16_207)) dX16_top_141 ?_
  refine c_V B hH hl hc K.2.2.1 (C := RX16) (T := TX16) (N := 123) (ci := 16) (As := [.long 1, .long 1000]) (ok_X16_bounded K.2.1 σ85 1 1000 hGσ85 hS h) wc_X16_209 2 hd_X16_bounded ⟨Nat.le_trans (Nat.le_of_ble_eq_true rfl) K.2.2.2.1, Nat.le_trans (Nat.le_of_ble_eq_true rfl) K.2.2.2.2.1⟩ hS.1.1 hS.1.2 (by decide) rfl rfl (rest := [.int (i32 v1), .ref (jx a86 9)]) rfl (Nat.le_of_ble_eq_true rfl) dX16_top_144 (fun σ87 w hq => ?_) (fun σ9 E9 hx9 => hX σ9 E9 _ _ _ (tb_out K.2.2.2.2.2 rfl) hx9.1 hx9.2.1 hx9.2.2)
  obtain ⟨r88, rfl, h, hGσ87, hS⟩ := hq
  intro H locs ls hH hl hc
  refine W.eq (g2 := F0 m 147 ls [.long r88, .int (i32 v1), .ref (jx a86 9)]) (rfl) ?_
  try dsimp only at h
  obtain ⟨q10, h⟩ := h
  obtain ⟨σ89, eσ89⟩ : ∃ z, z = pJ σ87 (jx a86 9) v1.toNat r88 := ⟨_, rfl⟩
  have h := h σ89 eσ89
  refine x_last B K.2.1 hH (hS.ja ja86 (k := 9) (kd := 101) (n := 16) (by decide)) (by decide) q10 dX16_top_147 (fun H locs hH => ?_)
  have hH : Hd D cA A s (pJ σ87 (jx a86 9) v1.toNat r88) H locs := hH
  rw [← eσ89] at hH
  have hGσ89 : RG σ89 := by rw [eσ89]; exact hGσ87.pJ
  have hS : Shp dm ra jx rm σ89 := by rw [eσ89]; exact hS
  have hc : CB n0 s0 σ89 := by rw [eσ89]; exact hc
  rw [show gc σ87 = gc σ89 by rw [eσ89], show gs σ87 = gs σ89 by rw [eσ89]]
  exact hQ _ _ _ _ _ dX16_top_148 hH hc h hGσ89 hS
set_option maxRecDepth 20000 in
theorem a_X16_top_61 {Q : Sg → Unit → Prop} {X : Sg → String → Prop} (K : MC R p s m args c cX16_top 3 RX16 D cA tys A n0 s0 8 175 []) (hQ : HQV p l e R s m args below meth c cX16_top D cA A n0 s0 QM dm ra jx rm Q) (hX : HX p l e R s m args below meth c 3 D cA A n0 s0 QM dm ra jx rm X) : ∀ (σ : Sg), w_X16_top_61 ra jx rm Q X σ → RG σ → Shp dm ra jx rm σ → JJ p l e R s m args below meth c 3 D cA A n0 s0 QM σ 61 [(0, .ref rm)] [] := by
  intro σ h hGσ hS H locs ls hH hl hc
  have B := K.1
  unfold w_X16_top_61 at h
  refine lv_aload_n B.1 B.2.1 dX16_top_61 rfl (lv_at hl 0 rfl) ?_
  refine lv_bipush (v := i32 8) B.1 B.2.1 dX16_top_62 (by decide) ?_
  refine c_V B hH hl hc K.2.2.1 (C := RX16) (T := TX16) (N := 123) (ci := 16) (As := [.int (i32 8)]) (ok_X16_fail K.2.1 σ 8 (by unfold rng; omega) hGσ hS h) wc_X16_65 1 hd_X16_fail ⟨Nat.le_trans (Nat.le_of_ble_eq_true rfl) K.2.2.2.1, Nat.le_trans (Nat.le_of_ble_eq_true rfl) K.2.2.2.2.1⟩ hS.1.1 hS.1.2 (by decide) rfl rfl (rest := []) rfl (Nat.le_of_ble_eq_true rfl) dX16_top_64 (fun σ90 w hq => ?_) (fun σ9 E9 hx9 => hX σ9 E9 _ _ _ (tb_out K.2.2.2.2.2 rfl) hx9.1 hx9.2.1 hx9.2.2)
  obtain ⟨r91, rfl, h, hGσ90, hS⟩ := hq
  intro H locs ls hH hl hc
  refine W.eq (g2 := F0 m 67 ls [va_rf r91]) (rfl) ?_
  try dsimp only at h
  obtain ⟨qt, h⟩ := h
  refine W.eq (g2 := F0 m 67 ls [.ref (ra 1)]) (by rw [qt]; rfl) ?_
  have hx9 := And.intro h (And.intro hGσ90 hS)
  refine h_athrow B hH hl hc (ci := 14) (hS.ob (k := 1) (ci := 14) (by decide)).1 (hS.ob (k := 1) (ci := 14) (by decide)).2 (by decide) rfl dX16_top_67 ?_
  exact hX σ90 _ _ _ _ (tb_out K.2.2.2.2.2 rfl) hx9.1 hx9.2.1 hx9.2.2
set_option maxRecDepth 20000 in
theorem a_X16_top_47 {Q : Sg → Unit → Prop} {X : Sg → String → Prop} (K : MC R p s m args c cX16_top 3 RX16 D cA tys A n0 s0 8 175 []) (hQ : HQV p l e R s m args below meth c cX16_top D cA A n0 s0 QM dm ra jx rm Q) (hX : HX p l e R s m args below meth c 3 D cA A n0 s0 QM dm ra jx rm X) : ∀ (σ : Sg) (v1 : Int) (v2 : Int) (g1 : rng v1) (g2 : rng v2), w_X16_top_47 ra jx rm Q X σ v1 v2 → RG σ → Shp dm ra jx rm σ → JJ p l e R s m args below meth c 3 D cA A n0 s0 QM σ 47 [(0, .ref rm), (1, .int (i32 v1)), (2, .int (i32 v2))] [] := by
  intro σ v1 v2 g1 g2 h hGσ hS H locs ls hH hl hc
  have B := K.1
  unfold w_X16_top_47 at h
  refine lv_aload_n B.1 B.2.1 dX16_top_47 rfl (lv_at hl 0 rfl) ?_
  refine r_getp B hH hS 18 (by decide) wf_X16_118 rfl rfl dX16_top_48 ?_
  obtain ⟨a92, ea92, ja92, h⟩ := h
  refine W.eq (g2 := F0 m 51 ls [.ref a92]) (by rw [ea92]; rfl) ?_
  refine n_arr B hH hS ja92 6 (kd := 100) (n := 16) (by decide) (by decide) (List.mem_of_getElem? (i := 6) rfl) rfl dX16_top_51 ?_
  refine lv_iload_n B.1 B.2.1 dX16_top_54 rfl (lv_at hl 2 rfl) ?_
  obtain ⟨q2, h⟩ := h
  refine x_iald B K.2.1 hH (hS.ja ja92 (k := 6) (kd := 100) (n := 16) (by decide)) (by decide) q2 dX16_top_55 ?_
  refine lv_bipush (v := i32 8) B.1 B.2.1 dX16_top_56 (by decide) ?_
  refine lv_icmp_ne (tgt := 68) B.1 B.2.1 dX16_top_58 (by decide) (fun h9 => ?_) (fun h9 => ?_)
  · rw [if_pos (fun q => h9 ((i32_eq (hGσ _ _) (by unfold rng; omega)).mpr q))] at h
    exact a_X16_top_68 K hQ hX _ _ _ g1 g2 h hGσ hS _ _ _ hH (lv_sub (l' := [(0, .ref rm), (1, .int (i32 v1)), (2, .int (i32 v2))]) hl [0, 1, 2] rfl) hc
  · rw [if_neg (fun q => q ((i32_eq (hGσ _ _) (by unfold rng; omega)).mp h9))] at h
    exact a_X16_top_61 K hQ hX _ h hGσ hS _ _ _ hH (lv_sub (l' := [(0, .ref rm)]) hl [0] rfl) hc
set_option maxRecDepth 20000 in
theorem a_X16_top_40 {Q : Sg → Unit → Prop} {X : Sg → String → Prop} (K : MC R p s m args c cX16_top 3 RX16 D cA tys A n0 s0 8 175 []) (hQ : HQV p l e R s m args below meth c cX16_top D cA A n0 s0 QM dm ra jx rm Q) (hX : HX p l e R s m args below meth c 3 D cA A n0 s0 QM dm ra jx rm X) : ∀ (σ : Sg), w_X16_top_40 ra jx rm Q X σ → RG σ → Shp dm ra jx rm σ → JJ p l e R s m args below meth c 3 D cA A n0 s0 QM σ 40 [(0, .ref rm)] [] := by
  intro σ h hGσ hS H locs ls hH hl hc
  have B := K.1
  unfold w_X16_top_40 at h
  refine lv_aload_n B.1 B.2.1 dX16_top_40 rfl (lv_at hl 0 rfl) ?_
  refine lv_bipush (v := i32 6) B.1 B.2.1 dX16_top_41 (by decide) ?_
  refine c_V B hH hl hc K.2.2.1 (C := RX16) (T := TX16) (N := 123) (ci := 16) (As := [.int (i32 6)]) (ok_X16_fail K.2.1 σ 6 (by unfold rng; omega) hGσ hS h) wc_X16_65 1 hd_X16_fail ⟨Nat.le_trans (Nat.le_of_ble_eq_true rfl) K.2.2.2.1, Nat.le_trans (Nat.le_of_ble_eq_true rfl) K.2.2.2.2.1⟩ hS.1.1 hS.1.2 (by decide) rfl rfl (rest := []) rfl (Nat.le_of_ble_eq_true rfl) dX16_top_43 (fun σ93 w hq => ?_) (fun σ9 E9 hx9 => hX σ9 E9 _ _ _ (tb_out K.2.2.2.2.2 rfl) hx9.1 hx9.2.1 hx9.2.2)
  obtain ⟨r94, rfl, h, hGσ93, hS⟩ := hq
  intro H locs ls hH hl hc
  refine W.eq (g2 := F0 m 46 ls [va_rf r94]) (rfl) ?_
  try dsimp only at h
  obtain ⟨qt, h⟩ := h
  refine W.eq (g2 := F0 m 46 ls [.ref (ra 1)]) (by rw [qt]; rfl) ?_
  have hx9 := And.intro h (And.intro hGσ93 hS)
  refine h_athrow B hH hl hc (ci := 14) (hS.ob (k := 1) (ci := 14) (by decide)).1 (hS.ob (k := 1) (ci := 14) (by decide)).2 (by decide) rfl dX16_top_46 ?_
  exact hX σ93 _ _ _ _ (tb_out K.2.2.2.2.2 rfl) hx9.1 hx9.2.1 hx9.2.2
set_option maxRecDepth 20000 in
theorem a_X16_top_0 {Q : Sg → Unit → Prop} {X : Sg → String → Prop} (K : MC R p s m args c cX16_top 3 RX16 D cA tys A n0 s0 8 175 []) (hQ : HQV p l e R s m args below meth c cX16_top D cA A n0 s0 QM dm ra jx rm Q) (hX : HX p l e R s m args below meth c 3 D cA A n0 s0 QM dm ra jx rm X) : ∀ (σ : Sg) (v1 : Int) (g1 : rng v1), w_X16_top_0 ra jx rm Q X σ v1 → RG σ → Shp dm ra jx rm σ → JJ p l e R s m args below meth c 3 D cA A n0 s0 QM σ 0 [(0, .ref rm), (1, .int (i32 v1))] [] := by
  intro σ v1 g1 h hGσ hS H locs ls hH hl hc
  have B := K.1
  unfold w_X16_top_0 at h
  refine lv_aload_n B.1 B.2.1 dX16_top_0 rfl (lv_at hl 0 rfl) ?_
  refine r_getp B hH hS 18 (by decide) wf_X16_118 rfl rfl dX16_top_1 ?_
  obtain ⟨a95, ea95, ja95, h⟩ := h
  refine W.eq (g2 := F0 m 4 ls [.ref a95]) (by rw [ea95]; rfl) ?_
  refine n_arr B hH hS ja95 8 (kd := 101) (n := 16) (by decide) (by decide) (List.mem_of_getElem? (i := 8) rfl) rfl dX16_top_4 ?_
  refine lv_iload_n B.1 B.2.1 dX16_top_7 rfl (lv_at hl 1 rfl) ?_
  refine lv_aload_n B.1 B.2.1 dX16_top_8 rfl (lv_at hl 0 rfl) ?_
  refine lv_lconst (v := 1) B.1 B.2.1 dX16_top_9 (by decide) ?_
  refine lv_ldc2 B.1 B.2.1 B.2.2.1 (B.2.2.2.1 _ (wk_X16_273)) dX16_top_10 ?_
  refine c_V B hH hl hc K.2.2.1 (C := RX16) (T := TX16) (N := 123) (ci := 16) (As := [.long 1, .long 9]) (ok_X16_bounded K.2.1 σ 1 9 hGσ hS h) wc_X16_209 2 hd_X16_bounded ⟨Nat.le_trans (Nat.le_of_ble_eq_true rfl) K.2.2.2.1, Nat.le_trans (Nat.le_of_ble_eq_true rfl) K.2.2.2.2.1⟩ hS.1.1 hS.1.2 (by decide) rfl rfl (rest := [.int (i32 v1), .ref (jx a95 8)]) rfl (Nat.le_of_ble_eq_true rfl) dX16_top_13 (fun σ96 w hq => ?_) (fun σ9 E9 hx9 => hX σ9 E9 _ _ _ (tb_out K.2.2.2.2.2 rfl) hx9.1 hx9.2.1 hx9.2.2)
  obtain ⟨r97, rfl, h, hGσ96, hS⟩ := hq
  intro H locs ls hH hl hc
  refine W.eq (g2 := F0 m 16 ls [.long r97, .int (i32 v1), .ref (jx a95 8)]) (rfl) ?_
  try dsimp only at h
  obtain ⟨q2, h⟩ := h
  obtain ⟨σ98, eσ98⟩ : ∃ z, z = pJ σ96 (jx a95 8) v1.toNat r97 := ⟨_, rfl⟩
  have h := h σ98 eσ98
  refine x_last B K.2.1 hH (hS.ja ja95 (k := 8) (kd := 101) (n := 16) (by decide)) (by decide) q2 dX16_top_16 (fun H locs hH => ?_)
  have hH : Hd D cA A s (pJ σ96 (jx a95 8) v1.toNat r97) H locs := hH
  rw [← eσ98] at hH
  have hGσ98 : RG σ98 := by rw [eσ98]; exact hGσ96.pJ
  have hS : Shp dm ra jx rm σ98 := by rw [eσ98]; exact hS
  have hc : CB n0 s0 σ98 := by rw [eσ98]; exact hc
  rw [show gc σ96 = gc σ98 by rw [eσ98], show gs σ96 = gs σ98 by rw [eσ98]]
  refine lv_aload_n B.1 B.2.1 dX16_top_17 rfl (lv_at hl 0 rfl) ?_
  refine c_V B hH hl hc K.2.2.1 (C := RX16) (T := TX16) (N := 123) (ci := 16) (As := []) (ok_X16_seeInput K.2.1 σ98 hGσ98 hS h) wc_X16_175 0 hd_X16_seeInput ⟨Nat.le_trans (Nat.le_of_ble_eq_true rfl) K.2.2.2.1, Nat.le_trans (Nat.le_of_ble_eq_true rfl) K.2.2.2.2.1⟩ hS.1.1 hS.1.2 (by decide) rfl rfl (rest := []) rfl (Nat.le_of_ble_eq_true rfl) dX16_top_18 (fun σ99 w hq => ?_) (fun σ9 E9 hx9 => hX σ9 E9 _ _ _ (tb_out K.2.2.2.2.2 rfl) hx9.1 hx9.2.1 hx9.2.2)
  obtain ⟨r100, rfl, gr100, h, hGσ99, hS⟩ := hq
  intro H locs ls hH hl hc
  refine W.eq (g2 := F0 m 21 ls [.int (i32 r100)]) (rfl) ?_
  try dsimp only at h
  refine lv_istore_n (lv' := [(2, .int (i32 r100)), (0, .ref rm), (1, .int (i32 v1))]) B.1 B.2.1 dX16_top_21 rfl hl (by decide) rfl (fun ls hl => ?_)
  refine lv_aload_n B.1 B.2.1 dX16_top_22 rfl (lv_at hl 1 rfl) ?_
  refine r_getp B hH hS 18 (by decide) wf_X16_118 rfl rfl dX16_top_23 ?_
  refine lv_iload_n B.1 B.2.1 dX16_top_26 rfl (lv_at hl 0 rfl) ?_
  refine xs_ldcw B.1 B.2.1 B.2.2.1 (B.2.2.2.2.2.2.2.2.2.2.1 _ (List.mem_of_getElem? (l := stL) (i := 15) rfl)).1 dX16_top_27 ?_
  refine c_S B hH hl hc K.2.2.1 (As := [.ref (cA (1000 + 275))]) (ok_X16_nameOf K.2.1 σ99 275 st_275 hGσ99 hS h) wc_X16_99 1 hd_X16_nameOf ⟨Nat.le_trans (Nat.le_of_ble_eq_true rfl) K.2.2.2.1, Nat.le_trans (Nat.le_of_ble_eq_true rfl) K.2.2.2.2.1⟩ rfl (rest := [.int (i32 r100), va_rf (gP σ99 rm 18)]) rfl (by simp only [List.map_cons, List.map_nil, rf_cat]; exact Nat.le_of_ble_eq_true rfl) dX16_top_30 (fun σ101 w hq => ?_) (fun σ9 E9 hx9 => hX σ9 E9 _ _ _ (tb_out K.2.2.2.2.2 rfl) hx9.1 hx9.2.1 hx9.2.2)
  obtain ⟨r102, rfl, h, hGσ101, hS⟩ := hq
  intro H locs ls hH hl hc
  refine W.eq (g2 := F0 m 33 ls [.long r102, .int (i32 r100), va_rf (gP σ99 rm 18)]) (rfl) ?_
  try dsimp only at h
  obtain ⟨a103, ea103, ja103, h⟩ := h
  refine W.eq (g2 := F0 m 33 ls [.long r102, .int (i32 r100), .ref a103]) (by rw [ea103]; rfl) ?_
  refine c_V B hH hl hc K.2.2.1 (C := RX15) (T := TX15) (N := 20) (ci := 15) (As := [.int (i32 r100), .long r102]) (ok_X15_column ja103 K.2.1 σ101 r100 r102 gr100 hGσ101 hS h) wc_X16_168 2 hd_X15_column ⟨Nat.le_trans (Nat.le_of_ble_eq_true rfl) K.2.2.2.1, Nat.le_trans (Nat.le_of_ble_eq_true rfl) K.2.2.2.2.1⟩ (hS.jb ja103).1 (hS.jb ja103).2 (by decide) rfl rfl (rest := []) rfl (Nat.le_of_ble_eq_true rfl) dX16_top_33 (fun σ104 w hq => ?_) (fun σ9 E9 hx9 => hX σ9 E9 _ _ _ (tb_out K.2.2.2.2.2 rfl) hx9.1 hx9.2.1 hx9.2.2)
  obtain ⟨r105, rfl, gr105, h, hGσ104, hS⟩ := hq
  intro H locs ls hH hl hc
  refine W.eq (g2 := F0 m 36 ls [.int (i32 r105)]) (rfl) ?_
  try dsimp only at h
  refine lv_iconst (v := i32 (-1)) B.1 B.2.1 dX16_top_36 (by decide) ?_
  refine lv_icmp_eq (tgt := 47) B.1 B.2.1 dX16_top_37 (by decide) (fun h9 => ?_) (fun h9 => ?_)
  · rw [if_pos ((i32_eq gr105 (by unfold rng; omega)).mp h9)] at h
    exact a_X16_top_47 K hQ hX _ _ _ g1 gr100 h hGσ104 hS _ _ _ hH (lv_sub (l' := [(0, .ref rm), (1, .int (i32 v1)), (2, .int (i32 r100))]) hl [1, 2, 0] rfl) hc
  · rw [if_neg (fun q => h9 ((i32_eq gr105 (by unfold rng; omega)).mpr q))] at h
    exact a_X16_top_40 K hQ hX _ h hGσ104 hS _ _ _ hH (lv_sub (l' := [(0, .ref rm)]) hl [1] rfl) hc
theorem ok_X16_top (hT : Tys cA tys) {Q : Sg → Unit → Prop} {X : Sg → String → Prop} (σ : Sg) (v1 : Int) (g1 : rng v1) (hG : RG σ) (hS : Shp dm ra jx rm σ) (h : wp_X16_top ra jx rm v1 σ Q X) : Ok l D cA tys A yX16_top (.code yX16_top cX16_top 3 none) 8 175 [.ref rm, .int (i32 v1)] σ (QnV dm ra jx rm Q) (QxR dm ra jx rm X) := by
  unfold wp_X16_top at h
  exact ok_V (plainFor_of_name (by decide)) (by exact Nat.le_of_ble_eq_true rfl) hT (fun p e R s m args below meth c K hQ hX H locs ls hH hl hc => a_X16_top_0 K hQ hX σ v1 g1 h hG hS H locs ls hH (lv_sub (l' := [(0, .ref rm), (1, .int (i32 v1))]) hl [0, 1] rfl) hc)
theorem dX16_union_0 : decode cX16_union 0 = .ok (.aload_n 0, 1) := by decide +kernel
theorem dX16_union_1 : decode cX16_union 1 = .ok (.invokevirtual 213, 3) := by decide +kernel
theorem dX16_union_4 : decode cX16_union 4 = .ok (.istore_n 2, 1) := by decide +kernel
theorem dX16_union_5 : decode cX16_union 5 = .ok (.aload_n 0, 1) := by decide +kernel
theorem dX16_union_6 : decode cX16_union 6 = .ok (.invokevirtual 175, 3) := by decide +kernel
theorem dX16_union_9 : decode cX16_union 9 = .ok (.istore_n 3, 1) := by decide +kernel
theorem dX16_union_10 : decode cX16_union 10 = .ok (.aload_n 0, 1) := by decide +kernel
theorem dX16_union_11 : decode cX16_union 11 = .ok (.getfield 118, 3) := by decide +kernel
theorem dX16_union_14 : decode cX16_union 14 = .ok (.getfield 178, 3) := by decide +kernel
theorem dX16_union_17 : decode cX16_union 17 = .ok (.iload_n 2, 1) := by decide +kernel
theorem dX16_union_18 : decode cX16_union 18 = .ok (.iaload, 1) := by decide +kernel
theorem dX16_union_19 : decode cX16_union 19 = .ok (.aload_n 0, 1) := by decide +kernel
theorem dX16_union_20 : decode cX16_union 20 = .ok (.getfield 118, 3) := by decide +kernel
theorem dX16_union_23 : decode cX16_union 23 = .ok (.getfield 178, 3) := by decide +kernel
theorem dX16_union_26 : decode cX16_union 26 = .ok (.iload_n 3, 1) := by decide +kernel
theorem dX16_union_27 : decode cX16_union 27 = .ok (.iaload, 1) := by decide +kernel
theorem dX16_union_28 : decode cX16_union 28 = .ok (.if_icmp .ne 7, 3) := by decide +kernel
theorem dX16_union_31 : decode cX16_union 31 = .ok (.iconst 1, 1) := by decide +kernel
theorem dX16_union_32 : decode cX16_union 32 = .ok (.goto 4, 3) := by decide +kernel
theorem dX16_union_35 : decode cX16_union 35 = .ok (.iconst 0, 1) := by decide +kernel
theorem dX16_union_36 : decode cX16_union 36 = .ok (.istore 4, 2) := by decide +kernel
theorem dX16_union_38 : decode cX16_union 38 = .ok (.iconst 0, 1) := by decide +kernel
theorem dX16_union_39 : decode cX16_union 39 = .ok (.istore 5, 2) := by decide +kernel
theorem dX16_union_41 : decode cX16_union 41 = .ok (.iload 5, 2) := by decide +kernel
theorem dX16_union_43 : decode cX16_union 43 = .ok (.aload_n 0, 1) := by decide +kernel
theorem dX16_union_44 : decode cX16_union 44 = .ok (.getfield 118, 3) := by decide +kernel
theorem dX16_union_47 : decode cX16_union 47 = .ok (.getfield 178, 3) := by decide +kernel
theorem dX16_union_50 : decode cX16_union 50 = .ok (.iload_n 2, 1) := by decide +kernel
theorem dX16_union_51 : decode cX16_union 51 = .ok (.iaload, 1) := by decide +kernel
theorem dX16_union_52 : decode cX16_union 52 = .ok (.if_icmp .ge 55, 3) := by decide +kernel
theorem dX16_union_55 : decode cX16_union 55 = .ok (.iload 4, 2) := by decide +kernel
theorem dX16_union_57 : decode cX16_union 57 = .ok (.ifCond .eq 50, 3) := by decide +kernel
theorem dX16_union_60 : decode cX16_union 60 = .ok (.aload_n 0, 1) := by decide +kernel
theorem dX16_union_61 : decode cX16_union 61 = .ok (.getfield 118, 3) := by decide +kernel
theorem dX16_union_64 : decode cX16_union 64 = .ok (.getfield 228, 3) := by decide +kernel
theorem dX16_union_67 : decode cX16_union 67 = .ok (.bipush 9, 2) := by decide +kernel
theorem dX16_union_69 : decode cX16_union 69 = .ok (.iload_n 2, 1) := by decide +kernel
theorem dX16_union_70 : decode cX16_union 70 = .ok (.imul, 1) := by decide +kernel
theorem dX16_union_71 : decode cX16_union 71 = .ok (.iload 5, 2) := by decide +kernel
theorem dX16_union_73 : decode cX16_union 73 = .ok (.iadd, 1) := by decide +kernel
theorem dX16_union_74 : decode cX16_union 74 = .ok (.laload, 1) := by decide +kernel
theorem dX16_union_75 : decode cX16_union 75 = .ok (.aload_n 0, 1) := by decide +kernel
theorem dX16_union_76 : decode cX16_union 76 = .ok (.getfield 118, 3) := by decide +kernel
theorem dX16_union_79 : decode cX16_union 79 = .ok (.getfield 228, 3) := by decide +kernel
theorem dX16_union_82 : decode cX16_union 82 = .ok (.bipush 9, 2) := by decide +kernel
theorem dX16_union_84 : decode cX16_union 84 = .ok (.iload_n 3, 1) := by decide +kernel
theorem dX16_union_85 : decode cX16_union 85 = .ok (.imul, 1) := by decide +kernel
theorem dX16_union_86 : decode cX16_union 86 = .ok (.iload 5, 2) := by decide +kernel
theorem dX16_union_88 : decode cX16_union 88 = .ok (.iadd, 1) := by decide +kernel
theorem dX16_union_89 : decode cX16_union 89 = .ok (.laload, 1) := by decide +kernel
theorem dX16_union_90 : decode cX16_union 90 = .ok (.lcmp, 1) := by decide +kernel
theorem dX16_union_91 : decode cX16_union 91 = .ok (.ifCond .ne 7, 3) := by decide +kernel
theorem dX16_union_94 : decode cX16_union 94 = .ok (.iconst 1, 1) := by decide +kernel
theorem dX16_union_95 : decode cX16_union 95 = .ok (.goto 4, 3) := by decide +kernel
theorem dX16_union_98 : decode cX16_union 98 = .ok (.iconst 0, 1) := by decide +kernel
theorem dX16_union_99 : decode cX16_union 99 = .ok (.istore 4, 2) := by decide +kernel
theorem dX16_union_101 : decode cX16_union 101 = .ok (.iinc 5 1, 3) := by decide +kernel
theorem dX16_union_104 : decode cX16_union 104 = .ok (.goto (-63), 3) := by decide +kernel
theorem dX16_union_107 : decode cX16_union 107 = .ok (.iload 4, 2) := by decide +kernel
theorem dX16_union_109 : decode cX16_union 109 = .ok (.ifCond .ne 10, 3) := by decide +kernel
theorem dX16_union_112 : decode cX16_union 112 = .ok (.aload_n 0, 1) := by decide +kernel
theorem dX16_union_113 : decode cX16_union 113 = .ok (.bipush 8, 2) := by decide +kernel
theorem dX16_union_115 : decode cX16_union 115 = .ok (.invokevirtual 65, 3) := by decide +kernel
theorem dX16_union_118 : decode cX16_union 118 = .ok (.athrow, 1) := by decide +kernel
theorem dX16_union_119 : decode cX16_union 119 = .ok (.aload_n 0, 1) := by decide +kernel
theorem dX16_union_120 : decode cX16_union 120 = .ok (.invokevirtual 84, 3) := by decide +kernel
theorem dX16_union_123 : decode cX16_union 123 = .ok (.aload_n 0, 1) := by decide +kernel
theorem dX16_union_124 : decode cX16_union 124 = .ok (.getfield 118, 3) := by decide +kernel
theorem dX16_union_127 : decode cX16_union 127 = .ok (.getfield 216, 3) := by decide +kernel
theorem dX16_union_130 : decode cX16_union 130 = .ok (.iload_n 1, 1) := by decide +kernel
theorem dX16_union_131 : decode cX16_union 131 = .ok (.iload_n 2, 1) := by decide +kernel
theorem dX16_union_132 : decode cX16_union 132 = .ok (.iastore, 1) := by decide +kernel
theorem dX16_union_133 : decode cX16_union 133 = .ok (.aload_n 0, 1) := by decide +kernel
theorem dX16_union_134 : decode cX16_union 134 = .ok (.getfield 118, 3) := by decide +kernel
theorem dX16_union_137 : decode cX16_union 137 = .ok (.getfield 231, 3) := by decide +kernel
theorem dX16_union_140 : decode cX16_union 140 = .ok (.iload_n 1, 1) := by decide +kernel
theorem dX16_union_141 : decode cX16_union 141 = .ok (.iload_n 3, 1) := by decide +kernel
theorem dX16_union_142 : decode cX16_union 142 = .ok (.iastore, 1) := by decide +kernel
theorem dX16_union_143 : decode cX16_union 143 = .ok (.aload_n 0, 1) := by decide +kernel
theorem dX16_union_144 : decode cX16_union 144 = .ok (.getfield 118, 3) := by decide +kernel
theorem dX16_union_147 : decode cX16_union 147 = .ok (.iload_n 1, 1) := by decide +kernel
theorem dX16_union_148 : decode cX16_union 148 = .ok (.iload_n 2, 1) := by decide +kernel
theorem dX16_union_149 : decode cX16_union 149 = .ok (.invokevirtual 234, 3) := by decide +kernel
theorem dX16_union_152 : decode cX16_union 152 = .ok (.return_, 1) := by decide +kernel
set_option maxRecDepth 20000 in
theorem a_X16_union_119 {Q : Sg → Unit → Prop} {X : Sg → String → Prop} (K : MC R p s m args c cX16_union 6 RX16 D cA tys A n0 s0 9 195 []) (hQ : HQV p l e R s m args below meth c cX16_union D cA A n0 s0 QM dm ra jx rm Q) (hX : HX p l e R s m args below meth c 6 D cA A n0 s0 QM dm ra jx rm X) : ∀ (σ : Sg) (v1 : Int) (v2 : Int) (v3 : Int) (g1 : rng v1) (g2 : rng v2) (g3 : rng v3), w_X16_union_119 ra jx rm Q X σ v1 v2 v3 → RG σ → Shp dm ra jx rm σ → JJ p l e R s m args below meth c 6 D cA A n0 s0 QM σ 119 [(0, .ref rm), (1, .int (i32 v1)), (2, .int (i32 v2)), (3, .int (i32 v3))] [] := by
  intro σ v1 v2 v3 g1 g2 g3 h hGσ hS H locs ls hH hl hc
  have B := K.1
  unfold w_X16_union_119 at h
  refine lv_aload_n B.1 B.2.1 dX16_union_119 rfl (lv_at hl 0 rfl) ?_
  refine c_V B hH hl hc K.2.2.1 (C := RX16) (T := TX16) (N := 123) (ci := 16) (As := []) (ok_X16_take K.2.1 σ hGσ hS h) wc_X16_84 0 hd_X16_take ⟨Nat.le_trans (Nat.le_of_ble_eq_true rfl) K.2.2.2.1, Nat.le_trans (Nat.le_of_ble_eq_true rfl) K.2.2.2.2.1⟩ hS.1.1 hS.1.2 (by decide) rfl rfl (rest := []) rfl (Nat.le_of_ble_eq_true rfl) dX16_union_120 (fun σ37 w hq => ?_) (fun σ9 E9 hx9 => hX σ9 E9 _ _ _ (tb_out K.2.2.2.2.2 rfl) hx9.1 hx9.2.1 hx9.2.2)
  obtain ⟨rfl, h, hGσ37, hS⟩ := hq
  intro H locs ls hH hl hc
  refine W.eq (g2 := F0 m 123 ls []) (rfl) ?_
  try dsimp only at h
  refine lv_aload_n B.1 B.2.1 dX16_union_123 rfl (lv_at hl 0 rfl) ?_
  refine r_getp B hH hS 18 (by decide) wf_X16_118 rfl rfl dX16_union_124 ?_
  obtain ⟨a38, ea38, ja38, h⟩ := h
  refine W.eq (g2 := F0 m 127 ls [.ref a38]) (by rw [ea38]; rfl) ?_
  refine n_arr B hH hS ja38 4 (kd := 100) (n := 16) (by decide) (by decide) (List.mem_of_getElem? (i := 4) rfl) rfl dX16_union_127 ?_
  refine lv_iload_n B.1 B.2.1 dX16_union_130 rfl (lv_at hl 1 rfl) ?_
  refine lv_iload_n B.1 B.2.1 dX16_union_131 rfl (lv_at hl 2 rfl) ?_
  obtain ⟨q2, h⟩ := h
  obtain ⟨σ39, eσ39⟩ : ∃ z, z = pI σ37 (jx a38 4) v1.toNat v2 := ⟨_, rfl⟩
  have h := h σ39 eσ39
  refine x_iast B K.2.1 hH (hS.ja ja38 (k := 4) (kd := 100) (n := 16) (by decide)) (by decide) q2 dX16_union_132 (fun H locs hH => ?_)
  have hH : Hd D cA A s (pI σ37 (jx a38 4) v1.toNat v2) H locs := hH
  rw [← eσ39] at hH
  have hGσ39 : RG σ39 := by rw [eσ39]; exact hGσ37.pI g2
  have hS : Shp dm ra jx rm σ39 := by rw [eσ39]; exact hS
  have hc : CB n0 s0 σ39 := by rw [eσ39]; exact hc
  rw [show gc σ37 = gc σ39 by rw [eσ39], show gs σ37 = gs σ39 by rw [eσ39]]
  refine lv_aload_n B.1 B.2.1 dX16_union_133 rfl (lv_at hl 0 rfl) ?_
  refine r_getp B hH hS 18 (by decide) wf_X16_118 rfl rfl dX16_union_134 ?_
  obtain ⟨a40, ea40, ja40, h⟩ := h
  refine W.eq (g2 := F0 m 137 ls [.ref a40]) (by rw [ea40]; rfl) ?_
  refine n_arr B hH hS ja40 5 (kd := 100) (n := 16) (by decide) (by decide) (List.mem_of_getElem? (i := 5) rfl) rfl dX16_union_137 ?_
  refine lv_iload_n B.1 B.2.1 dX16_union_140 rfl (lv_at hl 1 rfl) ?_
  refine lv_iload_n B.1 B.2.1 dX16_union_141 rfl (lv_at hl 3 rfl) ?_
  obtain ⟨q5, h⟩ := h
  obtain ⟨σ41, eσ41⟩ : ∃ z, z = pI σ39 (jx a40 5) v1.toNat v3 := ⟨_, rfl⟩
  have h := h σ41 eσ41
  refine x_iast B K.2.1 hH (hS.ja ja40 (k := 5) (kd := 100) (n := 16) (by decide)) (by decide) q5 dX16_union_142 (fun H locs hH => ?_)
  have hH : Hd D cA A s (pI σ39 (jx a40 5) v1.toNat v3) H locs := hH
  rw [← eσ41] at hH
  have hGσ41 : RG σ41 := by rw [eσ41]; exact hGσ39.pI g3
  have hS : Shp dm ra jx rm σ41 := by rw [eσ41]; exact hS
  have hc : CB n0 s0 σ41 := by rw [eσ41]; exact hc
  rw [show gc σ39 = gc σ41 by rw [eσ41], show gs σ39 = gs σ41 by rw [eσ41]]
  refine lv_aload_n B.1 B.2.1 dX16_union_143 rfl (lv_at hl 0 rfl) ?_
  refine r_getp B hH hS 18 (by decide) wf_X16_118 rfl rfl dX16_union_144 ?_
  refine lv_iload_n B.1 B.2.1 dX16_union_147 rfl (lv_at hl 1 rfl) ?_
  refine lv_iload_n B.1 B.2.1 dX16_union_148 rfl (lv_at hl 2 rfl) ?_
  obtain ⟨a42, ea42, ja42, h⟩ := h
  refine W.eq (g2 := F0 m 149 ls [.int (i32 v2), .int (i32 v1), .ref a42]) (by rw [ea42]; rfl) ?_
  refine c_V B hH hl hc K.2.2.1 (C := RX15) (T := TX15) (N := 20) (ci := 15) (As := [.int (i32 v1), .int (i32 v2)]) (ok_X15_copyColumns ja42 K.2.1 σ41 v1 v2 g1 g2 hGσ41 hS h) wc_X16_234 2 hd_X15_copyColumns ⟨Nat.le_trans (Nat.le_of_ble_eq_true rfl) K.2.2.2.1, Nat.le_trans (Nat.le_of_ble_eq_true rfl) K.2.2.2.2.1⟩ (hS.jb ja42).1 (hS.jb ja42).2 (by decide) rfl rfl (rest := []) rfl (Nat.le_of_ble_eq_true rfl) dX16_union_149 (fun σ43 w hq => ?_) (fun σ9 E9 hx9 => hX σ9 E9 _ _ _ (tb_out K.2.2.2.2.2 rfl) hx9.1 hx9.2.1 hx9.2.2)
  obtain ⟨rfl, h, hGσ43, hS⟩ := hq
  intro H locs ls hH hl hc
  refine W.eq (g2 := F0 m 152 ls []) (rfl) ?_
  try dsimp only at h
  exact hQ _ _ _ _ _ dX16_union_152 hH hc h hGσ43 hS
set_option maxRecDepth 20000 in
theorem a_X16_union_112 {Q : Sg → Unit → Prop} {X : Sg → String → Prop} (K : MC R p s m args c cX16_union 6 RX16 D cA tys A n0 s0 9 195 []) (hQ : HQV p l e R s m args below meth c cX16_union D cA A n0 s0 QM dm ra jx rm Q) (hX : HX p l e R s m args below meth c 6 D cA A n0 s0 QM dm ra jx rm X) : ∀ (σ : Sg), w_X16_union_112 ra jx rm Q X σ → RG σ → Shp dm ra jx rm σ → JJ p l e R s m args below meth c 6 D cA A n0 s0 QM σ 112 [(0, .ref rm)] [] := by
  intro σ h hGσ hS H locs ls hH hl hc
  have B := K.1
  unfold w_X16_union_112 at h
  refine lv_aload_n B.1 B.2.1 dX16_union_112 rfl (lv_at hl 0 rfl) ?_
  refine lv_bipush (v := i32 8) B.1 B.2.1 dX16_union_113 (by decide) ?_
  refine c_V B hH hl hc K.2.2.1 (C := RX16) (T := TX16) (N := 123) (ci := 16) (As := [.int (i32 8)]) (ok_X16_fail K.2.1 σ 8 (by unfold rng; omega) hGσ hS h) wc_X16_65 1 hd_X16_fail ⟨Nat.le_trans (Nat.le_of_ble_eq_true rfl) K.2.2.2.1, Nat.le_trans (Nat.le_of_ble_eq_true rfl) K.2.2.2.2.1⟩ hS.1.1 hS.1.2 (by decide) rfl rfl (rest := []) rfl (Nat.le_of_ble_eq_true rfl) dX16_union_115 (fun σ44 w hq => ?_) (fun σ9 E9 hx9 => hX σ9 E9 _ _ _ (tb_out K.2.2.2.2.2 rfl) hx9.1 hx9.2.1 hx9.2.2)
  obtain ⟨r45, rfl, h, hGσ44, hS⟩ := hq
  intro H locs ls hH hl hc
  refine W.eq (g2 := F0 m 118 ls [va_rf r45]) (rfl) ?_
  try dsimp only at h
  obtain ⟨qt, h⟩ := h
  refine W.eq (g2 := F0 m 118 ls [.ref (ra 1)]) (by rw [qt]; rfl) ?_
  have hx9 := And.intro h (And.intro hGσ44 hS)
  refine h_athrow B hH hl hc (ci := 14) (hS.ob (k := 1) (ci := 14) (by decide)).1 (hS.ob (k := 1) (ci := 14) (by decide)).2 (by decide) rfl dX16_union_118 ?_
  exact hX σ44 _ _ _ _ (tb_out K.2.2.2.2.2 rfl) hx9.1 hx9.2.1 hx9.2.2
set_option maxRecDepth 20000 in
theorem a_X16_union_107 {Q : Sg → Unit → Prop} {X : Sg → String → Prop} (K : MC R p s m args c cX16_union 6 RX16 D cA tys A n0 s0 9 195 []) (hQ : HQV p l e R s m args below meth c cX16_union D cA A n0 s0 QM dm ra jx rm Q) (hX : HX p l e R s m args below meth c 6 D cA A n0 s0 QM dm ra jx rm X) : ∀ (σ : Sg) (v1 : Int) (v2 : Int) (v3 : Int) (v4 : Int) (g1 : rng v1) (g2 : rng v2) (g3 : rng v3) (g4 : rng v4), w_X16_union_107 ra jx rm Q X σ v1 v2 v3 v4 → RG σ → Shp dm ra jx rm σ → JJ p l e R s m args below meth c 6 D cA A n0 s0 QM σ 107 [(0, .ref rm), (1, .int (i32 v1)), (2, .int (i32 v2)), (3, .int (i32 v3)), (4, .int (i32 v4))] [] := by
  intro σ v1 v2 v3 v4 g1 g2 g3 g4 h hGσ hS H locs ls hH hl hc
  have B := K.1
  unfold w_X16_union_107 at h
  refine lv_iload B.1 B.2.1 dX16_union_107 (lv_at hl 4 rfl) ?_
  refine lv_if_ne (tgt := 119) B.1 B.2.1 dX16_union_109 (by decide) (fun h9 => ?_) (fun h9 => ?_)
  · rw [if_pos (fun q => h9 ((z_eq g4).mpr q))] at h
    exact a_X16_union_119 K hQ hX _ _ _ _ g1 g2 g3 h hGσ hS _ _ _ hH (lv_sub (l' := [(0, .ref rm), (1, .int (i32 v1)), (2, .int (i32 v2)), (3, .int (i32 v3))]) hl [0, 1, 2, 3] rfl) hc
  · rw [if_neg (fun q => q ((z_eq g4).mp h9))] at h
    exact a_X16_union_112 K hQ hX _ h hGσ hS _ _ _ hH (lv_sub (l' := [(0, .ref rm)]) hl [0] rfl) hc
set_option maxRecDepth 20000 in
theorem a_X16_union_99 {Q : Sg → Unit → Prop} {X : Sg → String → Prop} (K : MC R p s m args c cX16_union 6 RX16 D cA tys A n0 s0 9 195 []) (hQ : HQV p l e R s m args below meth c cX16_union D cA A n0 s0 QM dm ra jx rm Q) (hX : HX p l e R s m args below meth c 6 D cA A n0 s0 QM dm ra jx rm X) {K41 : Sg → Int → Int → Int → Int → Int → Prop} (hK41 : ∀ (σ : Sg) (v1 : Int) (v2 : Int) (v3 : Int) (v4 : Int) (v5 : Int) (g1 : rng v1) (g2 : rng v2) (g3 : rng v3) (g4 : rng v4) (g5 : rng v5), K41 σ v1 v2 v3 v4 v5 → RG σ → Shp dm ra jx rm σ → JJ p l e R s m args below meth c 6 D cA A n0 s0 QM σ 41 [(0, .ref rm), (1, .int (i32 v1)), (2, .int (i32 v2)), (3, .int (i32 v3)), (4, .int (i32 v4)), (5, .int (i32 v5))] []) : ∀ (σ : Sg) (v1 : Int) (v2 : Int) (v3 : Int) (v5 : Int) (u0 : Int) (g1 : rng v1) (g2 : rng v2) (g3 : rng v3) (g5 : rng v5) (gu0 : rng u0), w_X16_union_99 ra jx rm K41 Q X σ v1 v2 v3 v5 u0 → RG σ → Shp dm ra jx rm σ → JJ p l e R s m args below meth c 6 D cA A n0 s0 QM σ 99 [(0, .ref rm), (1, .int (i32 v1)), (2, .int (i32 v2)), (3, .int (i32 v3)), (5, .int (i32 v5))] [.int (i32 u0)] := by
  intro σ v1 v2 v3 v5 u0 g1 g2 g3 g5 gu0 h hGσ hS H locs ls hH hl hc
  have B := K.1
  unfold w_X16_union_99 at h
  refine lv_istore (lv' := [(4, .int (i32 u0)), (0, .ref rm), (1, .int (i32 v1)), (2, .int (i32 v2)), (3, .int (i32 v3)), (5, .int (i32 v5))]) B.1 B.2.1 dX16_union_99 hl (by decide) rfl (fun ls hl => ?_)
  obtain ⟨q1, h⟩ := h
  refine lv_iinc (k := 5) (v := i32 (v5 + 1)) (lv' := [(5, .int (i32 (v5 + 1))), (4, .int (i32 u0)), (0, .ref rm), (1, .int (i32 v1)), (2, .int (i32 v2)), (3, .int (i32 v3))]) B.1 B.2.1 dX16_union_101 hl rfl (i32_add _ _) (by decide) rfl (fun ls hl => ?_)
  refine lv_goto (tgt := 41) B.1 B.2.1 dX16_union_104 (by decide) ?_
  exact hK41 _ _ _ _ _ _ g1 g2 g3 gu0 q1 h hGσ hS _ _ _ hH (lv_sub (l' := [(0, .ref rm), (1, .int (i32 v1)), (2, .int (i32 v2)), (3, .int (i32 v3)), (4, .int (i32 u0)), (5, .int (i32 (v5 + 1)))]) hl [2, 3, 4, 5, 1, 0] rfl) hc
set_option maxRecDepth 20000 in
theorem a_X16_union_98 {Q : Sg → Unit → Prop} {X : Sg → String → Prop} (K : MC R p s m args c cX16_union 6 RX16 D cA tys A n0 s0 9 195 []) (hQ : HQV p l e R s m args below meth c cX16_union D cA A n0 s0 QM dm ra jx rm Q) (hX : HX p l e R s m args below meth c 6 D cA A n0 s0 QM dm ra jx rm X) {K41 : Sg → Int → Int → Int → Int → Int → Prop} (hK41 : ∀ (σ : Sg) (v1 : Int) (v2 : Int) (v3 : Int) (v4 : Int) (v5 : Int) (g1 : rng v1) (g2 : rng v2) (g3 : rng v3) (g4 : rng v4) (g5 : rng v5), K41 σ v1 v2 v3 v4 v5 → RG σ → Shp dm ra jx rm σ → JJ p l e R s m args below meth c 6 D cA A n0 s0 QM σ 41 [(0, .ref rm), (1, .int (i32 v1)), (2, .int (i32 v2)), (3, .int (i32 v3)), (4, .int (i32 v4)), (5, .int (i32 v5))] []) : ∀ (σ : Sg) (v1 : Int) (v2 : Int) (v3 : Int) (v5 : Int) (g1 : rng v1) (g2 : rng v2) (g3 : rng v3) (g5 : rng v5), w_X16_union_98 ra jx rm K41 Q X σ v1 v2 v3 v5 → RG σ → Shp dm ra jx rm σ → JJ p l e R s m args below meth c 6 D cA A n0 s0 QM σ 98 [(0, .ref rm), (1, .int (i32 v1)), (2, .int (i32 v2)), (3, .int (i32 v3)), (5, .int (i32 v5))] [] := by
  intro σ v1 v2 v3 v5 g1 g2 g3 g5 h hGσ hS H locs ls hH hl hc
  have B := K.1
  unfold w_X16_union_98 at h
  refine lv_iconst (v := i32 0) B.1 B.2.1 dX16_union_98 (by decide) ?_
  exact a_X16_union_99 K hQ hX hK41 _ _ _ _ _ _ g1 g2 g3 g5 (by unfold rng; omega) h hGσ hS _ _ _ hH (lv_sub (l' := [(0, .ref rm), (1, .int (i32 v1)), (2, .int (i32 v2)), (3, .int (i32 v3)), (5, .int (i32 v5))]) hl [0, 1, 2, 3, 4] rfl) hc
set_option maxRecDepth 20000 in
theorem a_X16_union_94 {Q : Sg → Unit → Prop} {X : Sg → String → Prop} (K : MC R p s m args c cX16_union 6 RX16 D cA tys A n0 s0 9 195 []) (hQ : HQV p l e R s m args below meth c cX16_union D cA A n0 s0 QM dm ra jx rm Q) (hX : HX p l e R s m args below meth c 6 D cA A n0 s0 QM dm ra jx rm X) {K41 : Sg → Int → Int → Int → Int → Int → Prop} (hK41 : ∀ (σ : Sg) (v1 : Int) (v2 : Int) (v3 : Int) (v4 : Int) (v5 : Int) (g1 : rng v1) (g2 : rng v2) (g3 : rng v3) (g4 : rng v4) (g5 : rng v5), K41 σ v1 v2 v3 v4 v5 → RG σ → Shp dm ra jx rm σ → JJ p l e R s m args below meth c 6 D cA A n0 s0 QM σ 41 [(0, .ref rm), (1, .int (i32 v1)), (2, .int (i32 v2)), (3, .int (i32 v3)), (4, .int (i32 v4)), (5, .int (i32 v5))] []) : ∀ (σ : Sg) (v1 : Int) (v2 : Int) (v3 : Int) (v5 : Int) (g1 : rng v1) (g2 : rng v2) (g3 : rng v3) (g5 : rng v5), w_X16_union_94 ra jx rm K41 Q X σ v1 v2 v3 v5 → RG σ → Shp dm ra jx rm σ → JJ p l e R s m args below meth c 6 D cA A n0 s0 QM σ 94 [(0, .ref rm), (1, .int (i32 v1)), (2, .int (i32 v2)), (3, .int (i32 v3)), (5, .int (i32 v5))] [] := by
  intro σ v1 v2 v3 v5 g1 g2 g3 g5 h hGσ hS H locs ls hH hl hc
  have B := K.1
  unfold w_X16_union_94 at h
  refine lv_iconst (v := i32 1) B.1 B.2.1 dX16_union_94 (by decide) ?_
  refine lv_goto (tgt := 99) B.1 B.2.1 dX16_union_95 (by decide) ?_
  exact a_X16_union_99 K hQ hX hK41 _ _ _ _ _ _ g1 g2 g3 g5 (by unfold rng; omega) h hGσ hS _ _ _ hH (lv_sub (l' := [(0, .ref rm), (1, .int (i32 v1)), (2, .int (i32 v2)), (3, .int (i32 v3)), (5, .int (i32 v5))]) hl [0, 1, 2, 3, 4] rfl) hc
set_option maxRecDepth 20000 in
theorem a_X16_union_60 {Q : Sg → Unit → Prop} {X : Sg → String → Prop} (K : MC R p s m args c cX16_union 6 RX16 D cA tys A n0 s0 9 195 []) (hQ : HQV p l e R s m args below meth c cX16_union D cA A n0 s0 QM dm ra jx rm Q) (hX : HX p l e R s m args below meth c 6 D cA A n0 s0 QM dm ra jx rm X) {K41 : Sg → Int → Int → Int → Int → Int → Prop} (hK41 : ∀ (σ : Sg) (v1 : Int) (v2 : Int) (v3 : Int) (v4 : Int) (v5 : Int) (g1 : rng v1) (g2 : rng v2) (g3 : rng v3) (g4 : rng v4) (g5 : rng v5), K41 σ v1 v2 v3 v4 v5 → RG σ → Shp dm ra jx rm σ → JJ p l e R s m args below meth c 6 D cA A n0 s0 QM σ 41 [(0, .ref rm), (1, .int (i32 v1)), (2, .int (i32 v2)), (3, .int (i32 v3)), (4, .int (i32 v4)), (5, .int (i32 v5))] []) : ∀ (σ : Sg) (v1 : Int) (v2 : Int) (v3 : Int) (v5 : Int) (g1 : rng v1) (g2 : rng v2) (g3 : rng v3) (g5 : rng v5), w_X16_union_60 ra jx rm K41 Q X σ v1 v2 v3 v5 → RG σ → Shp dm ra jx rm σ → JJ p l e R s m args below meth c 6 D cA A n0 s0 QM σ 60 [(0, .ref rm), (1, .int (i32 v1)), (2, .int (i32 v2)), (3, .int (i32 v3)), (5, .int (i32 v5))] [] := by
  intro σ v1 v2 v3 v5 g1 g2 g3 g5 h hGσ hS H locs ls hH hl hc
  have B := K.1
  unfold w_X16_union_60 at h
  refine lv_aload_n B.1 B.2.1 dX16_union_60 rfl (lv_at hl 0 rfl) ?_
  refine r_getp B hH hS 18 (by decide) wf_X16_118 rfl rfl dX16_union_61 ?_
  obtain ⟨a46, ea46, ja46, h⟩ := h
  refine W.eq (g2 := F0 m 64 ls [.ref a46]) (by rw [ea46]; rfl) ?_
  refine n_arr B hH hS ja46 7 (kd := 101) (n := 144) (by decide) (by decide) (List.mem_of_getElem? (i := 7) rfl) rfl dX16_union_64 ?_
  refine lv_bipush (v := i32 9) B.1 B.2.1 dX16_union_67 (by decide) ?_
  refine lv_iload_n B.1 B.2.1 dX16_union_69 rfl (lv_at hl 2 rfl) ?_
  obtain ⟨q2, h⟩ := h
  refine lv_imul B.1 B.2.1 dX16_union_70 ?_
  rw [i32_mul]
  refine lv_iload B.1 B.2.1 dX16_union_71 (lv_at hl 4 rfl) ?_
  obtain ⟨q3, h⟩ := h
  refine lv_iadd B.1 B.2.1 dX16_union_73 ?_
  rw [i32_add]
  obtain ⟨q4, h⟩ := h
  refine x_lald B K.2.1 hH (hS.ja ja46 (k := 7) (kd := 101) (n := 144) (by decide)) (by decide) q4 dX16_union_74 ?_
  refine lv_aload_n B.1 B.2.1 dX16_union_75 rfl (lv_at hl 0 rfl) ?_
  refine r_getp B hH hS 18 (by decide) wf_X16_118 rfl rfl dX16_union_76 ?_
  obtain ⟨a47, ea47, ja47, h⟩ := h
  refine W.eq (g2 := F0 m 79 ls [.ref a47, .long (gJ σ (jx a46 7) ((9 * v2) + v5).toNat)]) (by rw [ea47]; rfl) ?_
  refine n_arr B hH hS ja47 7 (kd := 101) (n := 144) (by decide) (by decide) (List.mem_of_getElem? (i := 7) rfl) rfl dX16_union_79 ?_
  refine lv_bipush (v := i32 9) B.1 B.2.1 dX16_union_82 (by decide) ?_
  refine lv_iload_n B.1 B.2.1 dX16_union_84 rfl (lv_at hl 3 rfl) ?_
  obtain ⟨q6, h⟩ := h
  refine lv_imul B.1 B.2.1 dX16_union_85 ?_
  rw [i32_mul]
  refine lv_iload B.1 B.2.1 dX16_union_86 (lv_at hl 4 rfl) ?_
  obtain ⟨q7, h⟩ := h
  refine lv_iadd B.1 B.2.1 dX16_union_88 ?_
  rw [i32_add]
  obtain ⟨q8, h⟩ := h
  refine x_lald B K.2.1 hH (hS.ja ja47 (k := 7) (kd := 101) (n := 144) (by decide)) (by decide) q8 dX16_union_89 ?_
  refine W.lcmp B.1 B.2.1 dX16_union_90 ?_
  refine lv_if_ne (tgt := 98) B.1 B.2.1 dX16_union_91 (by decide) (fun h9 => ?_) (fun h9 => ?_)
  · rw [if_pos (fun q => h9 ((lg_cmp_eq _ _).mpr q))] at h
    exact a_X16_union_98 K hQ hX hK41 _ _ _ _ _ g1 g2 g3 g5 h hGσ hS _ _ _ hH (lv_sub (l' := [(0, .ref rm), (1, .int (i32 v1)), (2, .int (i32 v2)), (3, .int (i32 v3)), (5, .int (i32 v5))]) hl [0, 1, 2, 3, 4] rfl) hc
  · rw [if_neg (fun q => q ((lg_cmp_eq _ _).mp h9))] at h
    exact a_X16_union_94 K hQ hX hK41 _ _ _ _ _ g1 g2 g3 g5 h hGσ hS _ _ _ hH (lv_sub (l' := [(0, .ref rm), (1, .int (i32 v1)), (2, .int (i32 v2)), (3, .int (i32 v3)), (5, .int (i32 v5))]) hl [0, 1, 2, 3, 4] rfl) hc
set_option maxRecDepth 20000 in
theorem a_X16_union_55 {Q : Sg → Unit → Prop} {X : Sg → String → Prop} (K : MC R p s m args c cX16_union 6 RX16 D cA tys A n0 s0 9 195 []) (hQ : HQV p l e R s m args below meth c cX16_union D cA A n0 s0 QM dm ra jx rm Q) (hX : HX p l e R s m args below meth c 6 D cA A n0 s0 QM dm ra jx rm X) {K41 : Sg → Int → Int → Int → Int → Int → Prop} (hK41 : ∀ (σ : Sg) (v1 : Int) (v2 : Int) (v3 : Int) (v4 : Int) (v5 : Int) (g1 : rng v1) (g2 : rng v2) (g3 : rng v3) (g4 : rng v4) (g5 : rng v5), K41 σ v1 v2 v3 v4 v5 → RG σ → Shp dm ra jx rm σ → JJ p l e R s m args below meth c 6 D cA A n0 s0 QM σ 41 [(0, .ref rm), (1, .int (i32 v1)), (2, .int (i32 v2)), (3, .int (i32 v3)), (4, .int (i32 v4)), (5, .int (i32 v5))] []) : ∀ (σ : Sg) (v1 : Int) (v2 : Int) (v3 : Int) (v4 : Int) (v5 : Int) (g1 : rng v1) (g2 : rng v2) (g3 : rng v3) (g4 : rng v4) (g5 : rng v5), w_X16_union_55 ra jx rm K41 Q X σ v1 v2 v3 v4 v5 → RG σ → Shp dm ra jx rm σ → JJ p l e R s m args below meth c 6 D cA A n0 s0 QM σ 55 [(0, .ref rm), (1, .int (i32 v1)), (2, .int (i32 v2)), (3, .int (i32 v3)), (4, .int (i32 v4)), (5, .int (i32 v5))] [] := by
  intro σ v1 v2 v3 v4 v5 g1 g2 g3 g4 g5 h hGσ hS H locs ls hH hl hc
  have B := K.1
  unfold w_X16_union_55 at h
  refine lv_iload B.1 B.2.1 dX16_union_55 (lv_at hl 4 rfl) ?_
  refine lv_if_eq (tgt := 107) B.1 B.2.1 dX16_union_57 (by decide) (fun h9 => ?_) (fun h9 => ?_)
  · rw [if_pos ((z_eq g4).mp h9)] at h
    exact a_X16_union_107 K hQ hX _ _ _ _ _ g1 g2 g3 g4 h hGσ hS _ _ _ hH (lv_sub (l' := [(0, .ref rm), (1, .int (i32 v1)), (2, .int (i32 v2)), (3, .int (i32 v3)), (4, .int (i32 v4))]) hl [0, 1, 2, 3, 4] rfl) hc
  · rw [if_neg (fun q => h9 ((z_eq g4).mpr q))] at h
    exact a_X16_union_60 K hQ hX hK41 _ _ _ _ _ g1 g2 g3 g5 h hGσ hS _ _ _ hH (lv_sub (l' := [(0, .ref rm), (1, .int (i32 v1)), (2, .int (i32 v2)), (3, .int (i32 v3)), (5, .int (i32 v5))]) hl [0, 1, 2, 3, 5] rfl) hc
set_option maxRecDepth 20000 in
theorem a_X16_union_41 {Q : Sg → Unit → Prop} {X : Sg → String → Prop} (K : MC R p s m args c cX16_union 6 RX16 D cA tys A n0 s0 9 195 []) (hQ : HQV p l e R s m args below meth c cX16_union D cA A n0 s0 QM dm ra jx rm Q) (hX : HX p l e R s m args below meth c 6 D cA A n0 s0 QM dm ra jx rm X) {K41 : Sg → Int → Int → Int → Int → Int → Prop} (hK41 : ∀ (σ : Sg) (v1 : Int) (v2 : Int) (v3 : Int) (v4 : Int) (v5 : Int) (g1 : rng v1) (g2 : rng v2) (g3 : rng v3) (g4 : rng v4) (g5 : rng v5), K41 σ v1 v2 v3 v4 v5 → RG σ → Shp dm ra jx rm σ → JJ p l e R s m args below meth c 6 D cA A n0 s0 QM σ 41 [(0, .ref rm), (1, .int (i32 v1)), (2, .int (i32 v2)), (3, .int (i32 v3)), (4, .int (i32 v4)), (5, .int (i32 v5))] []) : ∀ (σ : Sg) (v1 : Int) (v2 : Int) (v3 : Int) (v4 : Int) (v5 : Int) (g1 : rng v1) (g2 : rng v2) (g3 : rng v3) (g4 : rng v4) (g5 : rng v5), w_X16_union_41 ra jx rm K41 Q X σ v1 v2 v3 v4 v5 → RG σ → Shp dm ra jx rm σ → JJ p l e R s m args below meth c 6 D cA A n0 s0 QM σ 41 [(0, .ref rm), (1, .int (i32 v1)), (2, .int (i32 v2)), (3, .int (i32 v3)), (4, .int (i32 v4)), (5, .int (i32 v5))] [] := by
  intro σ v1 v2 v3 v4 v5 g1 g2 g3 g4 g5 h hGσ hS H locs ls hH hl hc
  have B := K.1
  unfold w_X16_union_41 at h
  refine lv_iload B.1 B.2.1 dX16_union_41 (lv_at hl 5 rfl) ?_
  refine lv_aload_n B.1 B.2.1 dX16_union_43 rfl (lv_at hl 0 rfl) ?_
  refine r_getp B hH hS 18 (by decide) wf_X16_118 rfl rfl dX16_union_44 ?_
  obtain ⟨a48, ea48, ja48, h⟩ := h
  refine W.eq (g2 := F0 m 47 ls [.ref a48, .int (i32 v5)]) (by rw [ea48]; rfl) ?_
  refine n_arr B hH hS ja48 6 (kd := 100) (n := 16) (by decide) (by decide) (List.mem_of_getElem? (i := 6) rfl) rfl dX16_union_47 ?_
  refine lv_iload_n B.1 B.2.1 dX16_union_50 rfl (lv_at hl 2 rfl) ?_
  obtain ⟨q2, h⟩ := h
  refine x_iald B K.2.1 hH (hS.ja ja48 (k := 6) (kd := 100) (n := 16) (by decide)) (by decide) q2 dX16_union_51 ?_
  refine lv_icmp_ge (tgt := 107) B.1 B.2.1 dX16_union_52 (by decide) (fun h9 => ?_) (fun h9 => ?_)
  · rw [if_pos ((i32_le (hGσ _ _) g5).mp h9)] at h
    exact a_X16_union_107 K hQ hX _ _ _ _ _ g1 g2 g3 g4 h hGσ hS _ _ _ hH (lv_sub (l' := [(0, .ref rm), (1, .int (i32 v1)), (2, .int (i32 v2)), (3, .int (i32 v3)), (4, .int (i32 v4))]) hl [0, 1, 2, 3, 4] rfl) hc
  · rw [if_neg (fun q => h9 ((i32_le (hGσ _ _) g5).mpr q))] at h
    exact a_X16_union_55 K hQ hX hK41 _ _ _ _ _ _ g1 g2 g3 g4 g5 h hGσ hS _ _ _ hH (lv_sub (l' := [(0, .ref rm), (1, .int (i32 v1)), (2, .int (i32 v2)), (3, .int (i32 v3)), (4, .int (i32 v4)), (5, .int (i32 v5))]) hl [0, 1, 2, 3, 4, 5] rfl) hc
theorem al_X16_union_41 {Q : Sg → Unit → Prop} {X : Sg → String → Prop} (K : MC R p s m args c cX16_union 6 RX16 D cA tys A n0 s0 9 195 []) (hQ : HQV p l e R s m args below meth c cX16_union D cA A n0 s0 QM dm ra jx rm Q) (hX : HX p l e R s m args below meth c 6 D cA A n0 s0 QM dm ra jx rm X) : ∀ (n : Nat), ∀ (σ : Sg) (v1 : Int) (v2 : Int) (v3 : Int) (v4 : Int) (v5 : Int) (g1 : rng v1) (g2 : rng v2) (g3 : rng v3) (g4 : rng v4) (g5 : rng v5), wl_X16_union_41 ra jx rm Q X n σ v1 v2 v3 v4 v5 → RG σ → Shp dm ra jx rm σ → JJ p l e R s m args below meth c 6 D cA A n0 s0 QM σ 41 [(0, .ref rm), (1, .int (i32 v1)), (2, .int (i32 v2)), (3, .int (i32 v3)), (4, .int (i32 v4)), (5, .int (i32 v5))] [] := by
  intro n
  induction n with
  | zero => intro σ v1 v2 v3 v4 v5 g1 g2 g3 g4 g5 h; exact h.elim
  | succ n ih => exact fun σ v1 v2 v3 v4 v5 g1 g2 g3 g4 g5 h => a_X16_union_41 K hQ hX ih σ v1 v2 v3 v4 v5 g1 g2 g3 g4 g5 h
set_option maxRecDepth 20000 in
theorem a_X16_union_36 {Q : Sg → Unit → Prop} {X : Sg → String → Prop} (K : MC R p s m args c cX16_union 6 RX16 D cA tys A n0 s0 9 195 []) (hQ : HQV p l e R s m args below meth c cX16_union D cA A n0 s0 QM dm ra jx rm Q) (hX : HX p l e R s m args below meth c 6 D cA A n0 s0 QM dm ra jx rm X) : ∀ (σ : Sg) (v1 : Int) (v2 : Int) (v3 : Int) (u0 : Int) (g1 : rng v1) (g2 : rng v2) (g3 : rng v3) (gu0 : rng u0), w_X16_union_36 ra jx rm Q X σ v1 v2 v3 u0 → RG σ → Shp dm ra jx rm σ → JJ p l e R s m args below meth c 6 D cA A n0 s0 QM σ 36 [(0, .ref rm), (1, .int (i32 v1)), (2, .int (i32 v2)), (3, .int (i32 v3))] [.int (i32 u0)] := by
  intro σ v1 v2 v3 u0 g1 g2 g3 gu0 h hGσ hS H locs ls hH hl hc
  have B := K.1
  unfold w_X16_union_36 at h
  refine lv_istore (lv' := [(4, .int (i32 u0)), (0, .ref rm), (1, .int (i32 v1)), (2, .int (i32 v2)), (3, .int (i32 v3))]) B.1 B.2.1 dX16_union_36 hl (by decide) rfl (fun ls hl => ?_)
  refine lv_iconst (v := i32 0) B.1 B.2.1 dX16_union_38 (by decide) ?_
  refine lv_istore (lv' := [(5, .int (i32 0)), (4, .int (i32 u0)), (0, .ref rm), (1, .int (i32 v1)), (2, .int (i32 v2)), (3, .int (i32 v3))]) B.1 B.2.1 dX16_union_39 hl (by decide) rfl (fun ls hl => ?_)
  obtain ⟨n9, h⟩ := h
  exact al_X16_union_41 K hQ hX n9 _ _ _ _ _ _ g1 g2 g3 gu0 (by unfold rng; omega) h hGσ hS _ _ _ hH (lv_sub (l' := [(0, .ref rm), (1, .int (i32 v1)), (2, .int (i32 v2)), (3, .int (i32 v3)), (4, .int (i32 u0)), (5, .int (i32 0))]) hl [2, 3, 4, 5, 1, 0] rfl) hc
set_option maxRecDepth 20000 in
theorem a_X16_union_35 {Q : Sg → Unit → Prop} {X : Sg → String → Prop} (K : MC R p s m args c cX16_union 6 RX16 D cA tys A n0 s0 9 195 []) (hQ : HQV p l e R s m args below meth c cX16_union D cA A n0 s0 QM dm ra jx rm Q) (hX : HX p l e R s m args below meth c 6 D cA A n0 s0 QM dm ra jx rm X) : ∀ (σ : Sg) (v1 : Int) (v2 : Int) (v3 : Int) (g1 : rng v1) (g2 : rng v2) (g3 : rng v3), w_X16_union_35 ra jx rm Q X σ v1 v2 v3 → RG σ → Shp dm ra jx rm σ → JJ p l e R s m args below meth c 6 D cA A n0 s0 QM σ 35 [(0, .ref rm), (1, .int (i32 v1)), (2, .int (i32 v2)), (3, .int (i32 v3))] [] := by
  intro σ v1 v2 v3 g1 g2 g3 h hGσ hS H locs ls hH hl hc
  have B := K.1
  unfold w_X16_union_35 at h
  refine lv_iconst (v := i32 0) B.1 B.2.1 dX16_union_35 (by decide) ?_
  exact a_X16_union_36 K hQ hX _ _ _ _ _ g1 g2 g3 (by unfold rng; omega) h hGσ hS _ _ _ hH (lv_sub (l' := [(0, .ref rm), (1, .int (i32 v1)), (2, .int (i32 v2)), (3, .int (i32 v3))]) hl [0, 1, 2, 3] rfl) hc
set_option maxRecDepth 20000 in
theorem a_X16_union_31 {Q : Sg → Unit → Prop} {X : Sg → String → Prop} (K : MC R p s m args c cX16_union 6 RX16 D cA tys A n0 s0 9 195 []) (hQ : HQV p l e R s m args below meth c cX16_union D cA A n0 s0 QM dm ra jx rm Q) (hX : HX p l e R s m args below meth c 6 D cA A n0 s0 QM dm ra jx rm X) : ∀ (σ : Sg) (v1 : Int) (v2 : Int) (v3 : Int) (g1 : rng v1) (g2 : rng v2) (g3 : rng v3), w_X16_union_31 ra jx rm Q X σ v1 v2 v3 → RG σ → Shp dm ra jx rm σ → JJ p l e R s m args below meth c 6 D cA A n0 s0 QM σ 31 [(0, .ref rm), (1, .int (i32 v1)), (2, .int (i32 v2)), (3, .int (i32 v3))] [] := by
  intro σ v1 v2 v3 g1 g2 g3 h hGσ hS H locs ls hH hl hc
  have B := K.1
  unfold w_X16_union_31 at h
  refine lv_iconst (v := i32 1) B.1 B.2.1 dX16_union_31 (by decide) ?_
  refine lv_goto (tgt := 36) B.1 B.2.1 dX16_union_32 (by decide) ?_
  exact a_X16_union_36 K hQ hX _ _ _ _ _ g1 g2 g3 (by unfold rng; omega) h hGσ hS _ _ _ hH (lv_sub (l' := [(0, .ref rm), (1, .int (i32 v1)), (2, .int (i32 v2)), (3, .int (i32 v3))]) hl [0, 1, 2, 3] rfl) hc
set_option maxRecDepth 20000 in
theorem a_X16_union_0 {Q : Sg → Unit → Prop} {X : Sg → String → Prop} (K : MC R p s m args c cX16_union 6 RX16 D cA tys A n0 s0 9 195 []) (hQ : HQV p l e R s m args below meth c cX16_union D cA A n0 s0 QM dm ra jx rm Q) (hX : HX p l e R s m args below meth c 6 D cA A n0 s0 QM dm ra jx rm X) : ∀ (σ : Sg) (v1 : Int) (g1 : rng v1), w_X16_union_0 ra jx rm Q X σ v1 → RG σ → Shp dm ra jx rm σ → JJ p l e R s m args below meth c 6 D cA A n0 s0 QM σ 0 [(0, .ref rm), (1, .int (i32 v1))] [] := by
  intro σ v1 g1 h hGσ hS H locs ls hH hl hc
  have B := K.1
  unfold w_X16_union_0 at h
  refine lv_aload_n B.1 B.2.1 dX16_union_0 rfl (lv_at hl 0 rfl) ?_
  refine c_V B hH hl hc K.2.2.1 (C := RX16) (T := TX16) (N := 123) (ci := 16) (As := []) (ok_X16_input K.2.1 σ hGσ hS h) wc_X16_213 0 hd_X16_input ⟨Nat.le_trans (Nat.le_of_ble_eq_true rfl) K.2.2.2.1, Nat.le_trans (Nat.le_of_ble_eq_true rfl) K.2.2.2.2.1⟩ hS.1.1 hS.1.2 (by decide) rfl rfl (rest := []) rfl (Nat.le_of_ble_eq_true rfl) dX16_union_1 (fun σ49 w hq => ?_) (fun σ9 E9 hx9 => hX σ9 E9 _ _ _ (tb_out K.2.2.2.2.2 rfl) hx9.1 hx9.2.1 hx9.2.2)
  obtain ⟨r50, rfl, gr50, h, hGσ49, hS⟩ := hq
  intro H locs ls hH hl hc
  refine W.eq (g2 := F0 m 4 ls [.int (i32 r50)]) (rfl) ?_
  try dsimp only at h
  refine lv_istore_n (lv' := [(2, .int (i32 r50)), (0, .ref rm), (1, .int (i32 v1))]) B.1 B.2.1 dX16_union_4 rfl hl (by decide) rfl (fun ls hl => ?_)
  refine lv_aload_n B.1 B.2.1 dX16_union_5 rfl (lv_at hl 1 rfl) ?_
  refine c_V B hH hl hc K.2.2.1 (C := RX16) (T := TX16) (N := 123) (ci := 16) (As := []) (ok_X16_seeInput K.2.1 σ49 hGσ49 hS h) wc_X16_175 0 hd_X16_seeInput ⟨Nat.le_trans (Nat.le_of_ble_eq_true rfl) K.2.2.2.1, Nat.le_trans (Nat.le_of_ble_eq_true rfl) K.2.2.2.2.1⟩ hS.1.1 hS.1.2 (by decide) rfl rfl (rest := []) rfl (Nat.le_of_ble_eq_true rfl) dX16_union_6 (fun σ51 w hq => ?_) (fun σ9 E9 hx9 => hX σ9 E9 _ _ _ (tb_out K.2.2.2.2.2 rfl) hx9.1 hx9.2.1 hx9.2.2)
  obtain ⟨r52, rfl, gr52, h, hGσ51, hS⟩ := hq
  intro H locs ls hH hl hc
  refine W.eq (g2 := F0 m 9 ls [.int (i32 r52)]) (rfl) ?_
  try dsimp only at h
  refine lv_istore_n (lv' := [(3, .int (i32 r52)), (2, .int (i32 r50)), (0, .ref rm), (1, .int (i32 v1))]) B.1 B.2.1 dX16_union_9 rfl hl (by decide) rfl (fun ls hl => ?_)
  refine lv_aload_n B.1 B.2.1 dX16_union_10 rfl (lv_at hl 2 rfl) ?_
  refine r_getp B hH hS 18 (by decide) wf_X16_118 rfl rfl dX16_union_11 ?_
  obtain ⟨a53, ea53, ja53, h⟩ := h
  refine W.eq (g2 := F0 m 14 ls [.ref a53]) (by rw [ea53]; rfl) ?_
  refine n_arr B hH hS ja53 6 (kd := 100) (n := 16) (by decide) (by decide) (List.mem_of_getElem? (i := 6) rfl) rfl dX16_union_14 ?_
  refine lv_iload_n B.1 B.2.1 dX16_union_17 rfl (lv_at hl 1 rfl) ?_
  obtain ⟨q2, h⟩ := h
  refine x_iald B K.2.1 hH (hS.ja ja53 (k := 6) (kd := 100) (n := 16) (by decide)) (by decide) q2 dX16_union_18 ?_
  refine lv_aload_n B.1 B.2.1 dX16_union_19 rfl (lv_at hl 2 rfl) ?_
  refine r_getp B hH hS 18 (by decide) wf_X16_118 rfl rfl dX16_union_20 ?_
  obtain ⟨a54, ea54, ja54, h⟩ := h
  refine W.eq (g2 := F0 m 23 ls [.ref a54, .int (i32 (gI σ51 (jx a53 6) r50.toNat))]) (by rw [ea54]; rfl) ?_
  refine n_arr B hH hS ja54 6 (kd := 100) (n := 16) (by decide) (by decide) (List.mem_of_getElem? (i := 6) rfl) rfl dX16_union_23 ?_
  refine lv_iload_n B.1 B.2.1 dX16_union_26 rfl (lv_at hl 0 rfl) ?_
  obtain ⟨q4, h⟩ := h
  refine x_iald B K.2.1 hH (hS.ja ja54 (k := 6) (kd := 100) (n := 16) (by decide)) (by decide) q4 dX16_union_27 ?_
  refine lv_icmp_ne (tgt := 35) B.1 B.2.1 dX16_union_28 (by decide) (fun h9 => ?_) (fun h9 => ?_)
  · rw [if_pos (fun q => h9 ((i32_eq (hGσ51 _ _) (hGσ51 _ _)).mpr q))] at h
    exact a_X16_union_35 K hQ hX _ _ _ _ g1 gr50 gr52 h hGσ51 hS _ _ _ hH (lv_sub (l' := [(0, .ref rm), (1, .int (i32 v1)), (2, .int (i32 r50)), (3, .int (i32 r52))]) hl [2, 3, 1, 0] rfl) hc
  · rw [if_neg (fun q => q ((i32_eq (hGσ51 _ _) (hGσ51 _ _)).mp h9))] at h
    exact a_X16_union_31 K hQ hX _ _ _ _ g1 gr50 gr52 h hGσ51 hS _ _ _ hH (lv_sub (l' := [(0, .ref rm), (1, .int (i32 v1)), (2, .int (i32 r50)), (3, .int (i32 r52))]) hl [2, 3, 1, 0] rfl) hc
theorem ok_X16_union (hT : Tys cA tys) {Q : Sg → Unit → Prop} {X : Sg → String → Prop} (σ : Sg) (v1 : Int) (g1 : rng v1) (hG : RG σ) (hS : Shp dm ra jx rm σ) (h : wp_X16_union ra jx rm v1 σ Q X) : Ok l D cA tys A yX16_union (.code yX16_union cX16_union 6 none) 9 195 [.ref rm, .int (i32 v1)] σ (QnV dm ra jx rm Q) (QxR dm ra jx rm X) := by
  unfold wp_X16_union at h
  exact ok_V (plainFor_of_name (by decide)) (by exact Nat.le_of_ble_eq_true rfl) hT (fun p e R s m args below meth c K hQ hX H locs ls hH hl hc => a_X16_union_0 K hQ hX σ v1 g1 h hG hS H locs ls hH (lv_sub (l' := [(0, .ref rm), (1, .int (i32 v1))]) hl [0, 1] rfl) hc)
theorem dX16_operator_0 : decode cX16_operator 0 = .ok (.aload_n 0, 1) := by decide +kernel
theorem dX16_operator_1 : decode cX16_operator 1 = .ok (.ldc_w 277, 3) := by decide +kernel
theorem dX16_operator_4 : decode cX16_operator 4 = .ok (.invokevirtual 103, 3) := by decide +kernel
theorem dX16_operator_7 : decode cX16_operator 7 = .ok (.ifCond .eq 25, 3) := by decide +kernel
theorem dX16_operator_10 : decode cX16_operator 10 = .ok (.aload_n 0, 1) := by decide +kernel
theorem dX16_operator_11 : decode cX16_operator 11 = .ok (.invokevirtual 84, 3) := by decide +kernel
theorem dX16_operator_14 : decode cX16_operator 14 = .ok (.aload_n 0, 1) := by decide +kernel
theorem dX16_operator_15 : decode cX16_operator 15 = .ok (.getfield 118, 3) := by decide +kernel
theorem dX16_operator_18 : decode cX16_operator 18 = .ok (.getfield 246, 3) := by decide +kernel
theorem dX16_operator_21 : decode cX16_operator 21 = .ok (.iload_n 1, 1) := by decide +kernel
theorem dX16_operator_22 : decode cX16_operator 22 = .ok (.iconst 0, 1) := by decide +kernel
theorem dX16_operator_23 : decode cX16_operator 23 = .ok (.iastore, 1) := by decide +kernel
theorem dX16_operator_24 : decode cX16_operator 24 = .ok (.aload_n 0, 1) := by decide +kernel
theorem dX16_operator_25 : decode cX16_operator 25 = .ok (.iload_n 1, 1) := by decide +kernel
theorem dX16_operator_26 : decode cX16_operator 26 = .ok (.invokevirtual 279, 3) := by decide +kernel
theorem dX16_operator_29 : decode cX16_operator 29 = .ok (.goto 479, 3) := by decide +kernel
theorem dX16_operator_32 : decode cX16_operator 32 = .ok (.aload_n 0, 1) := by decide +kernel
theorem dX16_operator_33 : decode cX16_operator 33 = .ok (.ldc_w 281, 3) := by decide +kernel
theorem dX16_operator_36 : decode cX16_operator 36 = .ok (.invokevirtual 103, 3) := by decide +kernel
theorem dX16_operator_39 : decode cX16_operator 39 = .ok (.ifCond .eq 91, 3) := by decide +kernel
theorem dX16_operator_42 : decode cX16_operator 42 = .ok (.aload_n 0, 1) := by decide +kernel
theorem dX16_operator_43 : decode cX16_operator 43 = .ok (.invokevirtual 84, 3) := by decide +kernel
theorem dX16_operator_46 : decode cX16_operator 46 = .ok (.aload_n 0, 1) := by decide +kernel
theorem dX16_operator_47 : decode cX16_operator 47 = .ok (.getfield 118, 3) := by decide +kernel
theorem dX16_operator_50 : decode cX16_operator 50 = .ok (.getfield 246, 3) := by decide +kernel
theorem dX16_operator_53 : decode cX16_operator 53 = .ok (.iload_n 1, 1) := by decide +kernel
theorem dX16_operator_54 : decode cX16_operator 54 = .ok (.iconst 1, 1) := by decide +kernel
theorem dX16_operator_55 : decode cX16_operator 55 = .ok (.iastore, 1) := by decide +kernel
theorem dX16_operator_56 : decode cX16_operator 56 = .ok (.aload_n 0, 1) := by decide +kernel
theorem dX16_operator_57 : decode cX16_operator 57 = .ok (.getfield 118, 3) := by decide +kernel
theorem dX16_operator_60 : decode cX16_operator 60 = .ok (.getfield 216, 3) := by decide +kernel
theorem dX16_operator_63 : decode cX16_operator 63 = .ok (.iload_n 1, 1) := by decide +kernel
theorem dX16_operator_64 : decode cX16_operator 64 = .ok (.aload_n 0, 1) := by decide +kernel
theorem dX16_operator_65 : decode cX16_operator 65 = .ok (.invokevirtual 213, 3) := by decide +kernel
theorem dX16_operator_68 : decode cX16_operator 68 = .ok (.iastore, 1) := by decide +kernel
theorem dX16_operator_69 : decode cX16_operator 69 = .ok (.aload_n 0, 1) := by decide +kernel
theorem dX16_operator_70 : decode cX16_operator 70 = .ok (.bipush 58, 2) := by decide +kernel
theorem dX16_operator_72 : decode cX16_operator 72 = .ok (.invokevirtual 159, 3) := by decide +kernel
theorem dX16_operator_75 : decode cX16_operator 75 = .ok (.aload_n 0, 1) := by decide +kernel
theorem dX16_operator_76 : decode cX16_operator 76 = .ok (.getfield 118, 3) := by decide +kernel
theorem dX16_operator_79 : decode cX16_operator 79 = .ok (.getfield 219, 3) := by decide +kernel
theorem dX16_operator_82 : decode cX16_operator 82 = .ok (.bipush 8, 2) := by decide +kernel
theorem dX16_operator_84 : decode cX16_operator 84 = .ok (.iload_n 1, 1) := by decide +kernel
theorem dX16_operator_85 : decode cX16_operator 85 = .ok (.imul, 1) := by decide +kernel
theorem dX16_operator_86 : decode cX16_operator 86 = .ok (.aload_n 0, 1) := by decide +kernel
theorem dX16_operator_87 : decode cX16_operator 87 = .ok (.aload_n 0, 1) := by decide +kernel
theorem dX16_operator_88 : decode cX16_operator 88 = .ok (.getfield 118, 3) := by decide +kernel
theorem dX16_operator_91 : decode cX16_operator 91 = .ok (.getfield 216, 3) := by decide +kernel
theorem dX16_operator_94 : decode cX16_operator 94 = .ok (.iload_n 1, 1) := by decide +kernel
theorem dX16_operator_95 : decode cX16_operator 95 = .ok (.iaload, 1) := by decide +kernel
theorem dX16_operator_96 : decode cX16_operator 96 = .ok (.invokevirtual 225, 3) := by decide +kernel
theorem dX16_operator_99 : decode cX16_operator 99 = .ok (.iastore, 1) := by decide +kernel
theorem dX16_operator_100 : decode cX16_operator 100 = .ok (.aload_n 0, 1) := by decide +kernel
theorem dX16_operator_101 : decode cX16_operator 101 = .ok (.getfield 118, 3) := by decide +kernel
theorem dX16_operator_104 : decode cX16_operator 104 = .ok (.getfield 222, 3) := by decide +kernel
theorem dX16_operator_107 : decode cX16_operator 107 = .ok (.iload_n 1, 1) := by decide +kernel
theorem dX16_operator_108 : decode cX16_operator 108 = .ok (.iconst 1, 1) := by decide +kernel
theorem dX16_operator_109 : decode cX16_operator 109 = .ok (.iastore, 1) := by decide +kernel
theorem dX16_operator_110 : decode cX16_operator 110 = .ok (.aload_n 0, 1) := by decide +kernel
theorem dX16_operator_111 : decode cX16_operator 111 = .ok (.getfield 118, 3) := by decide +kernel
theorem dX16_operator_114 : decode cX16_operator 114 = .ok (.iload_n 1, 1) := by decide +kernel
theorem dX16_operator_115 : decode cX16_operator 115 = .ok (.aload_n 0, 1) := by decide +kernel
theorem dX16_operator_116 : decode cX16_operator 116 = .ok (.getfield 118, 3) := by decide +kernel
theorem dX16_operator_119 : decode cX16_operator 119 = .ok (.getfield 216, 3) := by decide +kernel
theorem dX16_operator_122 : decode cX16_operator 122 = .ok (.iload_n 1, 1) := by decide +kernel
theorem dX16_operator_123 : decode cX16_operator 123 = .ok (.iaload, 1) := by decide +kernel
theorem dX16_operator_124 : decode cX16_operator 124 = .ok (.invokevirtual 234, 3) := by decide +kernel
theorem dX16_operator_127 : decode cX16_operator 127 = .ok (.goto 381, 3) := by decide +kernel
theorem dX16_operator_130 : decode cX16_operator 130 = .ok (.aload_n 0, 1) := by decide +kernel
theorem dX16_operator_131 : decode cX16_operator 131 = .ok (.ldc_w 283, 3) := by decide +kernel
theorem dX16_operator_134 : decode cX16_operator 134 = .ok (.invokevirtual 103, 3) := by decide +kernel
theorem dX16_operator_137 : decode cX16_operator 137 = .ok (.ifCond .eq 25, 3) := by decide +kernel
theorem dX16_operator_140 : decode cX16_operator 140 = .ok (.aload_n 0, 1) := by decide +kernel
theorem dX16_operator_141 : decode cX16_operator 141 = .ok (.invokevirtual 84, 3) := by decide +kernel
theorem dX16_operator_144 : decode cX16_operator 144 = .ok (.aload_n 0, 1) := by decide +kernel
theorem dX16_operator_145 : decode cX16_operator 145 = .ok (.getfield 118, 3) := by decide +kernel
theorem dX16_operator_148 : decode cX16_operator 148 = .ok (.getfield 246, 3) := by decide +kernel
theorem dX16_operator_151 : decode cX16_operator 151 = .ok (.iload_n 1, 1) := by decide +kernel
theorem dX16_operator_152 : decode cX16_operator 152 = .ok (.iconst 2, 1) := by decide +kernel
theorem dX16_operator_153 : decode cX16_operator 153 = .ok (.iastore, 1) := by decide +kernel
theorem dX16_operator_154 : decode cX16_operator 154 = .ok (.aload_n 0, 1) := by decide +kernel
theorem dX16_operator_155 : decode cX16_operator 155 = .ok (.iload_n 1, 1) := by decide +kernel
theorem dX16_operator_156 : decode cX16_operator 156 = .ok (.invokevirtual 285, 3) := by decide +kernel
theorem dX16_operator_159 : decode cX16_operator 159 = .ok (.goto 349, 3) := by decide +kernel
theorem dX16_operator_162 : decode cX16_operator 162 = .ok (.aload_n 0, 1) := by decide +kernel
theorem dX16_operator_163 : decode cX16_operator 163 = .ok (.ldc_w 287, 3) := by decide +kernel
theorem dX16_operator_166 : decode cX16_operator 166 = .ok (.invokevirtual 103, 3) := by decide +kernel
theorem dX16_operator_169 : decode cX16_operator 169 = .ok (.ifCond .eq 25, 3) := by decide +kernel
theorem dX16_operator_172 : decode cX16_operator 172 = .ok (.aload_n 0, 1) := by decide +kernel
theorem dX16_operator_173 : decode cX16_operator 173 = .ok (.invokevirtual 84, 3) := by decide +kernel
theorem dX16_operator_176 : decode cX16_operator 176 = .ok (.aload_n 0, 1) := by decide +kernel
theorem dX16_operator_177 : decode cX16_operator 177 = .ok (.getfield 118, 3) := by decide +kernel
theorem dX16_operator_180 : decode cX16_operator 180 = .ok (.getfield 246, 3) := by decide +kernel
theorem dX16_operator_183 : decode cX16_operator 183 = .ok (.iload_n 1, 1) := by decide +kernel
theorem dX16_operator_184 : decode cX16_operator 184 = .ok (.iconst 3, 1) := by decide +kernel
theorem dX16_operator_185 : decode cX16_operator 185 = .ok (.iastore, 1) := by decide +kernel
theorem dX16_operator_186 : decode cX16_operator 186 = .ok (.aload_n 0, 1) := by decide +kernel
theorem dX16_operator_187 : decode cX16_operator 187 = .ok (.iload_n 1, 1) := by decide +kernel
theorem dX16_operator_188 : decode cX16_operator 188 = .ok (.invokevirtual 289, 3) := by decide +kernel
theorem dX16_operator_191 : decode cX16_operator 191 = .ok (.goto 317, 3) := by decide +kernel
theorem dX16_operator_194 : decode cX16_operator 194 = .ok (.aload_n 0, 1) := by decide +kernel
theorem dX16_operator_195 : decode cX16_operator 195 = .ok (.ldc_w 291, 3) := by decide +kernel
theorem dX16_operator_198 : decode cX16_operator 198 = .ok (.invokevirtual 103, 3) := by decide +kernel
theorem dX16_operator_201 : decode cX16_operator 201 = .ok (.ifCond .eq 15, 3) := by decide +kernel
theorem dX16_operator_204 : decode cX16_operator 204 = .ok (.aload_n 0, 1) := by decide +kernel
theorem dX16_operator_205 : decode cX16_operator 205 = .ok (.invokevirtual 84, 3) := by decide +kernel
theorem dX16_operator_208 : decode cX16_operator 208 = .ok (.aload_n 0, 1) := by decide +kernel
theorem dX16_operator_209 : decode cX16_operator 209 = .ok (.iload_n 1, 1) := by decide +kernel
theorem dX16_operator_210 : decode cX16_operator 210 = .ok (.invokevirtual 293, 3) := by decide +kernel
theorem dX16_operator_213 : decode cX16_operator 213 = .ok (.goto 295, 3) := by decide +kernel
theorem dX16_operator_216 : decode cX16_operator 216 = .ok (.aload_n 0, 1) := by decide +kernel
theorem dX16_operator_217 : decode cX16_operator 217 = .ok (.ldc_w 295, 3) := by decide +kernel
theorem dX16_operator_220 : decode cX16_operator 220 = .ok (.invokevirtual 103, 3) := by decide +kernel
theorem dX16_operator_223 : decode cX16_operator 223 = .ok (.ifCond .eq 71, 3) := by decide +kernel
theorem dX16_operator_226 : decode cX16_operator 226 = .ok (.aload_n 0, 1) := by decide +kernel
theorem dX16_operator_227 : decode cX16_operator 227 = .ok (.invokevirtual 84, 3) := by decide +kernel
theorem dX16_operator_230 : decode cX16_operator 230 = .ok (.aload_n 0, 1) := by decide +kernel
theorem dX16_operator_231 : decode cX16_operator 231 = .ok (.getfield 118, 3) := by decide +kernel
theorem dX16_operator_234 : decode cX16_operator 234 = .ok (.getfield 246, 3) := by decide +kernel
theorem dX16_operator_237 : decode cX16_operator 237 = .ok (.iload_n 1, 1) := by decide +kernel
theorem dX16_operator_238 : decode cX16_operator 238 = .ok (.bipush 6, 2) := by decide +kernel
theorem dX16_operator_240 : decode cX16_operator 240 = .ok (.iastore, 1) := by decide +kernel
theorem dX16_operator_241 : decode cX16_operator 241 = .ok (.aload_n 0, 1) := by decide +kernel
theorem dX16_operator_242 : decode cX16_operator 242 = .ok (.iload_n 1, 1) := by decide +kernel
theorem dX16_operator_243 : decode cX16_operator 243 = .ok (.invokevirtual 297, 3) := by decide +kernel
theorem dX16_operator_246 : decode cX16_operator 246 = .ok (.aload_n 0, 1) := by decide +kernel
theorem dX16_operator_247 : decode cX16_operator 247 = .ok (.ldc_w 272, 3) := by decide +kernel
theorem dX16_operator_250 : decode cX16_operator 250 = .ok (.invokevirtual 200, 3) := by decide +kernel
theorem dX16_operator_253 : decode cX16_operator 253 = .ok (.aload_n 0, 1) := by decide +kernel
theorem dX16_operator_254 : decode cX16_operator 254 = .ok (.getfield 118, 3) := by decide +kernel
theorem dX16_operator_257 : decode cX16_operator 257 = .ok (.getfield 191, 3) := by decide +kernel
theorem dX16_operator_260 : decode cX16_operator 260 = .ok (.iload_n 1, 1) := by decide +kernel
theorem dX16_operator_261 : decode cX16_operator 261 = .ok (.aload_n 0, 1) := by decide +kernel
theorem dX16_operator_262 : decode cX16_operator 262 = .ok (.iconst 0, 1) := by decide +kernel
theorem dX16_operator_263 : decode cX16_operator 263 = .ok (.lconst 0, 1) := by decide +kernel
theorem dX16_operator_264 : decode cX16_operator 264 = .ok (.invokevirtual 300, 3) := by decide +kernel
theorem dX16_operator_267 : decode cX16_operator 267 = .ok (.lastore, 1) := by decide +kernel
theorem dX16_operator_268 : decode cX16_operator 268 = .ok (.aload_n 0, 1) := by decide +kernel
theorem dX16_operator_269 : decode cX16_operator 269 = .ok (.getfield 118, 3) := by decide +kernel
theorem dX16_operator_272 : decode cX16_operator 272 = .ok (.getfield 204, 3) := by decide +kernel
theorem dX16_operator_275 : decode cX16_operator 275 = .ok (.iload_n 1, 1) := by decide +kernel
theorem dX16_operator_276 : decode cX16_operator 276 = .ok (.aload_n 0, 1) := by decide +kernel
theorem dX16_operator_277 : decode cX16_operator 277 = .ok (.iconst 1, 1) := by decide +kernel
theorem dX16_operator_278 : decode cX16_operator 278 = .ok (.aload_n 0, 1) := by decide +kernel
theorem dX16_operator_279 : decode cX16_operator 279 = .ok (.getfield 118, 3) := by decide +kernel
theorem dX16_operator_282 : decode cX16_operator 282 = .ok (.getfield 191, 3) := by decide +kernel
theorem dX16_operator_285 : decode cX16_operator 285 = .ok (.iload_n 1, 1) := by decide +kernel
theorem dX16_operator_286 : decode cX16_operator 286 = .ok (.laload, 1) := by decide +kernel
theorem dX16_operator_287 : decode cX16_operator 287 = .ok (.invokevirtual 300, 3) := by decide +kernel
theorem dX16_operator_290 : decode cX16_operator 290 = .ok (.lastore, 1) := by decide +kernel
theorem dX16_operator_291 : decode cX16_operator 291 = .ok (.goto 217, 3) := by decide +kernel
theorem dX16_operator_294 : decode cX16_operator 294 = .ok (.aload_n 0, 1) := by decide +kernel
theorem dX16_operator_295 : decode cX16_operator 295 = .ok (.ldc_w 304, 3) := by decide +kernel
theorem dX16_operator_298 : decode cX16_operator 298 = .ok (.invokevirtual 103, 3) := by decide +kernel
theorem dX16_operator_301 : decode cX16_operator 301 = .ok (.ifCond .eq 26, 3) := by decide +kernel
theorem dX16_operator_304 : decode cX16_operator 304 = .ok (.aload_n 0, 1) := by decide +kernel
theorem dX16_operator_305 : decode cX16_operator 305 = .ok (.invokevirtual 84, 3) := by decide +kernel
theorem dX16_operator_308 : decode cX16_operator 308 = .ok (.aload_n 0, 1) := by decide +kernel
theorem dX16_operator_309 : decode cX16_operator 309 = .ok (.getfield 118, 3) := by decide +kernel
theorem dX16_operator_312 : decode cX16_operator 312 = .ok (.getfield 246, 3) := by decide +kernel
theorem dX16_operator_315 : decode cX16_operator 315 = .ok (.iload_n 1, 1) := by decide +kernel
theorem dX16_operator_316 : decode cX16_operator 316 = .ok (.bipush 7, 2) := by decide +kernel
theorem dX16_operator_318 : decode cX16_operator 318 = .ok (.iastore, 1) := by decide +kernel
theorem dX16_operator_319 : decode cX16_operator 319 = .ok (.aload_n 0, 1) := by decide +kernel
theorem dX16_operator_320 : decode cX16_operator 320 = .ok (.iload_n 1, 1) := by decide +kernel
theorem dX16_operator_321 : decode cX16_operator 321 = .ok (.invokevirtual 297, 3) := by decide +kernel
theorem dX16_operator_324 : decode cX16_operator 324 = .ok (.goto 184, 3) := by decide +kernel
theorem dX16_operator_327 : decode cX16_operator 327 = .ok (.aload_n 0, 1) := by decide +kernel
theorem dX16_operator_328 : decode cX16_operator 328 = .ok (.ldc_w 306, 3) := by decide +kernel
theorem dX16_operator_331 : decode cX16_operator 331 = .ok (.invokevirtual 103, 3) := by decide +kernel
theorem dX16_operator_334 : decode cX16_operator 334 = .ok (.ifCond .eq 26, 3) := by decide +kernel
theorem dX16_operator_337 : decode cX16_operator 337 = .ok (.aload_n 0, 1) := by decide +kernel
theorem dX16_operator_338 : decode cX16_operator 338 = .ok (.invokevirtual 84, 3) := by decide +kernel
theorem dX16_operator_341 : decode cX16_operator 341 = .ok (.aload_n 0, 1) := by decide +kernel
theorem dX16_operator_342 : decode cX16_operator 342 = .ok (.getfield 118, 3) := by decide +kernel
theorem dX16_operator_345 : decode cX16_operator 345 = .ok (.getfield 246, 3) := by decide +kernel
theorem dX16_operator_348 : decode cX16_operator 348 = .ok (.iload_n 1, 1) := by decide +kernel
theorem dX16_operator_349 : decode cX16_operator 349 = .ok (.bipush 8, 2) := by decide +kernel
theorem dX16_operator_351 : decode cX16_operator 351 = .ok (.iastore, 1) := by decide +kernel
theorem dX16_operator_352 : decode cX16_operator 352 = .ok (.aload_n 0, 1) := by decide +kernel
theorem dX16_operator_353 : decode cX16_operator 353 = .ok (.iload_n 1, 1) := by decide +kernel
theorem dX16_operator_354 : decode cX16_operator 354 = .ok (.invokevirtual 308, 3) := by decide +kernel
theorem dX16_operator_357 : decode cX16_operator 357 = .ok (.goto 151, 3) := by decide +kernel
theorem dX16_operator_360 : decode cX16_operator 360 = .ok (.aload_n 0, 1) := by decide +kernel
theorem dX16_operator_361 : decode cX16_operator 361 = .ok (.ldc_w 310, 3) := by decide +kernel
theorem dX16_operator_364 : decode cX16_operator 364 = .ok (.invokevirtual 103, 3) := by decide +kernel
theorem dX16_operator_367 : decode cX16_operator 367 = .ok (.ifCond .eq 103, 3) := by decide +kernel
theorem dX16_operator_370 : decode cX16_operator 370 = .ok (.aload_n 0, 1) := by decide +kernel
theorem dX16_operator_371 : decode cX16_operator 371 = .ok (.invokevirtual 84, 3) := by decide +kernel
theorem dX16_operator_374 : decode cX16_operator 374 = .ok (.aload_n 0, 1) := by decide +kernel
theorem dX16_operator_375 : decode cX16_operator 375 = .ok (.getfield 118, 3) := by decide +kernel
theorem dX16_operator_378 : decode cX16_operator 378 = .ok (.getfield 246, 3) := by decide +kernel
theorem dX16_operator_381 : decode cX16_operator 381 = .ok (.iload_n 1, 1) := by decide +kernel
theorem dX16_operator_382 : decode cX16_operator 382 = .ok (.bipush 9, 2) := by decide +kernel
theorem dX16_operator_384 : decode cX16_operator 384 = .ok (.iastore, 1) := by decide +kernel
theorem dX16_operator_385 : decode cX16_operator 385 = .ok (.aload_n 0, 1) := by decide +kernel
theorem dX16_operator_386 : decode cX16_operator 386 = .ok (.getfield 118, 3) := by decide +kernel
theorem dX16_operator_389 : decode cX16_operator 389 = .ok (.getfield 216, 3) := by decide +kernel
theorem dX16_operator_392 : decode cX16_operator 392 = .ok (.iload_n 1, 1) := by decide +kernel
theorem dX16_operator_393 : decode cX16_operator 393 = .ok (.aload_n 0, 1) := by decide +kernel
theorem dX16_operator_394 : decode cX16_operator 394 = .ok (.invokevirtual 213, 3) := by decide +kernel
theorem dX16_operator_397 : decode cX16_operator 397 = .ok (.iastore, 1) := by decide +kernel
theorem dX16_operator_398 : decode cX16_operator 398 = .ok (.aload_n 0, 1) := by decide +kernel
theorem dX16_operator_399 : decode cX16_operator 399 = .ok (.ldc 237, 2) := by decide +kernel
theorem dX16_operator_401 : decode cX16_operator 401 = .ok (.invokevirtual 200, 3) := by decide +kernel
theorem dX16_operator_404 : decode cX16_operator 404 = .ok (.aload_n 0, 1) := by decide +kernel
theorem dX16_operator_405 : decode cX16_operator 405 = .ok (.getfield 118, 3) := by decide +kernel
theorem dX16_operator_408 : decode cX16_operator 408 = .ok (.getfield 239, 3) := by decide +kernel
theorem dX16_operator_411 : decode cX16_operator 411 = .ok (.iload_n 1, 1) := by decide +kernel
theorem dX16_operator_412 : decode cX16_operator 412 = .ok (.aload_n 0, 1) := by decide +kernel
theorem dX16_operator_413 : decode cX16_operator 413 = .ok (.aload_n 0, 1) := by decide +kernel
theorem dX16_operator_414 : decode cX16_operator 414 = .ok (.getfield 118, 3) := by decide +kernel
theorem dX16_operator_417 : decode cX16_operator 417 = .ok (.getfield 216, 3) := by decide +kernel
theorem dX16_operator_420 : decode cX16_operator 420 = .ok (.iload_n 1, 1) := by decide +kernel
theorem dX16_operator_421 : decode cX16_operator 421 = .ok (.iaload, 1) := by decide +kernel
theorem dX16_operator_422 : decode cX16_operator 422 = .ok (.invokevirtual 241, 3) := by decide +kernel
theorem dX16_operator_425 : decode cX16_operator 425 = .ok (.iastore, 1) := by decide +kernel
theorem dX16_operator_426 : decode cX16_operator 426 = .ok (.aload_n 0, 1) := by decide +kernel
theorem dX16_operator_427 : decode cX16_operator 427 = .ok (.ldc_w 272, 3) := by decide +kernel
theorem dX16_operator_430 : decode cX16_operator 430 = .ok (.invokevirtual 200, 3) := by decide +kernel
theorem dX16_operator_433 : decode cX16_operator 433 = .ok (.aload_n 0, 1) := by decide +kernel
theorem dX16_operator_434 : decode cX16_operator 434 = .ok (.getfield 118, 3) := by decide +kernel
theorem dX16_operator_437 : decode cX16_operator 437 = .ok (.getfield 191, 3) := by decide +kernel
theorem dX16_operator_440 : decode cX16_operator 440 = .ok (.iload_n 1, 1) := by decide +kernel
theorem dX16_operator_441 : decode cX16_operator 441 = .ok (.aload_n 0, 1) := by decide +kernel
theorem dX16_operator_442 : decode cX16_operator 442 = .ok (.lconst 1, 1) := by decide +kernel
theorem dX16_operator_443 : decode cX16_operator 443 = .ok (.ldc2_w 207, 3) := by decide +kernel
theorem dX16_operator_446 : decode cX16_operator 446 = .ok (.invokevirtual 209, 3) := by decide +kernel
theorem dX16_operator_449 : decode cX16_operator 449 = .ok (.lastore, 1) := by decide +kernel
theorem dX16_operator_450 : decode cX16_operator 450 = .ok (.aload_n 0, 1) := by decide +kernel
theorem dX16_operator_451 : decode cX16_operator 451 = .ok (.getfield 118, 3) := by decide +kernel
theorem dX16_operator_454 : decode cX16_operator 454 = .ok (.iload_n 1, 1) := by decide +kernel
theorem dX16_operator_455 : decode cX16_operator 455 = .ok (.aload_n 0, 1) := by decide +kernel
theorem dX16_operator_456 : decode cX16_operator 456 = .ok (.getfield 118, 3) := by decide +kernel
theorem dX16_operator_459 : decode cX16_operator 459 = .ok (.getfield 216, 3) := by decide +kernel
theorem dX16_operator_462 : decode cX16_operator 462 = .ok (.iload_n 1, 1) := by decide +kernel
theorem dX16_operator_463 : decode cX16_operator 463 = .ok (.iaload, 1) := by decide +kernel
theorem dX16_operator_464 : decode cX16_operator 464 = .ok (.invokevirtual 234, 3) := by decide +kernel
theorem dX16_operator_467 : decode cX16_operator 467 = .ok (.goto 41, 3) := by decide +kernel
theorem dX16_operator_470 : decode cX16_operator 470 = .ok (.aload_n 0, 1) := by decide +kernel
theorem dX16_operator_471 : decode cX16_operator 471 = .ok (.ldc_w 312, 3) := by decide +kernel
theorem dX16_operator_474 : decode cX16_operator 474 = .ok (.invokevirtual 103, 3) := by decide +kernel
theorem dX16_operator_477 : decode cX16_operator 477 = .ok (.ifCond .eq 26, 3) := by decide +kernel
theorem dX16_operator_480 : decode cX16_operator 480 = .ok (.aload_n 0, 1) := by decide +kernel
theorem dX16_operator_481 : decode cX16_operator 481 = .ok (.invokevirtual 84, 3) := by decide +kernel
theorem dX16_operator_484 : decode cX16_operator 484 = .ok (.aload_n 0, 1) := by decide +kernel
theorem dX16_operator_485 : decode cX16_operator 485 = .ok (.getfield 118, 3) := by decide +kernel
theorem dX16_operator_488 : decode cX16_operator 488 = .ok (.getfield 246, 3) := by decide +kernel
theorem dX16_operator_491 : decode cX16_operator 491 = .ok (.iload_n 1, 1) := by decide +kernel
theorem dX16_operator_492 : decode cX16_operator 492 = .ok (.bipush 10, 2) := by decide +kernel
theorem dX16_operator_494 : decode cX16_operator 494 = .ok (.iastore, 1) := by decide +kernel
theorem dX16_operator_495 : decode cX16_operator 495 = .ok (.aload_n 0, 1) := by decide +kernel
theorem dX16_operator_496 : decode cX16_operator 496 = .ok (.iload_n 1, 1) := by decide +kernel
theorem dX16_operator_497 : decode cX16_operator 497 = .ok (.invokevirtual 314, 3) := by decide +kernel
theorem dX16_operator_500 : decode cX16_operator 500 = .ok (.goto 8, 3) := by decide +kernel
theorem dX16_operator_503 : decode cX16_operator 503 = .ok (.aload_n 0, 1) := by decide +kernel
theorem dX16_operator_504 : decode cX16_operator 504 = .ok (.invokevirtual 80, 3) := by decide +kernel
theorem dX16_operator_507 : decode cX16_operator 507 = .ok (.athrow, 1) := by decide +kernel
theorem dX16_operator_508 : decode cX16_operator 508 = .ok (.return_, 1) := by decide +kernel
set_option maxRecDepth 20000 in
theorem a_X16_operator_503 {Q : Sg → Unit → Prop} {X : Sg → String → Prop} (K : MC R p s m args c cX16_operator 2 RX16 D cA tys A n0 s0 143 10070 []) (hQ : HQV p l e R s m args below meth c cX16_operator D cA A n0 s0 QM dm ra jx rm Q) (hX : HX p l e R s m args below meth c 2 D cA A n0 s0 QM dm ra jx rm X) : ∀ (σ : Sg), w_X16_operator_503 ra jx rm Q X σ → RG σ → Shp dm ra jx rm σ → JJ p l e R s m args below meth c 2 D cA A n0 s0 QM σ 503 [(0, .ref rm)] [] := by
  intro σ h hGσ hS H locs ls hH hl hc
  have B := K.1
  unfold w_X16_operator_503 at h
  refine lv_aload_n B.1 B.2.1 dX16_operator_503 rfl (lv_at hl 0 rfl) ?_
  refine c_V B hH hl hc K.2.2.1 (C := RX16) (T := TX16) (N := 123) (ci := 16) (As := []) (ok_X16_misplaced K.2.1 σ hGσ hS h) wc_X16_80 0 hd_X16_misplaced ⟨Nat.le_trans (Nat.le_of_ble_eq_true rfl) K.2.2.2.1, Nat.le_trans (Nat.le_of_ble_eq_true rfl) K.2.2.2.2.1⟩ hS.1.1 hS.1.2 (by decide) rfl rfl (rest := []) rfl (Nat.le_of_ble_eq_true rfl) dX16_operator_504 (fun σ203 w hq => ?_) (fun σ9 E9 hx9 => hX σ9 E9 _ _ _ (tb_out K.2.2.2.2.2 rfl) hx9.1 hx9.2.1 hx9.2.2)
  obtain ⟨r204, rfl, h, hGσ203, hS⟩ := hq
  intro H locs ls hH hl hc
  refine W.eq (g2 := F0 m 507 ls [va_rf r204]) (rfl) ?_
  try dsimp only at h
  obtain ⟨qt, h⟩ := h
  refine W.eq (g2 := F0 m 507 ls [.ref (ra 1)]) (by rw [qt]; rfl) ?_
  have hx9 := And.intro h (And.intro hGσ203 hS)
  refine h_athrow B hH hl hc (ci := 14) (hS.ob (k := 1) (ci := 14) (by decide)).1 (hS.ob (k := 1) (ci := 14) (by decide)).2 (by decide) rfl dX16_operator_507 ?_
  exact hX σ203 _ _ _ _ (tb_out K.2.2.2.2.2 rfl) hx9.1 hx9.2.1 hx9.2.2
set_option maxRecDepth 20000 in
theorem a_X16_operator_508 {Q : Sg → Unit → Prop} {X : Sg → String → Prop} (K : MC R p s m args c cX16_operator 2 RX16 D cA tys A n0 s0 143 10070 []) (hQ : HQV p l e R s m args below meth c cX16_operator D cA A n0 s0 QM dm ra jx rm Q) (hX : HX p l e R s m args below meth c 2 D cA A n0 s0 QM dm ra jx rm X) : ∀ (σ : Sg), w_X16_operator_508 ra jx rm Q X σ → RG σ → Shp dm ra jx rm σ → JJ p l e R s m args below meth c 2 D cA A n0 s0 QM σ 508 [(0, .ref rm)] [] := by
  intro σ h hGσ hS H locs ls hH hl hc
  have B := K.1
  unfold w_X16_operator_508 at h
  exact hQ _ _ _ _ _ dX16_operator_508 hH hc h hGσ hS
set_option maxRecDepth 20000 in
theorem a_X16_operator_480 {Q : Sg → Unit → Prop} {X : Sg → String → Prop} (K : MC R p s m args c cX16_operator 2 RX16 D cA tys A n0 s0 143 10070 []) (hQ : HQV p l e R s m args below meth c cX16_operator D cA A n0 s0 QM dm ra jx rm Q) (hX : HX p l e R s m args below meth c 2 D cA A n0 s0 QM dm ra jx rm X) : ∀ (σ : Sg) (v1 : Int) (g1 : rng v1), w_X16_operator_480 ra jx rm Q X σ v1 → RG σ → Shp dm ra jx rm σ → JJ p l e R s m args below meth c 2 D cA A n0 s0 QM σ 480 [(0, .ref rm), (1, .int (i32 v1))] [] := by
  intro σ v1 g1 h hGσ hS H locs ls hH hl hc
  have B := K.1
  unfold w_X16_operator_480 at h
  refine lv_aload_n B.1 B.2.1 dX16_operator_480 rfl (lv_at hl 0 rfl) ?_
  refine c_V B hH hl hc K.2.2.1 (C := RX16) (T := TX16) (N := 123) (ci := 16) (As := []) (ok_X16_take K.2.1 σ hGσ hS h) wc_X16_84 0 hd_X16_take ⟨Nat.le_trans (Nat.le_of_ble_eq_true rfl) K.2.2.2.1, Nat.le_trans (Nat.le_of_ble_eq_true rfl) K.2.2.2.2.1⟩ hS.1.1 hS.1.2 (by decide) rfl rfl (rest := []) rfl (Nat.le_of_ble_eq_true rfl) dX16_operator_481 (fun σ205 w hq => ?_) (fun σ9 E9 hx9 => hX σ9 E9 _ _ _ (tb_out K.2.2.2.2.2 rfl) hx9.1 hx9.2.1 hx9.2.2)
  obtain ⟨rfl, h, hGσ205, hS⟩ := hq
  intro H locs ls hH hl hc
  refine W.eq (g2 := F0 m 484 ls []) (rfl) ?_
  try dsimp only at h
  refine lv_aload_n B.1 B.2.1 dX16_operator_484 rfl (lv_at hl 0 rfl) ?_
  refine r_getp B hH hS 18 (by decide) wf_X16_118 rfl rfl dX16_operator_485 ?_
  obtain ⟨a206, ea206, ja206, h⟩ := h
  refine W.eq (g2 := F0 m 488 ls [.ref a206]) (by rw [ea206]; rfl) ?_
  refine n_arr B hH hS ja206 2 (kd := 100) (n := 16) (by decide) (by decide) (List.mem_of_getElem? (i := 2) rfl) rfl dX16_operator_488 ?_
  refine lv_iload_n B.1 B.2.1 dX16_operator_491 rfl (lv_at hl 1 rfl) ?_
  refine lv_bipush (v := i32 10) B.1 B.2.1 dX16_operator_492 (by decide) ?_
  obtain ⟨q2, h⟩ := h
  obtain ⟨σ207, eσ207⟩ : ∃ z, z = pI σ205 (jx a206 2) v1.toNat 10 := ⟨_, rfl⟩
  have h := h σ207 eσ207
  refine x_iast B K.2.1 hH (hS.ja ja206 (k := 2) (kd := 100) (n := 16) (by decide)) (by decide) q2 dX16_operator_494 (fun H locs hH => ?_)
  have hH : Hd D cA A s (pI σ205 (jx a206 2) v1.toNat 10) H locs := hH
  rw [← eσ207] at hH
  have hGσ207 : RG σ207 := by rw [eσ207]; exact hGσ205.pI (by unfold rng; omega)
  have hS : Shp dm ra jx rm σ207 := by rw [eσ207]; exact hS
  have hc : CB n0 s0 σ207 := by rw [eσ207]; exact hc
  rw [show gc σ205 = gc σ207 by rw [eσ207], show gs σ205 = gs σ207 by rw [eσ207]]
  refine lv_aload_n B.1 B.2.1 dX16_operator_495 rfl (lv_at hl 0 rfl) ?_
  refine lv_iload_n B.1 B.2.1 dX16_operator_496 rfl (lv_at hl 1 rfl) ?_
  refine c_V B hH hl hc K.2.2.1 (C := RX16) (T := TX16) (N := 123) (ci := 16) (As := [.int (i32 v1)]) (ok_X16_top K.2.1 σ207 v1 g1 hGσ207 hS h) wc_X16_314 1 hd_X16_top ⟨Nat.le_trans (Nat.le_of_ble_eq_true rfl) K.2.2.2.1, Nat.le_trans (Nat.le_of_ble_eq_true rfl) K.2.2.2.2.1⟩ hS.1.1 hS.1.2 (by decide) rfl rfl (rest := []) rfl (Nat.le_of_ble_eq_true rfl) dX16_operator_497 (fun σ208 w hq => ?_) (fun σ9 E9 hx9 => hX σ9 E9 _ _ _ (tb_out K.2.2.2.2.2 rfl) hx9.1 hx9.2.1 hx9.2.2)
  obtain ⟨rfl, h, hGσ208, hS⟩ := hq
  intro H locs ls hH hl hc
  refine W.eq (g2 := F0 m 500 ls []) (rfl) ?_
  try dsimp only at h
  refine lv_goto (tgt := 508) B.1 B.2.1 dX16_operator_500 (by decide) ?_
  exact a_X16_operator_508 K hQ hX _ h hGσ208 hS _ _ _ hH (lv_sub (l' := [(0, .ref rm)]) hl [0] rfl) hc
set_option maxRecDepth 20000 in
theorem a_X16_operator_470 {Q : Sg → Unit → Prop} {X : Sg → String → Prop} (K : MC R p s m args c cX16_operator 2 RX16 D cA tys A n0 s0 143 10070 []) (hQ : HQV p l e R s m args below meth c cX16_operator D cA A n0 s0 QM dm ra jx rm Q) (hX : HX p l e R s m args below meth c 2 D cA A n0 s0 QM dm ra jx rm X) : ∀ (σ : Sg) (v1 : Int) (g1 : rng v1), w_X16_operator_470 ra jx rm Q X σ v1 → RG σ → Shp dm ra jx rm σ → JJ p l e R s m args below meth c 2 D cA A n0 s0 QM σ 470 [(0, .ref rm), (1, .int (i32 v1))] [] := by
  intro σ v1 g1 h hGσ hS H locs ls hH hl hc
  have B := K.1
  unfold w_X16_operator_470 at h
  refine lv_aload_n B.1 B.2.1 dX16_operator_470 rfl (lv_at hl 0 rfl) ?_
  refine xs_ldcw B.1 B.2.1 B.2.2.1 (B.2.2.2.2.2.2.2.2.2.2.1 _ (List.mem_of_getElem? (l := stL) (i := 25) rfl)).1 dX16_operator_471 ?_
  refine c_V B hH hl hc K.2.2.1 (C := RX16) (T := TX16) (N := 123) (ci := 16) (As := [.ref (cA (1000 + 312))]) (ok_X16_isWord K.2.1 σ 312 st_312 hGσ hS h) wc_X16_103 1 hd_X16_isWord ⟨Nat.le_trans (Nat.le_of_ble_eq_true rfl) K.2.2.2.1, Nat.le_trans (Nat.le_of_ble_eq_true rfl) K.2.2.2.2.1⟩ hS.1.1 hS.1.2 (by decide) rfl rfl (rest := []) rfl (Nat.le_of_ble_eq_true rfl) dX16_operator_474 (fun σ209 w hq => ?_) (fun σ9 E9 hx9 => hX σ9 E9 _ _ _ (tb_out K.2.2.2.2.2 rfl) hx9.1 hx9.2.1 hx9.2.2)
  obtain ⟨r210, rfl, ⟨gr210, gzr210⟩, h, hGσ209, hS⟩ := hq
  intro H locs ls hH hl hc
  refine W.eq (g2 := F0 m 477 ls [.int (i32 r210)]) (rfl) ?_
  try dsimp only at h
  refine lv_if_eq (tgt := 503) B.1 B.2.1 dX16_operator_477 (by decide) (fun h9 => ?_) (fun h9 => ?_)
  · rw [if_pos ((z_eq gr210).mp h9)] at h
    exact a_X16_operator_503 K hQ hX _ h hGσ209 hS _ _ _ hH (lv_sub (l' := [(0, .ref rm)]) hl [0] rfl) hc
  · rw [if_neg (fun q => h9 ((z_eq gr210).mpr q))] at h
    exact a_X16_operator_480 K hQ hX _ _ g1 h hGσ209 hS _ _ _ hH (lv_sub (l' := [(0, .ref rm), (1, .int (i32 v1))]) hl [0, 1] rfl) hc
set_option maxRecDepth 20000 in
theorem a_X16_operator_370 {Q : Sg → Unit → Prop} {X : Sg → String → Prop} (K : MC R p s m args c cX16_operator 2 RX16 D cA tys A n0 s0 143 10070 []) (hQ : HQV p l e R s m args below meth c cX16_operator D cA A n0 s0 QM dm ra jx rm Q) (hX : HX p l e R s m args below meth c 2 D cA A n0 s0 QM dm ra jx rm X) : ∀ (σ : Sg) (v1 : Int) (g1 : rng v1), w_X16_operator_370 ra jx rm Q X σ v1 → RG σ → Shp dm ra jx rm σ → JJ p l e R s m args below meth c 2 D cA A n0 s0 QM σ 370 [(0, .ref rm), (1, .int (i32 v1))] [] := by
  intro σ v1 g1 h hGσ hS H locs ls hH hl hc
  have B := K.1
  unfold w_X16_operator_370 at h
  refine lv_aload_n B.1 B.2.1 dX16_operator_370 rfl (lv_at hl 0 rfl) ?_
  refine c_V B hH hl hc K.2.2.1 (C := RX16) (T := TX16) (N := 123) (ci := 16) (As := []) (ok_X16_take K.2.1 σ hGσ hS h) wc_X16_84 0 hd_X16_take ⟨Nat.le_trans (Nat.le_of_ble_eq_true rfl) K.2.2.2.1, Nat.le_trans (Nat.le_of_ble_eq_true rfl) K.2.2.2.2.1⟩ hS.1.1 hS.1.2 (by decide) rfl rfl (rest := []) rfl (Nat.le_of_ble_eq_true rfl) dX16_operator_371 (fun σ211 w hq => ?_) (fun σ9 E9 hx9 => hX σ9 E9 _ _ _ (tb_out K.2.2.2.2.2 rfl) hx9.1 hx9.2.1 hx9.2.2)
  obtain ⟨rfl, h, hGσ211, hS⟩ := hq
  intro H locs ls hH hl hc
  refine W.eq (g2 := F0 m 374 ls []) (rfl) ?_
  try dsimp only at h
  refine lv_aload_n B.1 B.2.1 dX16_operator_374 rfl (lv_at hl 0 rfl) ?_
  refine r_getp B hH hS 18 (by decide) wf_X16_118 rfl rfl dX16_operator_375 ?_
  obtain ⟨a212, ea212, ja212, h⟩ := h
  refine W.eq (g2 := F0 m 378 ls [.ref a212]) (by rw [ea212]; rfl) ?_
  refine n_arr B hH hS ja212 2 (kd := 100) (n := 16) (by decide) (by decide) (List.mem_of_getElem? (i := 2) rfl) rfl dX16_operator_378 ?_
  refine lv_iload_n B.1 B.2.1 dX16_operator_381 rfl (lv_at hl 1 rfl) ?_
  refine lv_bipush (v := i32 9) B.1 B.2.1 dX16_operator_382 (by decide) ?_
  obtain ⟨q2, h⟩ := h
  obtain ⟨σ213, eσ213⟩ : ∃ z, z = pI σ211 (jx a212 2) v1.toNat 9 := ⟨_, rfl⟩
  have h := h σ213 eσ213
  refine x_iast B K.2.1 hH (hS.ja ja212 (k := 2) (kd := 100) (n := 16) (by decide)) (by decide) q2 dX16_operator_384 (fun H locs hH => ?_)
  have hH : Hd D cA A s (pI σ211 (jx a212 2) v1.toNat 9) H locs := hH
  rw [← eσ213] at hH
  have hGσ213 : RG σ213 := by rw [eσ213]; exact hGσ211.pI (by unfold rng; omega)
  have hS : Shp dm ra jx rm σ213 := by rw [eσ213]; exact hS
  have hc : CB n0 s0 σ213 := by rw [eσ213]; exact hc
  rw [show gc σ211 = gc σ213 by rw [eσ213], show gs σ211 = gs σ213 by rw [eσ213]]
  refine lv_aload_n B.1 B.2.1 dX16_operator_385 rfl (lv_at hl 0 rfl) ?_
  refine r_getp B hH hS 18 (by decide) wf_X16_118 rfl rfl dX16_operator_386 ?_
  obtain ⟨a214, ea214, ja214, h⟩ := h
  refine W.eq (g2 := F0 m 389 ls [.ref a214]) (by rw [ea214]; rfl) ?_
  refine n_arr B hH hS ja214 4 (kd := 100) (n := 16) (by decide) (by decide) (List.mem_of_getElem? (i := 4) rfl) rfl dX16_operator_389 ?_
  refine lv_iload_n B.1 B.2.1 dX16_operator_392 rfl (lv_at hl 1 rfl) ?_
  refine lv_aload_n B.1 B.2.1 dX16_operator_393 rfl (lv_at hl 0 rfl) ?_
  refine c_V B hH hl hc K.2.2.1 (C := RX16) (T := TX16) (N := 123) (ci := 16) (As := []) (ok_X16_input K.2.1 σ213 hGσ213 hS h) wc_X16_213 0 hd_X16_input ⟨Nat.le_trans (Nat.le_of_ble_eq_true rfl) K.2.2.2.1, Nat.le_trans (Nat.le_of_ble_eq_true rfl) K.2.2.2.2.1⟩ hS.1.1 hS.1.2 (by decide) rfl rfl (rest := [.int (i32 v1), .ref (jx a214 4)]) rfl (Nat.le_of_ble_eq_true rfl) dX16_operator_394 (fun σ215 w hq => ?_) (fun σ9 E9 hx9 => hX σ9 E9 _ _ _ (tb_out K.2.2.2.2.2 rfl) hx9.1 hx9.2.1 hx9.2.2)
  obtain ⟨r216, rfl, gr216, h, hGσ215, hS⟩ := hq
  intro H locs ls hH hl hc
  refine W.eq (g2 := F0 m 397 ls [.int (i32 r216), .int (i32 v1), .ref (jx a214 4)]) (rfl) ?_
  try dsimp only at h
  obtain ⟨q5, h⟩ := h
  obtain ⟨σ217, eσ217⟩ : ∃ z, z = pI σ215 (jx a214 4) v1.toNat r216 := ⟨_, rfl⟩
  have h := h σ217 eσ217
  refine x_iast B K.2.1 hH (hS.ja ja214 (k := 4) (kd := 100) (n := 16) (by decide)) (by decide) q5 dX16_operator_397 (fun H locs hH => ?_)
  have hH : Hd D cA A s (pI σ215 (jx a214 4) v1.toNat r216) H locs := hH
  rw [← eσ217] at hH
  have hGσ217 : RG σ217 := by rw [eσ217]; exact hGσ215.pI gr216
  have hS : Shp dm ra jx rm σ217 := by rw [eσ217]; exact hS
  have hc : CB n0 s0 σ217 := by rw [eσ217]; exact hc
  rw [show gc σ215 = gc σ217 by rw [eσ217], show gs σ215 = gs σ217 by rw [eσ217]]
  refine lv_aload_n B.1 B.2.1 dX16_operator_398 rfl (lv_at hl 0 rfl) ?_
  refine xs_ldc B.1 B.2.1 B.2.2.1 (B.2.2.2.2.2.2.2.2.2.2.1 _ (List.mem_of_getElem? (l := stL) (i := 3) rfl)).1 dX16_operator_399 ?_
  refine c_V B hH hl hc K.2.2.1 (C := RX16) (T := TX16) (N := 123) (ci := 16) (As := [.ref (cA (1000 + 237))]) (ok_X16_keyword K.2.1 σ217 237 st_237 hGσ217 hS h) wc_X16_200 1 hd_X16_keyword ⟨Nat.le_trans (Nat.le_of_ble_eq_true rfl) K.2.2.2.1, Nat.le_trans (Nat.le_of_ble_eq_true rfl) K.2.2.2.2.1⟩ hS.1.1 hS.1.2 (by decide) rfl rfl (rest := []) rfl (Nat.le_of_ble_eq_true rfl) dX16_operator_401 (fun σ218 w hq => ?_) (fun σ9 E9 hx9 => hX σ9 E9 _ _ _ (tb_out K.2.2.2.2.2 rfl) hx9.1 hx9.2.1 hx9.2.2)
  obtain ⟨rfl, h, hGσ218, hS⟩ := hq
  intro H locs ls hH hl hc
  refine W.eq (g2 := F0 m 404 ls []) (rfl) ?_
  try dsimp only at h
  refine lv_aload_n B.1 B.2.1 dX16_operator_404 rfl (lv_at hl 0 rfl) ?_
  refine r_getp B hH hS 18 (by decide) wf_X16_118 rfl rfl dX16_operator_405 ?_
  obtain ⟨a219, ea219, ja219, h⟩ := h
  refine W.eq (g2 := F0 m 408 ls [.ref a219]) (by rw [ea219]; rfl) ?_
  refine n_arr B hH hS ja219 10 (kd := 100) (n := 16) (by decide) (by decide) (List.mem_of_getElem? (i := 10) rfl) rfl dX16_operator_408 ?_
  refine lv_iload_n B.1 B.2.1 dX16_operator_411 rfl (lv_at hl 1 rfl) ?_
  refine lv_aload_n B.1 B.2.1 dX16_operator_412 rfl (lv_at hl 0 rfl) ?_
  refine lv_aload_n B.1 B.2.1 dX16_operator_413 rfl (lv_at hl 0 rfl) ?_
  refine r_getp B hH hS 18 (by decide) wf_X16_118 rfl rfl dX16_operator_414 ?_
  obtain ⟨a220, ea220, ja220, h⟩ := h
  refine W.eq (g2 := F0 m 417 ls [.ref a220, .ref rm, .int (i32 v1), .ref (jx a219 10)]) (by rw [ea220]; rfl) ?_
  refine n_arr B hH hS ja220 4 (kd := 100) (n := 16) (by decide) (by decide) (List.mem_of_getElem? (i := 4) rfl) rfl dX16_operator_417 ?_
  refine lv_iload_n B.1 B.2.1 dX16_operator_420 rfl (lv_at hl 1 rfl) ?_
  obtain ⟨q9, h⟩ := h
  refine x_iald B K.2.1 hH (hS.ja ja220 (k := 4) (kd := 100) (n := 16) (by decide)) (by decide) q9 dX16_operator_421 ?_
  refine c_V B hH hl hc K.2.2.1 (C := RX16) (T := TX16) (N := 123) (ci := 16) (As := [.int (i32 (gI σ218 (jx a220 4) v1.toNat))]) (ok_X16_columnOf K.2.1 σ218 (gI σ218 (jx a220 4) v1.toNat) (hGσ218 _ _) hGσ218 hS h) wc_X16_241 1 hd_X16_columnOf ⟨Nat.le_trans (Nat.le_of_ble_eq_true rfl) K.2.2.2.1, Nat.le_trans (Nat.le_of_ble_eq_true rfl) K.2.2.2.2.1⟩ hS.1.1 hS.1.2 (by decide) rfl rfl (rest := [.int (i32 v1), .ref (jx a219 10)]) rfl (Nat.le_of_ble_eq_true rfl) dX16_operator_422 (fun σ221 w hq => ?_) (fun σ9 E9 hx9 => hX σ9 E9 _ _ _ (tb_out K.2.2.2.2.2 rfl) hx9.1 hx9.2.1 hx9.2.2)
  obtain ⟨r222, rfl, gr222, h, hGσ221, hS⟩ := hq
  intro H locs ls hH hl hc
  refine W.eq (g2 := F0 m 425 ls [.int (i32 r222), .int (i32 v1), .ref (jx a219 10)]) (rfl) ?_
  try dsimp only at h
  obtain ⟨q10, h⟩ := h
  obtain ⟨σ223, eσ223⟩ : ∃ z, z = pI σ221 (jx a219 10) v1.toNat r222 := ⟨_, rfl⟩
  have h := h σ223 eσ223
  refine x_iast B K.2.1 hH (hS.ja ja219 (k := 10) (kd := 100) (n := 16) (by decide)) (by decide) q10 dX16_operator_425 (fun H locs hH => ?_)
  have hH : Hd D cA A s (pI σ221 (jx a219 10) v1.toNat r222) H locs := hH
  rw [← eσ223] at hH
  have hGσ223 : RG σ223 := by rw [eσ223]; exact hGσ221.pI gr222
  have hS : Shp dm ra jx rm σ223 := by rw [eσ223]; exact hS
  have hc : CB n0 s0 σ223 := by rw [eσ223]; exact hc
  rw [show gc σ221 = gc σ223 by rw [eσ223], show gs σ221 = gs σ223 by rw [eσ223]]
  refine lv_aload_n B.1 B.2.1 dX16_operator_426 rfl (lv_at hl 0 rfl) ?_
  refine xs_ldcw B.1 B.2.1 B.2.2.1 (B.2.2.2.2.2.2.2.2.2.2.1 _ (List.mem_of_getElem? (l := stL) (i := 14) rfl)).1 dX16_operator_427 ?_
  refine c_V B hH hl hc K.2.2.1 (C := RX16) (T := TX16) (N := 123) (ci := 16) (As := [.ref (cA (1000 + 272))]) (ok_X16_keyword K.2.1 σ223 272 st_272 hGσ223 hS h) wc_X16_200 1 hd_X16_keyword ⟨Nat.le_trans (Nat.le_of_ble_eq_true rfl) K.2.2.2.1, Nat.le_trans (Nat.le_of_ble_eq_true rfl) K.2.2.2.2.1⟩ hS.1.1 hS.1.2 (by decide) rfl rfl (rest := []) rfl (Nat.le_of_ble_eq_true rfl) dX16_operator_430 (fun σ224 w hq => ?_) (fun σ9 E9 hx9 => hX σ9 E9 _ _ _ (tb_out K.2.2.2.2.2 rfl) hx9.1 hx9.2.1 hx9.2.2)
  obtain ⟨rfl, h, hGσ224, hS⟩ := hq
  intro H locs ls hH hl hc
  refine W.eq (g2 := F0 m 433 ls []) (rfl) ?_
  try dsimp only at h
  refine lv_aload_n B.1 B.2.1 dX16_operator_433 rfl (lv_at hl 0 rfl) ?_
  refine r_getp B hH hS 18 (by decide) wf_X16_118 rfl rfl dX16_operator_434 ?_
  obtain ⟨a225, ea225, ja225, h⟩ := h
  refine W.eq (g2 := F0 m 437 ls [.ref a225]) (by rw [ea225]; rfl) ?_
  refine n_arr B hH hS ja225 8 (kd := 101) (n := 16) (by decide) (by decide) (List.mem_of_getElem? (i := 8) rfl) rfl dX16_operator_437 ?_
  refine lv_iload_n B.1 B.2.1 dX16_operator_440 rfl (lv_at hl 1 rfl) ?_
  refine lv_aload_n B.1 B.2.1 dX16_operator_441 rfl (lv_at hl 0 rfl) ?_
  refine lv_lconst (v := 1) B.1 B.2.1 dX16_operator_442 (by decide) ?_
  refine lv_ldc2 B.1 B.2.1 B.2.2.1 (B.2.2.2.1 _ (wk_X16_207)) dX16_operator_443 ?_
  refine c_V B hH hl hc K.2.2.1 (C := RX16) (T := TX16) (N := 123) (ci := 16) (As := [.long 1, .long 1000]) (ok_X16_bounded K.2.1 σ224 1 1000 hGσ224 hS h) wc_X16_209 2 hd_X16_bounded ⟨Nat.le_trans (Nat.le_of_ble_eq_true rfl) K.2.2.2.1, Nat.le_trans (Nat.le_of_ble_eq_true rfl) K.2.2.2.2.1⟩ hS.1.1 hS.1.2 (by decide) rfl rfl (rest := [.int (i32 v1), .ref (jx a225 8)]) rfl (Nat.le_of_ble_eq_true rfl) dX16_operator_446 (fun σ226 w hq => ?_) (fun σ9 E9 hx9 => hX σ9 E9 _ _ _ (tb_out K.2.2.2.2.2 rfl) hx9.1 hx9.2.1 hx9.2.2)
  obtain ⟨r227, rfl, h, hGσ226, hS⟩ := hq
  intro H locs ls hH hl hc
  refine W.eq (g2 := F0 m 449 ls [.long r227, .int (i32 v1), .ref (jx a225 8)]) (rfl) ?_
  try dsimp only at h
  obtain ⟨q13, h⟩ := h
  obtain ⟨σ228, eσ228⟩ : ∃ z, z = pJ σ226 (jx a225 8) v1.toNat r227 := ⟨_, rfl⟩
  have h := h σ228 eσ228
  refine x_last B K.2.1 hH (hS.ja ja225 (k := 8) (kd := 101) (n := 16) (by decide)) (by decide) q13 dX16_operator_449 (fun H locs hH => ?_)
  have hH : Hd D cA A s (pJ σ226 (jx a225 8) v1.toNat r227) H locs := hH
  rw [← eσ228] at hH
  have hGσ228 : RG σ228 := by rw [eσ228]; exact hGσ226.pJ
  have hS : Shp dm ra jx rm σ228 := by rw [eσ228]; exact hS
  have hc : CB n0 s0 σ228 := by rw [eσ228]; exact hc
  rw [show gc σ226 = gc σ228 by rw [eσ228], show gs σ226 = gs σ228 by rw [eσ228]]
  refine lv_aload_n B.1 B.2.1 dX16_operator_450 rfl (lv_at hl 0 rfl) ?_
  refine r_getp B hH hS 18 (by decide) wf_X16_118 rfl rfl dX16_operator_451 ?_
  refine lv_iload_n B.1 B.2.1 dX16_operator_454 rfl (lv_at hl 1 rfl) ?_
  refine lv_aload_n B.1 B.2.1 dX16_operator_455 rfl (lv_at hl 0 rfl) ?_
  refine r_getp B hH hS 18 (by decide) wf_X16_118 rfl rfl dX16_operator_456 ?_
  obtain ⟨a229, ea229, ja229, h⟩ := h
  refine W.eq (g2 := F0 m 459 ls [.ref a229, .int (i32 v1), va_rf (gP σ228 rm 18)]) (by rw [ea229]; rfl) ?_
  refine n_arr B hH hS ja229 4 (kd := 100) (n := 16) (by decide) (by decide) (List.mem_of_getElem? (i := 4) rfl) rfl dX16_operator_459 ?_
  refine lv_iload_n B.1 B.2.1 dX16_operator_462 rfl (lv_at hl 1 rfl) ?_
  obtain ⟨q16, h⟩ := h
  refine x_iald B K.2.1 hH (hS.ja ja229 (k := 4) (kd := 100) (n := 16) (by decide)) (by decide) q16 dX16_operator_463 ?_
  obtain ⟨a230, ea230, ja230, h⟩ := h
  refine W.eq (g2 := F0 m 464 ls [.int (i32 (gI σ228 (jx a229 4) v1.toNat)), .int (i32 v1), .ref a230]) (by rw [ea230]; rfl) ?_
  refine c_V B hH hl hc K.2.2.1 (C := RX15) (T := TX15) (N := 20) (ci := 15) (As := [.int (i32 v1), .int (i32 (gI σ228 (jx a229 4) v1.toNat))]) (ok_X15_copyColumns ja230 K.2.1 σ228 v1 (gI σ228 (jx a229 4) v1.toNat) g1 (hGσ228 _ _) hGσ228 hS h) wc_X16_234 2 hd_X15_copyColumns ⟨Nat.le_trans (Nat.le_of_ble_eq_true rfl) K.2.2.2.1, Nat.le_trans (Nat.le_of_ble_eq_true rfl) K.2.2.2.2.1⟩ (hS.jb ja230).1 (hS.jb ja230).2 (by decide) rfl rfl (rest := []) rfl (Nat.le_of_ble_eq_true rfl) dX16_operator_464 (fun σ231 w hq => ?_) (fun σ9 E9 hx9 => hX σ9 E9 _ _ _ (tb_out K.2.2.2.2.2 rfl) hx9.1 hx9.2.1 hx9.2.2)
  obtain ⟨rfl, h, hGσ231, hS⟩ := hq
  intro H locs ls hH hl hc
  refine W.eq (g2 := F0 m 467 ls []) (rfl) ?_
  try dsimp only at h
  refine lv_goto (tgt := 508) B.1 B.2.1 dX16_operator_467 (by decide) ?_
  exact a_X16_operator_508 K hQ hX _ h hGσ231 hS _ _ _ hH (lv_sub (l' := [(0, .ref rm)]) hl [0] rfl) hc
set_option maxRecDepth 20000 in
theorem a_X16_operator_360 {Q : Sg → Unit → Prop} {X : Sg → String → Prop} (K : MC R p s m args c cX16_operator 2 RX16 D cA tys A n0 s0 143 10070 []) (hQ : HQV p l e R s m args below meth c cX16_operator D cA A n0 s0 QM dm ra jx rm Q) (hX : HX p l e R s m args below meth c 2 D cA A n0 s0 QM dm ra jx rm X) : ∀ (σ : Sg) (v1 : Int) (g1 : rng v1), w_X16_operator_360 ra jx rm Q X σ v1 → RG σ → Shp dm ra jx rm σ → JJ p l e R s m args below meth c 2 D cA A n0 s0 QM σ 360 [(0, .ref rm), (1, .int (i32 v1))] [] := by
  intro σ v1 g1 h hGσ hS H locs ls hH hl hc
  have B := K.1
  unfold w_X16_operator_360 at h
  refine lv_aload_n B.1 B.2.1 dX16_operator_360 rfl (lv_at hl 0 rfl) ?_
  refine xs_ldcw B.1 B.2.1 B.2.2.1 (B.2.2.2.2.2.2.2.2.2.2.1 _ (List.mem_of_getElem? (l := stL) (i := 24) rfl)).1 dX16_operator_361 ?_
  refine c_V B hH hl hc K.2.2.1 (C := RX16) (T := TX16) (N := 123) (ci := 16) (As := [.ref (cA (1000 + 310))]) (ok_X16_isWord K.2.1 σ 310 st_310 hGσ hS h) wc_X16_103 1 hd_X16_isWord ⟨Nat.le_trans (Nat.le_of_ble_eq_true rfl) K.2.2.2.1, Nat.le_trans (Nat.le_of_ble_eq_true rfl) K.2.2.2.2.1⟩ hS.1.1 hS.1.2 (by decide) rfl rfl (rest := []) rfl (Nat.le_of_ble_eq_true rfl) dX16_operator_364 (fun σ232 w hq => ?_) (fun σ9 E9 hx9 => hX σ9 E9 _ _ _ (tb_out K.2.2.2.2.2 rfl) hx9.1 hx9.2.1 hx9.2.2)
  obtain ⟨r233, rfl, ⟨gr233, gzr233⟩, h, hGσ232, hS⟩ := hq
  intro H locs ls hH hl hc
  refine W.eq (g2 := F0 m 367 ls [.int (i32 r233)]) (rfl) ?_
  try dsimp only at h
  refine lv_if_eq (tgt := 470) B.1 B.2.1 dX16_operator_367 (by decide) (fun h9 => ?_) (fun h9 => ?_)
  · rw [if_pos ((z_eq gr233).mp h9)] at h
    exact a_X16_operator_470 K hQ hX _ _ g1 h hGσ232 hS _ _ _ hH (lv_sub (l' := [(0, .ref rm), (1, .int (i32 v1))]) hl [0, 1] rfl) hc
  · rw [if_neg (fun q => h9 ((z_eq gr233).mpr q))] at h
    exact a_X16_operator_370 K hQ hX _ _ g1 h hGσ232 hS _ _ _ hH (lv_sub (l' := [(0, .ref rm), (1, .int (i32 v1))]) hl [0, 1] rfl) hc
set_option maxRecDepth 20000 in
theorem a_X16_operator_337 {Q : Sg → Unit → Prop} {X : Sg → String → Prop} (K : MC R p s m args c cX16_operator 2 RX16 D cA tys A n0 s0 143 10070 []) (hQ : HQV p l e R s m args below meth c cX16_operator D cA A n0 s0 QM dm ra jx rm Q) (hX : HX p l e R s m args below meth c 2 D cA A n0 s0 QM dm ra jx rm X) : ∀ (σ : Sg) (v1 : Int) (g1 : rng v1), w_X16_operator_337 ra jx rm Q X σ v1 → RG σ → Shp dm ra jx rm σ → JJ p l e R s m args below meth c 2 D cA A n0 s0 QM σ 337 [(0, .ref rm), (1, .int (i32 v1))] [] := by
  intro σ v1 g1 h hGσ hS H locs ls hH hl hc
  have B := K.1
  unfold w_X16_operator_337 at h
  refine lv_aload_n B.1 B.2.1 dX16_operator_337 rfl (lv_at hl 0 rfl) ?_
  refine c_V B hH hl hc K.2.2.1 (C := RX16) (T := TX16) (N := 123) (ci := 16) (As := []) (ok_X16_take K.2.1 σ hGσ hS h) wc_X16_84 0 hd_X16_take ⟨Nat.le_trans (Nat.le_of_ble_eq_true rfl) K.2.2.2.1, Nat.le_trans (Nat.le_of_ble_eq_true rfl) K.2.2.2.2.1⟩ hS.1.1 hS.1.2 (by decide) rfl rfl (rest := []) rfl (Nat.le_of_ble_eq_true rfl) dX16_operator_338 (fun σ234 w hq => ?_) (fun σ9 E9 hx9 => hX σ9 E9 _ _ _ (tb_out K.2.2.2.2.2 rfl) hx9.1 hx9.2.1 hx9.2.2)
  obtain ⟨rfl, h, hGσ234, hS⟩ := hq
  intro H locs ls hH hl hc
  refine W.eq (g2 := F0 m 341 ls []) (rfl) ?_
  try dsimp only at h
  refine lv_aload_n B.1 B.2.1 dX16_operator_341 rfl (lv_at hl 0 rfl) ?_
  refine r_getp B hH hS 18 (by decide) wf_X16_118 rfl rfl dX16_operator_342 ?_
  obtain ⟨a235, ea235, ja235, h⟩ := h
  refine W.eq (g2 := F0 m 345 ls [.ref a235]) (by rw [ea235]; rfl) ?_
  refine n_arr B hH hS ja235 2 (kd := 100) (n := 16) (by decide) (by decide) (List.mem_of_getElem? (i := 2) rfl) rfl dX16_operator_345 ?_
  refine lv_iload_n B.1 B.2.1 dX16_operator_348 rfl (lv_at hl 1 rfl) ?_
  refine lv_bipush (v := i32 8) B.1 B.2.1 dX16_operator_349 (by decide) ?_
  obtain ⟨q2, h⟩ := h
  obtain ⟨σ236, eσ236⟩ : ∃ z, z = pI σ234 (jx a235 2) v1.toNat 8 := ⟨_, rfl⟩
  have h := h σ236 eσ236
  refine x_iast B K.2.1 hH (hS.ja ja235 (k := 2) (kd := 100) (n := 16) (by decide)) (by decide) q2 dX16_operator_351 (fun H locs hH => ?_)
  have hH : Hd D cA A s (pI σ234 (jx a235 2) v1.toNat 8) H locs := hH
  rw [← eσ236] at hH
  have hGσ236 : RG σ236 := by rw [eσ236]; exact hGσ234.pI (by unfold rng; omega)
  have hS : Shp dm ra jx rm σ236 := by rw [eσ236]; exact hS
  have hc : CB n0 s0 σ236 := by rw [eσ236]; exact hc
  rw [show gc σ234 = gc σ236 by rw [eσ236], show gs σ234 = gs σ236 by rw [eσ236]]
  refine lv_aload_n B.1 B.2.1 dX16_operator_352 rfl (lv_at hl 0 rfl) ?_
  refine lv_iload_n B.1 B.2.1 dX16_operator_353 rfl (lv_at hl 1 rfl) ?_
  refine c_V B hH hl hc K.2.2.1 (C := RX16) (T := TX16) (N := 123) (ci := 16) (As := [.int (i32 v1)]) (ok_X16_match K.2.1 σ236 v1 g1 hGσ236 hS h) wc_X16_308 1 hd_X16_match ⟨Nat.le_trans (Nat.le_of_ble_eq_true rfl) K.2.2.2.1, Nat.le_trans (Nat.le_of_ble_eq_true rfl) K.2.2.2.2.1⟩ hS.1.1 hS.1.2 (by decide) rfl rfl (rest := []) rfl (Nat.le_of_ble_eq_true rfl) dX16_operator_354 (fun σ237 w hq => ?_) (fun σ9 E9 hx9 => hX σ9 E9 _ _ _ (tb_out K.2.2.2.2.2 rfl) hx9.1 hx9.2.1 hx9.2.2)
  obtain ⟨rfl, h, hGσ237, hS⟩ := hq
  intro H locs ls hH hl hc
  refine W.eq (g2 := F0 m 357 ls []) (rfl) ?_
  try dsimp only at h
  refine lv_goto (tgt := 508) B.1 B.2.1 dX16_operator_357 (by decide) ?_
  exact a_X16_operator_508 K hQ hX _ h hGσ237 hS _ _ _ hH (lv_sub (l' := [(0, .ref rm)]) hl [0] rfl) hc
set_option maxRecDepth 20000 in
theorem a_X16_operator_327 {Q : Sg → Unit → Prop} {X : Sg → String → Prop} (K : MC R p s m args c cX16_operator 2 RX16 D cA tys A n0 s0 143 10070 []) (hQ : HQV p l e R s m args below meth c cX16_operator D cA A n0 s0 QM dm ra jx rm Q) (hX : HX p l e R s m args below meth c 2 D cA A n0 s0 QM dm ra jx rm X) : ∀ (σ : Sg) (v1 : Int) (g1 : rng v1), w_X16_operator_327 ra jx rm Q X σ v1 → RG σ → Shp dm ra jx rm σ → JJ p l e R s m args below meth c 2 D cA A n0 s0 QM σ 327 [(0, .ref rm), (1, .int (i32 v1))] [] := by
  intro σ v1 g1 h hGσ hS H locs ls hH hl hc
  have B := K.1
  unfold w_X16_operator_327 at h
  refine lv_aload_n B.1 B.2.1 dX16_operator_327 rfl (lv_at hl 0 rfl) ?_
  refine xs_ldcw B.1 B.2.1 B.2.2.1 (B.2.2.2.2.2.2.2.2.2.2.1 _ (List.mem_of_getElem? (l := stL) (i := 23) rfl)).1 dX16_operator_328 ?_
  refine c_V B hH hl hc K.2.2.1 (C := RX16) (T := TX16) (N := 123) (ci := 16) (As := [.ref (cA (1000 + 306))]) (ok_X16_isWord K.2.1 σ 306 st_306 hGσ hS h) wc_X16_103 1 hd_X16_isWord ⟨Nat.le_trans (Nat.le_of_ble_eq_true rfl) K.2.2.2.1, Nat.le_trans (Nat.le_of_ble_eq_true rfl) K.2.2.2.2.1⟩ hS.1.1 hS.1.2 (by decide) rfl rfl (rest := []) rfl (Nat.le_of_ble_eq_true rfl) dX16_operator_331 (fun σ238 w hq => ?_) (fun σ9 E9 hx9 => hX σ9 E9 _ _ _ (tb_out K.2.2.2.2.2 rfl) hx9.1 hx9.2.1 hx9.2.2)
  obtain ⟨r239, rfl, ⟨gr239, gzr239⟩, h, hGσ238, hS⟩ := hq
  intro H locs ls hH hl hc
  refine W.eq (g2 := F0 m 334 ls [.int (i32 r239)]) (rfl) ?_
  try dsimp only at h
  refine lv_if_eq (tgt := 360) B.1 B.2.1 dX16_operator_334 (by decide) (fun h9 => ?_) (fun h9 => ?_)
  · rw [if_pos ((z_eq gr239).mp h9)] at h
    exact a_X16_operator_360 K hQ hX _ _ g1 h hGσ238 hS _ _ _ hH (lv_sub (l' := [(0, .ref rm), (1, .int (i32 v1))]) hl [0, 1] rfl) hc
  · rw [if_neg (fun q => h9 ((z_eq gr239).mpr q))] at h
    exact a_X16_operator_337 K hQ hX _ _ g1 h hGσ238 hS _ _ _ hH (lv_sub (l' := [(0, .ref rm), (1, .int (i32 v1))]) hl [0, 1] rfl) hc
set_option maxRecDepth 20000 in
theorem a_X16_operator_304 {Q : Sg → Unit → Prop} {X : Sg → String → Prop} (K : MC R p s m args c cX16_operator 2 RX16 D cA tys A n0 s0 143 10070 []) (hQ : HQV p l e R s m args below meth c cX16_operator D cA A n0 s0 QM dm ra jx rm Q) (hX : HX p l e R s m args below meth c 2 D cA A n0 s0 QM dm ra jx rm X) : ∀ (σ : Sg) (v1 : Int) (g1 : rng v1), w_X16_operator_304 ra jx rm Q X σ v1 → RG σ → Shp dm ra jx rm σ → JJ p l e R s m args below meth c 2 D cA A n0 s0 QM σ 304 [(0, .ref rm), (1, .int (i32 v1))] [] := by
  intro σ v1 g1 h hGσ hS H locs ls hH hl hc
  have B := K.1
  unfold w_X16_operator_304 at h
  refine lv_aload_n B.1 B.2.1 dX16_operator_304 rfl (lv_at hl 0 rfl) ?_
  refine c_V B hH hl hc K.2.2.1 (C := RX16) (T := TX16) (N := 123) (ci := 16) (As := []) (ok_X16_take K.2.1 σ hGσ hS h) wc_X16_84 0 hd_X16_take ⟨Nat.le_trans (Nat.le_of_ble_eq_true rfl) K.2.2.2.1, Nat.le_trans (Nat.le_of_ble_eq_true rfl) K.2.2.2.2.1⟩ hS.1.1 hS.1.2 (by decide) rfl rfl (rest := []) rfl (Nat.le_of_ble_eq_true rfl) dX16_operator_305 (fun σ240 w hq => ?_) (fun σ9 E9 hx9 => hX σ9 E9 _ _ _ (tb_out K.2.2.2.2.2 rfl) hx9.1 hx9.2.1 hx9.2.2)
  obtain ⟨rfl, h, hGσ240, hS⟩ := hq
  intro H locs ls hH hl hc
  refine W.eq (g2 := F0 m 308 ls []) (rfl) ?_
  try dsimp only at h
  refine lv_aload_n B.1 B.2.1 dX16_operator_308 rfl (lv_at hl 0 rfl) ?_
  refine r_getp B hH hS 18 (by decide) wf_X16_118 rfl rfl dX16_operator_309 ?_
  obtain ⟨a241, ea241, ja241, h⟩ := h
  refine W.eq (g2 := F0 m 312 ls [.ref a241]) (by rw [ea241]; rfl) ?_
  refine n_arr B hH hS ja241 2 (kd := 100) (n := 16) (by decide) (by decide) (List.mem_of_getElem? (i := 2) rfl) rfl dX16_operator_312 ?_
  refine lv_iload_n B.1 B.2.1 dX16_operator_315 rfl (lv_at hl 1 rfl) ?_
  refine lv_bipush (v := i32 7) B.1 B.2.1 dX16_operator_316 (by decide) ?_
  obtain ⟨q2, h⟩ := h
  obtain ⟨σ242, eσ242⟩ : ∃ z, z = pI σ240 (jx a241 2) v1.toNat 7 := ⟨_, rfl⟩
  have h := h σ242 eσ242
  refine x_iast B K.2.1 hH (hS.ja ja241 (k := 2) (kd := 100) (n := 16) (by decide)) (by decide) q2 dX16_operator_318 (fun H locs hH => ?_)
  have hH : Hd D cA A s (pI σ240 (jx a241 2) v1.toNat 7) H locs := hH
  rw [← eσ242] at hH
  have hGσ242 : RG σ242 := by rw [eσ242]; exact hGσ240.pI (by unfold rng; omega)
  have hS : Shp dm ra jx rm σ242 := by rw [eσ242]; exact hS
  have hc : CB n0 s0 σ242 := by rw [eσ242]; exact hc
  rw [show gc σ240 = gc σ242 by rw [eσ242], show gs σ240 = gs σ242 by rw [eσ242]]
  refine lv_aload_n B.1 B.2.1 dX16_operator_319 rfl (lv_at hl 0 rfl) ?_
  refine lv_iload_n B.1 B.2.1 dX16_operator_320 rfl (lv_at hl 1 rfl) ?_
  refine c_V B hH hl hc K.2.2.1 (C := RX16) (T := TX16) (N := 123) (ci := 16) (As := [.int (i32 v1)]) (ok_X16_pair K.2.1 σ242 v1 g1 hGσ242 hS h) wc_X16_297 1 hd_X16_pair ⟨Nat.le_trans (Nat.le_of_ble_eq_true rfl) K.2.2.2.1, Nat.le_trans (Nat.le_of_ble_eq_true rfl) K.2.2.2.2.1⟩ hS.1.1 hS.1.2 (by decide) rfl rfl (rest := []) rfl (Nat.le_of_ble_eq_true rfl) dX16_operator_321 (fun σ243 w hq => ?_) (fun σ9 E9 hx9 => hX σ9 E9 _ _ _ (tb_out K.2.2.2.2.2 rfl) hx9.1 hx9.2.1 hx9.2.2)
  obtain ⟨rfl, h, hGσ243, hS⟩ := hq
  intro H locs ls hH hl hc
  refine W.eq (g2 := F0 m 324 ls []) (rfl) ?_
  try dsimp only at h
  refine lv_goto (tgt := 508) B.1 B.2.1 dX16_operator_324 (by decide) ?_
  exact a_X16_operator_508 K hQ hX _ h hGσ243 hS _ _ _ hH (lv_sub (l' := [(0, .ref rm)]) hl [0] rfl) hc
set_option maxRecDepth 20000 in
theorem a_X16_operator_294 {Q : Sg → Unit → Prop} {X : Sg → String → Prop} (K : MC R p s m args c cX16_operator 2 RX16 D cA tys A n0 s0 143 10070 []) (hQ : HQV p l e R s m args below meth c cX16_operator D cA A n0 s0 QM dm ra jx rm Q) (hX : HX p l e R s m args below meth c 2 D cA A n0 s0 QM dm ra jx rm X) : ∀ (σ : Sg) (v1 : Int) (g1 : rng v1), w_X16_operator_294 ra jx rm Q X σ v1 → RG σ → Shp dm ra jx rm σ → JJ p l e R s m args below meth c 2 D cA A n0 s0 QM σ 294 [(0, .ref rm), (1, .int (i32 v1))] [] := by
  intro σ v1 g1 h hGσ hS H locs ls hH hl hc
  have B := K.1
  unfold w_X16_operator_294 at h
  refine lv_aload_n B.1 B.2.1 dX16_operator_294 rfl (lv_at hl 0 rfl) ?_
  refine xs_ldcw B.1 B.2.1 B.2.2.1 (B.2.2.2.2.2.2.2.2.2.2.1 _ (List.mem_of_getElem? (l := stL) (i := 22) rfl)).1 dX16_operator_295 ?_
  refine c_V B hH hl hc K.2.2.1 (C := RX16) (T := TX16) (N := 123) (ci := 16) (As := [.ref (cA (1000 + 304))]) (ok_X16_isWord K.2.1 σ 304 st_304 hGσ hS h) wc_X16_103 1 hd_X16_isWord ⟨Nat.le_trans (Nat.le_of_ble_eq_true rfl) K.2.2.2.1, Nat.le_trans (Nat.le_of_ble_eq_true rfl) K.2.2.2.2.1⟩ hS.1.1 hS.1.2 (by decide) rfl rfl (rest := []) rfl (Nat.le_of_ble_eq_true rfl) dX16_operator_298 (fun σ244 w hq => ?_) (fun σ9 E9 hx9 => hX σ9 E9 _ _ _ (tb_out K.2.2.2.2.2 rfl) hx9.1 hx9.2.1 hx9.2.2)
  obtain ⟨r245, rfl, ⟨gr245, gzr245⟩, h, hGσ244, hS⟩ := hq
  intro H locs ls hH hl hc
  refine W.eq (g2 := F0 m 301 ls [.int (i32 r245)]) (rfl) ?_
  try dsimp only at h
  refine lv_if_eq (tgt := 327) B.1 B.2.1 dX16_operator_301 (by decide) (fun h9 => ?_) (fun h9 => ?_)
  · rw [if_pos ((z_eq gr245).mp h9)] at h
    exact a_X16_operator_327 K hQ hX _ _ g1 h hGσ244 hS _ _ _ hH (lv_sub (l' := [(0, .ref rm), (1, .int (i32 v1))]) hl [0, 1] rfl) hc
  · rw [if_neg (fun q => h9 ((z_eq gr245).mpr q))] at h
    exact a_X16_operator_304 K hQ hX _ _ g1 h hGσ244 hS _ _ _ hH (lv_sub (l' := [(0, .ref rm), (1, .int (i32 v1))]) hl [0, 1] rfl) hc
set_option maxRecDepth 20000 in
theorem a_X16_operator_226 {Q : Sg → Unit → Prop} {X : Sg → String → Prop} (K : MC R p s m args c cX16_operator 2 RX16 D cA tys A n0 s0 143 10070 []) (hQ : HQV p l e R s m args below meth c cX16_operator D cA A n0 s0 QM dm ra jx rm Q) (hX : HX p l e R s m args below meth c 2 D cA A n0 s0 QM dm ra jx rm X) : ∀ (σ : Sg) (v1 : Int) (g1 : rng v1), w_X16_operator_226 ra jx rm Q X σ v1 → RG σ → Shp dm ra jx rm σ → JJ p l e R s m args below meth c 2 D cA A n0 s0 QM σ 226 [(0, .ref rm), (1, .int (i32 v1))] [] := by
  intro σ v1 g1 h hGσ hS H locs ls hH hl hc
  have B := K.1
  unfold w_X16_operator_226 at h
  refine lv_aload_n B.1 B.2.1 dX16_operator_226 rfl (lv_at hl 0 rfl) ?_
  refine c_V B hH hl hc K.2.2.1 (C := RX16) (T := TX16) (N := 123) (ci := 16) (As := []) (ok_X16_take K.2.1 σ hGσ hS h) wc_X16_84 0 hd_X16_take ⟨Nat.le_trans (Nat.le_of_ble_eq_true rfl) K.2.2.2.1, Nat.le_trans (Nat.le_of_ble_eq_true rfl) K.2.2.2.2.1⟩ hS.1.1 hS.1.2 (by decide) rfl rfl (rest := []) rfl (Nat.le_of_ble_eq_true rfl) dX16_operator_227 (fun σ246 w hq => ?_) (fun σ9 E9 hx9 => hX σ9 E9 _ _ _ (tb_out K.2.2.2.2.2 rfl) hx9.1 hx9.2.1 hx9.2.2)
  obtain ⟨rfl, h, hGσ246, hS⟩ := hq
  intro H locs ls hH hl hc
  refine W.eq (g2 := F0 m 230 ls []) (rfl) ?_
  try dsimp only at h
  refine lv_aload_n B.1 B.2.1 dX16_operator_230 rfl (lv_at hl 0 rfl) ?_
  refine r_getp B hH hS 18 (by decide) wf_X16_118 rfl rfl dX16_operator_231 ?_
  obtain ⟨a247, ea247, ja247, h⟩ := h
  refine W.eq (g2 := F0 m 234 ls [.ref a247]) (by rw [ea247]; rfl) ?_
  refine n_arr B hH hS ja247 2 (kd := 100) (n := 16) (by decide) (by decide) (List.mem_of_getElem? (i := 2) rfl) rfl dX16_operator_234 ?_
  refine lv_iload_n B.1 B.2.1 dX16_operator_237 rfl (lv_at hl 1 rfl) ?_
  refine lv_bipush (v := i32 6) B.1 B.2.1 dX16_operator_238 (by decide) ?_
  obtain ⟨q2, h⟩ := h
  obtain ⟨σ248, eσ248⟩ : ∃ z, z = pI σ246 (jx a247 2) v1.toNat 6 := ⟨_, rfl⟩
  have h := h σ248 eσ248
  refine x_iast B K.2.1 hH (hS.ja ja247 (k := 2) (kd := 100) (n := 16) (by decide)) (by decide) q2 dX16_operator_240 (fun H locs hH => ?_)
  have hH : Hd D cA A s (pI σ246 (jx a247 2) v1.toNat 6) H locs := hH
  rw [← eσ248] at hH
  have hGσ248 : RG σ248 := by rw [eσ248]; exact hGσ246.pI (by unfold rng; omega)
  have hS : Shp dm ra jx rm σ248 := by rw [eσ248]; exact hS
  have hc : CB n0 s0 σ248 := by rw [eσ248]; exact hc
  rw [show gc σ246 = gc σ248 by rw [eσ248], show gs σ246 = gs σ248 by rw [eσ248]]
  refine lv_aload_n B.1 B.2.1 dX16_operator_241 rfl (lv_at hl 0 rfl) ?_
  refine lv_iload_n B.1 B.2.1 dX16_operator_242 rfl (lv_at hl 1 rfl) ?_
  refine c_V B hH hl hc K.2.2.1 (C := RX16) (T := TX16) (N := 123) (ci := 16) (As := [.int (i32 v1)]) (ok_X16_pair K.2.1 σ248 v1 g1 hGσ248 hS h) wc_X16_297 1 hd_X16_pair ⟨Nat.le_trans (Nat.le_of_ble_eq_true rfl) K.2.2.2.1, Nat.le_trans (Nat.le_of_ble_eq_true rfl) K.2.2.2.2.1⟩ hS.1.1 hS.1.2 (by decide) rfl rfl (rest := []) rfl (Nat.le_of_ble_eq_true rfl) dX16_operator_243 (fun σ249 w hq => ?_) (fun σ9 E9 hx9 => hX σ9 E9 _ _ _ (tb_out K.2.2.2.2.2 rfl) hx9.1 hx9.2.1 hx9.2.2)
  obtain ⟨rfl, h, hGσ249, hS⟩ := hq
  intro H locs ls hH hl hc
  refine W.eq (g2 := F0 m 246 ls []) (rfl) ?_
  try dsimp only at h
  refine lv_aload_n B.1 B.2.1 dX16_operator_246 rfl (lv_at hl 0 rfl) ?_
  refine xs_ldcw B.1 B.2.1 B.2.2.1 (B.2.2.2.2.2.2.2.2.2.2.1 _ (List.mem_of_getElem? (l := stL) (i := 14) rfl)).1 dX16_operator_247 ?_
  refine c_V B hH hl hc K.2.2.1 (C := RX16) (T := TX16) (N := 123) (ci := 16) (As := [.ref (cA (1000 + 272))]) (ok_X16_keyword K.2.1 σ249 272 st_272 hGσ249 hS h) wc_X16_200 1 hd_X16_keyword ⟨Nat.le_trans (Nat.le_of_ble_eq_true rfl) K.2.2.2.1, Nat.le_trans (Nat.le_of_ble_eq_true rfl) K.2.2.2.2.1⟩ hS.1.1 hS.1.2 (by decide) rfl rfl (rest := []) rfl (Nat.le_of_ble_eq_true rfl) dX16_operator_250 (fun σ250 w hq => ?_) (fun σ9 E9 hx9 => hX σ9 E9 _ _ _ (tb_out K.2.2.2.2.2 rfl) hx9.1 hx9.2.1 hx9.2.2)
  obtain ⟨rfl, h, hGσ250, hS⟩ := hq
  intro H locs ls hH hl hc
  refine W.eq (g2 := F0 m 253 ls []) (rfl) ?_
  try dsimp only at h
  refine lv_aload_n B.1 B.2.1 dX16_operator_253 rfl (lv_at hl 0 rfl) ?_
  refine r_getp B hH hS 18 (by decide) wf_X16_118 rfl rfl dX16_operator_254 ?_
  obtain ⟨a251, ea251, ja251, h⟩ := h
  refine W.eq (g2 := F0 m 257 ls [.ref a251]) (by rw [ea251]; rfl) ?_
  refine n_arr B hH hS ja251 8 (kd := 101) (n := 16) (by decide) (by decide) (List.mem_of_getElem? (i := 8) rfl) rfl dX16_operator_257 ?_
  refine lv_iload_n B.1 B.2.1 dX16_operator_260 rfl (lv_at hl 1 rfl) ?_
  refine lv_aload_n B.1 B.2.1 dX16_operator_261 rfl (lv_at hl 0 rfl) ?_
  refine lv_iconst (v := i32 0) B.1 B.2.1 dX16_operator_262 (by decide) ?_
  refine lv_lconst (v := 0) B.1 B.2.1 dX16_operator_263 (by decide) ?_
  refine c_V B hH hl hc K.2.2.1 (C := RX16) (T := TX16) (N := 123) (ci := 16) (As := [.int (i32 0), .long 0]) (ok_X16_signed K.2.1 σ250 0 0 (by unfold rng; omega) hGσ250 hS h) wc_X16_300 2 hd_X16_signed ⟨Nat.le_trans (Nat.le_of_ble_eq_true rfl) K.2.2.2.1, Nat.le_trans (Nat.le_of_ble_eq_true rfl) K.2.2.2.2.1⟩ hS.1.1 hS.1.2 (by decide) rfl rfl (rest := [.int (i32 v1), .ref (jx a251 8)]) rfl (Nat.le_of_ble_eq_true rfl) dX16_operator_264 (fun σ252 w hq => ?_) (fun σ9 E9 hx9 => hX σ9 E9 _ _ _ (tb_out K.2.2.2.2.2 rfl) hx9.1 hx9.2.1 hx9.2.2)
  obtain ⟨r253, rfl, h, hGσ252, hS⟩ := hq
  intro H locs ls hH hl hc
  refine W.eq (g2 := F0 m 267 ls [.long r253, .int (i32 v1), .ref (jx a251 8)]) (rfl) ?_
  try dsimp only at h
  obtain ⟨q5, h⟩ := h
  obtain ⟨σ254, eσ254⟩ : ∃ z, z = pJ σ252 (jx a251 8) v1.toNat r253 := ⟨_, rfl⟩
  have h := h σ254 eσ254
  refine x_last B K.2.1 hH (hS.ja ja251 (k := 8) (kd := 101) (n := 16) (by decide)) (by decide) q5 dX16_operator_267 (fun H locs hH => ?_)
  have hH : Hd D cA A s (pJ σ252 (jx a251 8) v1.toNat r253) H locs := hH
  rw [← eσ254] at hH
  have hGσ254 : RG σ254 := by rw [eσ254]; exact hGσ252.pJ
  have hS : Shp dm ra jx rm σ254 := by rw [eσ254]; exact hS
  have hc : CB n0 s0 σ254 := by rw [eσ254]; exact hc
  rw [show gc σ252 = gc σ254 by rw [eσ254], show gs σ252 = gs σ254 by rw [eσ254]]
  refine lv_aload_n B.1 B.2.1 dX16_operator_268 rfl (lv_at hl 0 rfl) ?_
  refine r_getp B hH hS 18 (by decide) wf_X16_118 rfl rfl dX16_operator_269 ?_
  obtain ⟨a255, ea255, ja255, h⟩ := h
  refine W.eq (g2 := F0 m 272 ls [.ref a255]) (by rw [ea255]; rfl) ?_
  refine n_arr B hH hS ja255 9 (kd := 101) (n := 16) (by decide) (by decide) (List.mem_of_getElem? (i := 9) rfl) rfl dX16_operator_272 ?_
  refine lv_iload_n B.1 B.2.1 dX16_operator_275 rfl (lv_at hl 1 rfl) ?_
  refine lv_aload_n B.1 B.2.1 dX16_operator_276 rfl (lv_at hl 0 rfl) ?_
  refine lv_iconst (v := i32 1) B.1 B.2.1 dX16_operator_277 (by decide) ?_
  refine lv_aload_n B.1 B.2.1 dX16_operator_278 rfl (lv_at hl 0 rfl) ?_
  refine r_getp B hH hS 18 (by decide) wf_X16_118 rfl rfl dX16_operator_279 ?_
  obtain ⟨a256, ea256, ja256, h⟩ := h
  refine W.eq (g2 := F0 m 282 ls [.ref a256, .int (i32 1), .ref rm, .int (i32 v1), .ref (jx a255 9)]) (by rw [ea256]; rfl) ?_
  refine n_arr B hH hS ja256 8 (kd := 101) (n := 16) (by decide) (by decide) (List.mem_of_getElem? (i := 8) rfl) rfl dX16_operator_282 ?_
  refine lv_iload_n B.1 B.2.1 dX16_operator_285 rfl (lv_at hl 1 rfl) ?_
  obtain ⟨q9, h⟩ := h
  refine x_lald B K.2.1 hH (hS.ja ja256 (k := 8) (kd := 101) (n := 16) (by decide)) (by decide) q9 dX16_operator_286 ?_
  refine c_V B hH hl hc K.2.2.1 (C := RX16) (T := TX16) (N := 123) (ci := 16) (As := [.int (i32 1), .long (gJ σ254 (jx a256 8) v1.toNat)]) (ok_X16_signed K.2.1 σ254 1 (gJ σ254 (jx a256 8) v1.toNat) (by unfold rng; omega) hGσ254 hS h) wc_X16_300 2 hd_X16_signed ⟨Nat.le_trans (Nat.le_of_ble_eq_true rfl) K.2.2.2.1, Nat.le_trans (Nat.le_of_ble_eq_true rfl) K.2.2.2.2.1⟩ hS.1.1 hS.1.2 (by decide) rfl rfl (rest := [.int (i32 v1), .ref (jx a255 9)]) rfl (Nat.le_of_ble_eq_true rfl) dX16_operator_287 (fun σ257 w hq => ?_) (fun σ9 E9 hx9 => hX σ9 E9 _ _ _ (tb_out K.2.2.2.2.2 rfl) hx9.1 hx9.2.1 hx9.2.2)
  obtain ⟨r258, rfl, h, hGσ257, hS⟩ := hq
  intro H locs ls hH hl hc
  refine W.eq (g2 := F0 m 290 ls [.long r258, .int (i32 v1), .ref (jx a255 9)]) (rfl) ?_
  try dsimp only at h
  obtain ⟨q10, h⟩ := h
  obtain ⟨σ259, eσ259⟩ : ∃ z, z = pJ σ257 (jx a255 9) v1.toNat r258 := ⟨_, rfl⟩
  have h := h σ259 eσ259
  refine x_last B K.2.1 hH (hS.ja ja255 (k := 9) (kd := 101) (n := 16) (by decide)) (by decide) q10 dX16_operator_290 (fun H locs hH => ?_)
  have hH : Hd D cA A s (pJ σ257 (jx a255 9) v1.toNat r258) H locs := hH
  rw [← eσ259] at hH
  have hGσ259 : RG σ259 := by rw [eσ259]; exact hGσ257.pJ
  have hS : Shp dm ra jx rm σ259 := by rw [eσ259]; exact hS
  have hc : CB n0 s0 σ259 := by rw [eσ259]; exact hc
  rw [show gc σ257 = gc σ259 by rw [eσ259], show gs σ257 = gs σ259 by rw [eσ259]]
  refine lv_goto (tgt := 508) B.1 B.2.1 dX16_operator_291 (by decide) ?_
  exact a_X16_operator_508 K hQ hX _ h hGσ259 hS _ _ _ hH (lv_sub (l' := [(0, .ref rm)]) hl [0] rfl) hc
set_option maxRecDepth 20000 in
theorem a_X16_operator_216 {Q : Sg → Unit → Prop} {X : Sg → String → Prop} (K : MC R p s m args c cX16_operator 2 RX16 D cA tys A n0 s0 143 10070 []) (hQ : HQV p l e R s m args below meth c cX16_operator D cA A n0 s0 QM dm ra jx rm Q) (hX : HX p l e R s m args below meth c 2 D cA A n0 s0 QM dm ra jx rm X) : ∀ (σ : Sg) (v1 : Int) (g1 : rng v1), w_X16_operator_216 ra jx rm Q X σ v1 → RG σ → Shp dm ra jx rm σ → JJ p l e R s m args below meth c 2 D cA A n0 s0 QM σ 216 [(0, .ref rm), (1, .int (i32 v1))] [] := by
  intro σ v1 g1 h hGσ hS H locs ls hH hl hc
  have B := K.1
  unfold w_X16_operator_216 at h
  refine lv_aload_n B.1 B.2.1 dX16_operator_216 rfl (lv_at hl 0 rfl) ?_
  refine xs_ldcw B.1 B.2.1 B.2.2.1 (B.2.2.2.2.2.2.2.2.2.2.1 _ (List.mem_of_getElem? (l := stL) (i := 21) rfl)).1 dX16_operator_217 ?_
  refine c_V B hH hl hc K.2.2.1 (C := RX16) (T := TX16) (N := 123) (ci := 16) (As := [.ref (cA (1000 + 295))]) (ok_X16_isWord K.2.1 σ 295 st_295 hGσ hS h) wc_X16_103 1 hd_X16_isWord ⟨Nat.le_trans (Nat.le_of_ble_eq_true rfl) K.2.2.2.1, Nat.le_trans (Nat.le_of_ble_eq_true rfl) K.2.2.2.2.1⟩ hS.1.1 hS.1.2 (by decide) rfl rfl (rest := []) rfl (Nat.le_of_ble_eq_true rfl) dX16_operator_220 (fun σ260 w hq => ?_) (fun σ9 E9 hx9 => hX σ9 E9 _ _ _ (tb_out K.2.2.2.2.2 rfl) hx9.1 hx9.2.1 hx9.2.2)
  obtain ⟨r261, rfl, ⟨gr261, gzr261⟩, h, hGσ260, hS⟩ := hq
  intro H locs ls hH hl hc
  refine W.eq (g2 := F0 m 223 ls [.int (i32 r261)]) (rfl) ?_
  try dsimp only at h
  refine lv_if_eq (tgt := 294) B.1 B.2.1 dX16_operator_223 (by decide) (fun h9 => ?_) (fun h9 => ?_)
  · rw [if_pos ((z_eq gr261).mp h9)] at h
    exact a_X16_operator_294 K hQ hX _ _ g1 h hGσ260 hS _ _ _ hH (lv_sub (l' := [(0, .ref rm), (1, .int (i32 v1))]) hl [0, 1] rfl) hc
  · rw [if_neg (fun q => h9 ((z_eq gr261).mpr q))] at h
    exact a_X16_operator_226 K hQ hX _ _ g1 h hGσ260 hS _ _ _ hH (lv_sub (l' := [(0, .ref rm), (1, .int (i32 v1))]) hl [0, 1] rfl) hc
set_option maxRecDepth 20000 in
theorem a_X16_operator_204 {Q : Sg → Unit → Prop} {X : Sg → String → Prop} (K : MC R p s m args c cX16_operator 2 RX16 D cA tys A n0 s0 143 10070 []) (hQ : HQV p l e R s m args below meth c cX16_operator D cA A n0 s0 QM dm ra jx rm Q) (hX : HX p l e R s m args below meth c 2 D cA A n0 s0 QM dm ra jx rm X) : ∀ (σ : Sg) (v1 : Int) (g1 : rng v1), w_X16_operator_204 ra jx rm Q X σ v1 → RG σ → Shp dm ra jx rm σ → JJ p l e R s m args below meth c 2 D cA A n0 s0 QM σ 204 [(0, .ref rm), (1, .int (i32 v1))] [] := by
  intro σ v1 g1 h hGσ hS H locs ls hH hl hc
  have B := K.1
  unfold w_X16_operator_204 at h
  refine lv_aload_n B.1 B.2.1 dX16_operator_204 rfl (lv_at hl 0 rfl) ?_
  refine c_V B hH hl hc K.2.2.1 (C := RX16) (T := TX16) (N := 123) (ci := 16) (As := []) (ok_X16_take K.2.1 σ hGσ hS h) wc_X16_84 0 hd_X16_take ⟨Nat.le_trans (Nat.le_of_ble_eq_true rfl) K.2.2.2.1, Nat.le_trans (Nat.le_of_ble_eq_true rfl) K.2.2.2.2.1⟩ hS.1.1 hS.1.2 (by decide) rfl rfl (rest := []) rfl (Nat.le_of_ble_eq_true rfl) dX16_operator_205 (fun σ262 w hq => ?_) (fun σ9 E9 hx9 => hX σ9 E9 _ _ _ (tb_out K.2.2.2.2.2 rfl) hx9.1 hx9.2.1 hx9.2.2)
  obtain ⟨rfl, h, hGσ262, hS⟩ := hq
  intro H locs ls hH hl hc
  refine W.eq (g2 := F0 m 208 ls []) (rfl) ?_
  try dsimp only at h
  refine lv_aload_n B.1 B.2.1 dX16_operator_208 rfl (lv_at hl 0 rfl) ?_
  refine lv_iload_n B.1 B.2.1 dX16_operator_209 rfl (lv_at hl 1 rfl) ?_
  refine c_V B hH hl hc K.2.2.1 (C := RX16) (T := TX16) (N := 123) (ci := 16) (As := [.int (i32 v1)]) (ok_X16_fold K.2.1 σ262 v1 g1 hGσ262 hS h) wc_X16_293 1 hd_X16_fold ⟨Nat.le_trans (Nat.le_of_ble_eq_true rfl) K.2.2.2.1, Nat.le_trans (Nat.le_of_ble_eq_true rfl) K.2.2.2.2.1⟩ hS.1.1 hS.1.2 (by decide) rfl rfl (rest := []) rfl (Nat.le_of_ble_eq_true rfl) dX16_operator_210 (fun σ263 w hq => ?_) (fun σ9 E9 hx9 => hX σ9 E9 _ _ _ (tb_out K.2.2.2.2.2 rfl) hx9.1 hx9.2.1 hx9.2.2)
  obtain ⟨rfl, h, hGσ263, hS⟩ := hq
  intro H locs ls hH hl hc
  refine W.eq (g2 := F0 m 213 ls []) (rfl) ?_
  try dsimp only at h
  refine lv_goto (tgt := 508) B.1 B.2.1 dX16_operator_213 (by decide) ?_
  exact a_X16_operator_508 K hQ hX _ h hGσ263 hS _ _ _ hH (lv_sub (l' := [(0, .ref rm)]) hl [0] rfl) hc
set_option maxRecDepth 20000 in
theorem a_X16_operator_194 {Q : Sg → Unit → Prop} {X : Sg → String → Prop} (K : MC R p s m args c cX16_operator 2 RX16 D cA tys A n0 s0 143 10070 []) (hQ : HQV p l e R s m args below meth c cX16_operator D cA A n0 s0 QM dm ra jx rm Q) (hX : HX p l e R s m args below meth c 2 D cA A n0 s0 QM dm ra jx rm X) : ∀ (σ : Sg) (v1 : Int) (g1 : rng v1), w_X16_operator_194 ra jx rm Q X σ v1 → RG σ → Shp dm ra jx rm σ → JJ p l e R s m args below meth c 2 D cA A n0 s0 QM σ 194 [(0, .ref rm), (1, .int (i32 v1))] [] := by
  intro σ v1 g1 h hGσ hS H locs ls hH hl hc
  have B := K.1
  unfold w_X16_operator_194 at h
  refine lv_aload_n B.1 B.2.1 dX16_operator_194 rfl (lv_at hl 0 rfl) ?_
  refine xs_ldcw B.1 B.2.1 B.2.2.1 (B.2.2.2.2.2.2.2.2.2.2.1 _ (List.mem_of_getElem? (l := stL) (i := 20) rfl)).1 dX16_operator_195 ?_
  refine c_V B hH hl hc K.2.2.1 (C := RX16) (T := TX16) (N := 123) (ci := 16) (As := [.ref (cA (1000 + 291))]) (ok_X16_isWord K.2.1 σ 291 st_291 hGσ hS h) wc_X16_103 1 hd_X16_isWord ⟨Nat.le_trans (Nat.le_of_ble_eq_true rfl) K.2.2.2.1, Nat.le_trans (Nat.le_of_ble_eq_true rfl) K.2.2.2.2.1⟩ hS.1.1 hS.1.2 (by decide) rfl rfl (rest := []) rfl (Nat.le_of_ble_eq_true rfl) dX16_operator_198 (fun σ264 w hq => ?_) (fun σ9 E9 hx9 => hX σ9 E9 _ _ _ (tb_out K.2.2.2.2.2 rfl) hx9.1 hx9.2.1 hx9.2.2)
  obtain ⟨r265, rfl, ⟨gr265, gzr265⟩, h, hGσ264, hS⟩ := hq
  intro H locs ls hH hl hc
  refine W.eq (g2 := F0 m 201 ls [.int (i32 r265)]) (rfl) ?_
  try dsimp only at h
  refine lv_if_eq (tgt := 216) B.1 B.2.1 dX16_operator_201 (by decide) (fun h9 => ?_) (fun h9 => ?_)
  · rw [if_pos ((z_eq gr265).mp h9)] at h
    exact a_X16_operator_216 K hQ hX _ _ g1 h hGσ264 hS _ _ _ hH (lv_sub (l' := [(0, .ref rm), (1, .int (i32 v1))]) hl [0, 1] rfl) hc
  · rw [if_neg (fun q => h9 ((z_eq gr265).mpr q))] at h
    exact a_X16_operator_204 K hQ hX _ _ g1 h hGσ264 hS _ _ _ hH (lv_sub (l' := [(0, .ref rm), (1, .int (i32 v1))]) hl [0, 1] rfl) hc
set_option maxRecDepth 20000 in
theorem a_X16_operator_172 {Q : Sg → Unit → Prop} {X : Sg → String → Prop} (K : MC R p s m args c cX16_operator 2 RX16 D cA tys A n0 s0 143 10070 []) (hQ : HQV p l e R s m args below meth c cX16_operator D cA A n0 s0 QM dm ra jx rm Q) (hX : HX p l e R s m args below meth c 2 D cA A n0 s0 QM dm ra jx rm X) : ∀ (σ : Sg) (v1 : Int) (g1 : rng v1), w_X16_operator_172 ra jx rm Q X σ v1 → RG σ → Shp dm ra jx rm σ → JJ p l e R s m args below meth c 2 D cA A n0 s0 QM σ 172 [(0, .ref rm), (1, .int (i32 v1))] [] := by
  intro σ v1 g1 h hGσ hS H locs ls hH hl hc
  have B := K.1
  unfold w_X16_operator_172 at h
  refine lv_aload_n B.1 B.2.1 dX16_operator_172 rfl (lv_at hl 0 rfl) ?_
  refine c_V B hH hl hc K.2.2.1 (C := RX16) (T := TX16) (N := 123) (ci := 16) (As := []) (ok_X16_take K.2.1 σ hGσ hS h) wc_X16_84 0 hd_X16_take ⟨Nat.le_trans (Nat.le_of_ble_eq_true rfl) K.2.2.2.1, Nat.le_trans (Nat.le_of_ble_eq_true rfl) K.2.2.2.2.1⟩ hS.1.1 hS.1.2 (by decide) rfl rfl (rest := []) rfl (Nat.le_of_ble_eq_true rfl) dX16_operator_173 (fun σ266 w hq => ?_) (fun σ9 E9 hx9 => hX σ9 E9 _ _ _ (tb_out K.2.2.2.2.2 rfl) hx9.1 hx9.2.1 hx9.2.2)
  obtain ⟨rfl, h, hGσ266, hS⟩ := hq
  intro H locs ls hH hl hc
  refine W.eq (g2 := F0 m 176 ls []) (rfl) ?_
  try dsimp only at h
  refine lv_aload_n B.1 B.2.1 dX16_operator_176 rfl (lv_at hl 0 rfl) ?_
  refine r_getp B hH hS 18 (by decide) wf_X16_118 rfl rfl dX16_operator_177 ?_
  obtain ⟨a267, ea267, ja267, h⟩ := h
  refine W.eq (g2 := F0 m 180 ls [.ref a267]) (by rw [ea267]; rfl) ?_
  refine n_arr B hH hS ja267 2 (kd := 100) (n := 16) (by decide) (by decide) (List.mem_of_getElem? (i := 2) rfl) rfl dX16_operator_180 ?_
  refine lv_iload_n B.1 B.2.1 dX16_operator_183 rfl (lv_at hl 1 rfl) ?_
  refine lv_iconst (v := i32 3) B.1 B.2.1 dX16_operator_184 (by decide) ?_
  obtain ⟨q2, h⟩ := h
  obtain ⟨σ268, eσ268⟩ : ∃ z, z = pI σ266 (jx a267 2) v1.toNat 3 := ⟨_, rfl⟩
  have h := h σ268 eσ268
  refine x_iast B K.2.1 hH (hS.ja ja267 (k := 2) (kd := 100) (n := 16) (by decide)) (by decide) q2 dX16_operator_185 (fun H locs hH => ?_)
  have hH : Hd D cA A s (pI σ266 (jx a267 2) v1.toNat 3) H locs := hH
  rw [← eσ268] at hH
  have hGσ268 : RG σ268 := by rw [eσ268]; exact hGσ266.pI (by unfold rng; omega)
  have hS : Shp dm ra jx rm σ268 := by rw [eσ268]; exact hS
  have hc : CB n0 s0 σ268 := by rw [eσ268]; exact hc
  rw [show gc σ266 = gc σ268 by rw [eσ268], show gs σ266 = gs σ268 by rw [eσ268]]
  refine lv_aload_n B.1 B.2.1 dX16_operator_186 rfl (lv_at hl 0 rfl) ?_
  refine lv_iload_n B.1 B.2.1 dX16_operator_187 rfl (lv_at hl 1 rfl) ?_
  refine c_V B hH hl hc K.2.2.1 (C := RX16) (T := TX16) (N := 123) (ci := 16) (As := [.int (i32 v1)]) (ok_X16_union K.2.1 σ268 v1 g1 hGσ268 hS h) wc_X16_289 1 hd_X16_union ⟨Nat.le_trans (Nat.le_of_ble_eq_true rfl) K.2.2.2.1, Nat.le_trans (Nat.le_of_ble_eq_true rfl) K.2.2.2.2.1⟩ hS.1.1 hS.1.2 (by decide) rfl rfl (rest := []) rfl (Nat.le_of_ble_eq_true rfl) dX16_operator_188 (fun σ269 w hq => ?_) (fun σ9 E9 hx9 => hX σ9 E9 _ _ _ (tb_out K.2.2.2.2.2 rfl) hx9.1 hx9.2.1 hx9.2.2)
  obtain ⟨rfl, h, hGσ269, hS⟩ := hq
  intro H locs ls hH hl hc
  refine W.eq (g2 := F0 m 191 ls []) (rfl) ?_
  try dsimp only at h
  refine lv_goto (tgt := 508) B.1 B.2.1 dX16_operator_191 (by decide) ?_
  exact a_X16_operator_508 K hQ hX _ h hGσ269 hS _ _ _ hH (lv_sub (l' := [(0, .ref rm)]) hl [0] rfl) hc
set_option maxRecDepth 20000 in
theorem a_X16_operator_162 {Q : Sg → Unit → Prop} {X : Sg → String → Prop} (K : MC R p s m args c cX16_operator 2 RX16 D cA tys A n0 s0 143 10070 []) (hQ : HQV p l e R s m args below meth c cX16_operator D cA A n0 s0 QM dm ra jx rm Q) (hX : HX p l e R s m args below meth c 2 D cA A n0 s0 QM dm ra jx rm X) : ∀ (σ : Sg) (v1 : Int) (g1 : rng v1), w_X16_operator_162 ra jx rm Q X σ v1 → RG σ → Shp dm ra jx rm σ → JJ p l e R s m args below meth c 2 D cA A n0 s0 QM σ 162 [(0, .ref rm), (1, .int (i32 v1))] [] := by
  intro σ v1 g1 h hGσ hS H locs ls hH hl hc
  have B := K.1
  unfold w_X16_operator_162 at h
  refine lv_aload_n B.1 B.2.1 dX16_operator_162 rfl (lv_at hl 0 rfl) ?_
  refine xs_ldcw B.1 B.2.1 B.2.2.1 (B.2.2.2.2.2.2.2.2.2.2.1 _ (List.mem_of_getElem? (l := stL) (i := 19) rfl)).1 dX16_operator_163 ?_
  refine c_V B hH hl hc K.2.2.1 (C := RX16) (T := TX16) (N := 123) (ci := 16) (As := [.ref (cA (1000 + 287))]) (ok_X16_isWord K.2.1 σ 287 st_287 hGσ hS h) wc_X16_103 1 hd_X16_isWord ⟨Nat.le_trans (Nat.le_of_ble_eq_true rfl) K.2.2.2.1, Nat.le_trans (Nat.le_of_ble_eq_true rfl) K.2.2.2.2.1⟩ hS.1.1 hS.1.2 (by decide) rfl rfl (rest := []) rfl (Nat.le_of_ble_eq_true rfl) dX16_operator_166 (fun σ270 w hq => ?_) (fun σ9 E9 hx9 => hX σ9 E9 _ _ _ (tb_out K.2.2.2.2.2 rfl) hx9.1 hx9.2.1 hx9.2.2)
  obtain ⟨r271, rfl, ⟨gr271, gzr271⟩, h, hGσ270, hS⟩ := hq
  intro H locs ls hH hl hc
  refine W.eq (g2 := F0 m 169 ls [.int (i32 r271)]) (rfl) ?_
  try dsimp only at h
  refine lv_if_eq (tgt := 194) B.1 B.2.1 dX16_operator_169 (by decide) (fun h9 => ?_) (fun h9 => ?_)
  · rw [if_pos ((z_eq gr271).mp h9)] at h
    exact a_X16_operator_194 K hQ hX _ _ g1 h hGσ270 hS _ _ _ hH (lv_sub (l' := [(0, .ref rm), (1, .int (i32 v1))]) hl [0, 1] rfl) hc
  · rw [if_neg (fun q => h9 ((z_eq gr271).mpr q))] at h
    exact a_X16_operator_172 K hQ hX _ _ g1 h hGσ270 hS _ _ _ hH (lv_sub (l' := [(0, .ref rm), (1, .int (i32 v1))]) hl [0, 1] rfl) hc
set_option maxRecDepth 20000 in
theorem a_X16_operator_140 {Q : Sg → Unit → Prop} {X : Sg → String → Prop} (K : MC R p s m args c cX16_operator 2 RX16 D cA tys A n0 s0 143 10070 []) (hQ : HQV p l e R s m args below meth c cX16_operator D cA A n0 s0 QM dm ra jx rm Q) (hX : HX p l e R s m args below meth c 2 D cA A n0 s0 QM dm ra jx rm X) : ∀ (σ : Sg) (v1 : Int) (g1 : rng v1), w_X16_operator_140 ra jx rm Q X σ v1 → RG σ → Shp dm ra jx rm σ → JJ p l e R s m args below meth c 2 D cA A n0 s0 QM σ 140 [(0, .ref rm), (1, .int (i32 v1))] [] := by
  intro σ v1 g1 h hGσ hS H locs ls hH hl hc
  have B := K.1
  unfold w_X16_operator_140 at h
  refine lv_aload_n B.1 B.2.1 dX16_operator_140 rfl (lv_at hl 0 rfl) ?_
  refine c_V B hH hl hc K.2.2.1 (C := RX16) (T := TX16) (N := 123) (ci := 16) (As := []) (ok_X16_take K.2.1 σ hGσ hS h) wc_X16_84 0 hd_X16_take ⟨Nat.le_trans (Nat.le_of_ble_eq_true rfl) K.2.2.2.1, Nat.le_trans (Nat.le_of_ble_eq_true rfl) K.2.2.2.2.1⟩ hS.1.1 hS.1.2 (by decide) rfl rfl (rest := []) rfl (Nat.le_of_ble_eq_true rfl) dX16_operator_141 (fun σ272 w hq => ?_) (fun σ9 E9 hx9 => hX σ9 E9 _ _ _ (tb_out K.2.2.2.2.2 rfl) hx9.1 hx9.2.1 hx9.2.2)
  obtain ⟨rfl, h, hGσ272, hS⟩ := hq
  intro H locs ls hH hl hc
  refine W.eq (g2 := F0 m 144 ls []) (rfl) ?_
  try dsimp only at h
  refine lv_aload_n B.1 B.2.1 dX16_operator_144 rfl (lv_at hl 0 rfl) ?_
  refine r_getp B hH hS 18 (by decide) wf_X16_118 rfl rfl dX16_operator_145 ?_
  obtain ⟨a273, ea273, ja273, h⟩ := h
  refine W.eq (g2 := F0 m 148 ls [.ref a273]) (by rw [ea273]; rfl) ?_
  refine n_arr B hH hS ja273 2 (kd := 100) (n := 16) (by decide) (by decide) (List.mem_of_getElem? (i := 2) rfl) rfl dX16_operator_148 ?_
  refine lv_iload_n B.1 B.2.1 dX16_operator_151 rfl (lv_at hl 1 rfl) ?_
  refine lv_iconst (v := i32 2) B.1 B.2.1 dX16_operator_152 (by decide) ?_
  obtain ⟨q2, h⟩ := h
  obtain ⟨σ274, eσ274⟩ : ∃ z, z = pI σ272 (jx a273 2) v1.toNat 2 := ⟨_, rfl⟩
  have h := h σ274 eσ274
  refine x_iast B K.2.1 hH (hS.ja ja273 (k := 2) (kd := 100) (n := 16) (by decide)) (by decide) q2 dX16_operator_153 (fun H locs hH => ?_)
  have hH : Hd D cA A s (pI σ272 (jx a273 2) v1.toNat 2) H locs := hH
  rw [← eσ274] at hH
  have hGσ274 : RG σ274 := by rw [eσ274]; exact hGσ272.pI (by unfold rng; omega)
  have hS : Shp dm ra jx rm σ274 := by rw [eσ274]; exact hS
  have hc : CB n0 s0 σ274 := by rw [eσ274]; exact hc
  rw [show gc σ272 = gc σ274 by rw [eσ274], show gs σ272 = gs σ274 by rw [eσ274]]
  refine lv_aload_n B.1 B.2.1 dX16_operator_154 rfl (lv_at hl 0 rfl) ?_
  refine lv_iload_n B.1 B.2.1 dX16_operator_155 rfl (lv_at hl 1 rfl) ?_
  refine c_V B hH hl hc K.2.2.1 (C := RX16) (T := TX16) (N := 123) (ci := 16) (As := [.int (i32 v1)]) (ok_X16_map K.2.1 σ274 v1 g1 hGσ274 hS h) wc_X16_285 1 hd_X16_map ⟨Nat.le_trans (Nat.le_of_ble_eq_true rfl) K.2.2.2.1, Nat.le_trans (Nat.le_of_ble_eq_true rfl) K.2.2.2.2.1⟩ hS.1.1 hS.1.2 (by decide) rfl rfl (rest := []) rfl (Nat.le_of_ble_eq_true rfl) dX16_operator_156 (fun σ275 w hq => ?_) (fun σ9 E9 hx9 => hX σ9 E9 _ _ _ (tb_out K.2.2.2.2.2 rfl) hx9.1 hx9.2.1 hx9.2.2)
  obtain ⟨rfl, h, hGσ275, hS⟩ := hq
  intro H locs ls hH hl hc
  refine W.eq (g2 := F0 m 159 ls []) (rfl) ?_
  try dsimp only at h
  refine lv_goto (tgt := 508) B.1 B.2.1 dX16_operator_159 (by decide) ?_
  exact a_X16_operator_508 K hQ hX _ h hGσ275 hS _ _ _ hH (lv_sub (l' := [(0, .ref rm)]) hl [0] rfl) hc
set_option maxRecDepth 20000 in
theorem a_X16_operator_130 {Q : Sg → Unit → Prop} {X : Sg → String → Prop} (K : MC R p s m args c cX16_operator 2 RX16 D cA tys A n0 s0 143 10070 []) (hQ : HQV p l e R s m args below meth c cX16_operator D cA A n0 s0 QM dm ra jx rm Q) (hX : HX p l e R s m args below meth c 2 D cA A n0 s0 QM dm ra jx rm X) : ∀ (σ : Sg) (v1 : Int) (g1 : rng v1), w_X16_operator_130 ra jx rm Q X σ v1 → RG σ → Shp dm ra jx rm σ → JJ p l e R s m args below meth c 2 D cA A n0 s0 QM σ 130 [(0, .ref rm), (1, .int (i32 v1))] [] := by
  intro σ v1 g1 h hGσ hS H locs ls hH hl hc
  have B := K.1
  unfold w_X16_operator_130 at h
  refine lv_aload_n B.1 B.2.1 dX16_operator_130 rfl (lv_at hl 0 rfl) ?_
  refine xs_ldcw B.1 B.2.1 B.2.2.1 (B.2.2.2.2.2.2.2.2.2.2.1 _ (List.mem_of_getElem? (l := stL) (i := 18) rfl)).1 dX16_operator_131 ?_
  refine c_V B hH hl hc K.2.2.1 (C := RX16) (T := TX16) (N := 123) (ci := 16) (As := [.ref (cA (1000 + 283))]) (ok_X16_isWord K.2.1 σ 283 st_283 hGσ hS h) wc_X16_103 1 hd_X16_isWord ⟨Nat.le_trans (Nat.le_of_ble_eq_true rfl) K.2.2.2.1, Nat.le_trans (Nat.le_of_ble_eq_true rfl) K.2.2.2.2.1⟩ hS.1.1 hS.1.2 (by decide) rfl rfl (rest := []) rfl (Nat.le_of_ble_eq_true rfl) dX16_operator_134 (fun σ276 w hq => ?_) (fun σ9 E9 hx9 => hX σ9 E9 _ _ _ (tb_out K.2.2.2.2.2 rfl) hx9.1 hx9.2.1 hx9.2.2)
  obtain ⟨r277, rfl, ⟨gr277, gzr277⟩, h, hGσ276, hS⟩ := hq
  intro H locs ls hH hl hc
  refine W.eq (g2 := F0 m 137 ls [.int (i32 r277)]) (rfl) ?_
  try dsimp only at h
  refine lv_if_eq (tgt := 162) B.1 B.2.1 dX16_operator_137 (by decide) (fun h9 => ?_) (fun h9 => ?_)
  · rw [if_pos ((z_eq gr277).mp h9)] at h
    exact a_X16_operator_162 K hQ hX _ _ g1 h hGσ276 hS _ _ _ hH (lv_sub (l' := [(0, .ref rm), (1, .int (i32 v1))]) hl [0, 1] rfl) hc
  · rw [if_neg (fun q => h9 ((z_eq gr277).mpr q))] at h
    exact a_X16_operator_140 K hQ hX _ _ g1 h hGσ276 hS _ _ _ hH (lv_sub (l' := [(0, .ref rm), (1, .int (i32 v1))]) hl [0, 1] rfl) hc
set_option maxRecDepth 20000 in
theorem a_X16_operator_42 {Q : Sg → Unit → Prop} {X : Sg → String → Prop} (K : MC R p s m args c cX16_operator 2 RX16 D cA tys A n0 s0 143 10070 []) (hQ : HQV p l e R s m args below meth c cX16_operator D cA A n0 s0 QM dm ra jx rm Q) (hX : HX p l e R s m args below meth c 2 D cA A n0 s0 QM dm ra jx rm X) : ∀ (σ : Sg) (v1 : Int) (g1 : rng v1), w_X16_operator_42 ra jx rm Q X σ v1 → RG σ → Shp dm ra jx rm σ → JJ p l e R s m args below meth c 2 D cA A n0 s0 QM σ 42 [(0, .ref rm), (1, .int (i32 v1))] [] := by
  intro σ v1 g1 h hGσ hS H locs ls hH hl hc
  have B := K.1
  unfold w_X16_operator_42 at h
  refine lv_aload_n B.1 B.2.1 dX16_operator_42 rfl (lv_at hl 0 rfl) ?_
  refine c_V B hH hl hc K.2.2.1 (C := RX16) (T := TX16) (N := 123) (ci := 16) (As := []) (ok_X16_take K.2.1 σ hGσ hS h) wc_X16_84 0 hd_X16_take ⟨Nat.le_trans (Nat.le_of_ble_eq_true rfl) K.2.2.2.1, Nat.le_trans (Nat.le_of_ble_eq_true rfl) K.2.2.2.2.1⟩ hS.1.1 hS.1.2 (by decide) rfl rfl (rest := []) rfl (Nat.le_of_ble_eq_true rfl) dX16_operator_43 (fun σ278 w hq => ?_) (fun σ9 E9 hx9 => hX σ9 E9 _ _ _ (tb_out K.2.2.2.2.2 rfl) hx9.1 hx9.2.1 hx9.2.2)
  obtain ⟨rfl, h, hGσ278, hS⟩ := hq
  intro H locs ls hH hl hc
  refine W.eq (g2 := F0 m 46 ls []) (rfl) ?_
  try dsimp only at h
  refine lv_aload_n B.1 B.2.1 dX16_operator_46 rfl (lv_at hl 0 rfl) ?_
  refine r_getp B hH hS 18 (by decide) wf_X16_118 rfl rfl dX16_operator_47 ?_
  obtain ⟨a279, ea279, ja279, h⟩ := h
  refine W.eq (g2 := F0 m 50 ls [.ref a279]) (by rw [ea279]; rfl) ?_
  refine n_arr B hH hS ja279 2 (kd := 100) (n := 16) (by decide) (by decide) (List.mem_of_getElem? (i := 2) rfl) rfl dX16_operator_50 ?_
  refine lv_iload_n B.1 B.2.1 dX16_operator_53 rfl (lv_at hl 1 rfl) ?_
  refine lv_iconst (v := i32 1) B.1 B.2.1 dX16_operator_54 (by decide) ?_
  obtain ⟨q2, h⟩ := h
  obtain ⟨σ280, eσ280⟩ : ∃ z, z = pI σ278 (jx a279 2) v1.toNat 1 := ⟨_, rfl⟩
  have h := h σ280 eσ280
  refine x_iast B K.2.1 hH (hS.ja ja279 (k := 2) (kd := 100) (n := 16) (by decide)) (by decide) q2 dX16_operator_55 (fun H locs hH => ?_)
  have hH : Hd D cA A s (pI σ278 (jx a279 2) v1.toNat 1) H locs := hH
  rw [← eσ280] at hH
  have hGσ280 : RG σ280 := by rw [eσ280]; exact hGσ278.pI (by unfold rng; omega)
  have hS : Shp dm ra jx rm σ280 := by rw [eσ280]; exact hS
  have hc : CB n0 s0 σ280 := by rw [eσ280]; exact hc
  rw [show gc σ278 = gc σ280 by rw [eσ280], show gs σ278 = gs σ280 by rw [eσ280]]
  refine lv_aload_n B.1 B.2.1 dX16_operator_56 rfl (lv_at hl 0 rfl) ?_
  refine r_getp B hH hS 18 (by decide) wf_X16_118 rfl rfl dX16_operator_57 ?_
  obtain ⟨a281, ea281, ja281, h⟩ := h
  refine W.eq (g2 := F0 m 60 ls [.ref a281]) (by rw [ea281]; rfl) ?_
  refine n_arr B hH hS ja281 4 (kd := 100) (n := 16) (by decide) (by decide) (List.mem_of_getElem? (i := 4) rfl) rfl dX16_operator_60 ?_
  refine lv_iload_n B.1 B.2.1 dX16_operator_63 rfl (lv_at hl 1 rfl) ?_
  refine lv_aload_n B.1 B.2.1 dX16_operator_64 rfl (lv_at hl 0 rfl) ?_
  refine c_V B hH hl hc K.2.2.1 (C := RX16) (T := TX16) (N := 123) (ci := 16) (As := []) (ok_X16_input K.2.1 σ280 hGσ280 hS h) wc_X16_213 0 hd_X16_input ⟨Nat.le_trans (Nat.le_of_ble_eq_true rfl) K.2.2.2.1, Nat.le_trans (Nat.le_of_ble_eq_true rfl) K.2.2.2.2.1⟩ hS.1.1 hS.1.2 (by decide) rfl rfl (rest := [.int (i32 v1), .ref (jx a281 4)]) rfl (Nat.le_of_ble_eq_true rfl) dX16_operator_65 (fun σ282 w hq => ?_) (fun σ9 E9 hx9 => hX σ9 E9 _ _ _ (tb_out K.2.2.2.2.2 rfl) hx9.1 hx9.2.1 hx9.2.2)
  obtain ⟨r283, rfl, gr283, h, hGσ282, hS⟩ := hq
  intro H locs ls hH hl hc
  refine W.eq (g2 := F0 m 68 ls [.int (i32 r283), .int (i32 v1), .ref (jx a281 4)]) (rfl) ?_
  try dsimp only at h
  obtain ⟨q5, h⟩ := h
  obtain ⟨σ284, eσ284⟩ : ∃ z, z = pI σ282 (jx a281 4) v1.toNat r283 := ⟨_, rfl⟩
  have h := h σ284 eσ284
  refine x_iast B K.2.1 hH (hS.ja ja281 (k := 4) (kd := 100) (n := 16) (by decide)) (by decide) q5 dX16_operator_68 (fun H locs hH => ?_)
  have hH : Hd D cA A s (pI σ282 (jx a281 4) v1.toNat r283) H locs := hH
  rw [← eσ284] at hH
  have hGσ284 : RG σ284 := by rw [eσ284]; exact hGσ282.pI gr283
  have hS : Shp dm ra jx rm σ284 := by rw [eσ284]; exact hS
  have hc : CB n0 s0 σ284 := by rw [eσ284]; exact hc
  rw [show gc σ282 = gc σ284 by rw [eσ284], show gs σ282 = gs σ284 by rw [eσ284]]
  refine lv_aload_n B.1 B.2.1 dX16_operator_69 rfl (lv_at hl 0 rfl) ?_
  refine lv_bipush (v := i32 58) B.1 B.2.1 dX16_operator_70 (by decide) ?_
  refine c_V B hH hl hc K.2.2.1 (C := RX16) (T := TX16) (N := 123) (ci := 16) (As := [.int (i32 58)]) (ok_X16_sign K.2.1 σ284 58 (by unfold rng; omega) hGσ284 hS h) wc_X16_159 1 hd_X16_sign ⟨Nat.le_trans (Nat.le_of_ble_eq_true rfl) K.2.2.2.1, Nat.le_trans (Nat.le_of_ble_eq_true rfl) K.2.2.2.2.1⟩ hS.1.1 hS.1.2 (by decide) rfl rfl (rest := []) rfl (Nat.le_of_ble_eq_true rfl) dX16_operator_72 (fun σ285 w hq => ?_) (fun σ9 E9 hx9 => hX σ9 E9 _ _ _ (tb_out K.2.2.2.2.2 rfl) hx9.1 hx9.2.1 hx9.2.2)
  obtain ⟨rfl, h, hGσ285, hS⟩ := hq
  intro H locs ls hH hl hc
  refine W.eq (g2 := F0 m 75 ls []) (rfl) ?_
  try dsimp only at h
  refine lv_aload_n B.1 B.2.1 dX16_operator_75 rfl (lv_at hl 0 rfl) ?_
  refine r_getp B hH hS 18 (by decide) wf_X16_118 rfl rfl dX16_operator_76 ?_
  obtain ⟨a286, ea286, ja286, h⟩ := h
  refine W.eq (g2 := F0 m 79 ls [.ref a286]) (by rw [ea286]; rfl) ?_
  refine n_arr B hH hS ja286 13 (kd := 100) (n := 128) (by decide) (by decide) (List.mem_of_getElem? (i := 13) rfl) rfl dX16_operator_79 ?_
  refine lv_bipush (v := i32 8) B.1 B.2.1 dX16_operator_82 (by decide) ?_
  refine lv_iload_n B.1 B.2.1 dX16_operator_84 rfl (lv_at hl 1 rfl) ?_
  obtain ⟨q8, h⟩ := h
  refine lv_imul B.1 B.2.1 dX16_operator_85 ?_
  rw [i32_mul]
  refine lv_aload_n B.1 B.2.1 dX16_operator_86 rfl (lv_at hl 0 rfl) ?_
  refine lv_aload_n B.1 B.2.1 dX16_operator_87 rfl (lv_at hl 0 rfl) ?_
  refine r_getp B hH hS 18 (by decide) wf_X16_118 rfl rfl dX16_operator_88 ?_
  obtain ⟨a287, ea287, ja287, h⟩ := h
  refine W.eq (g2 := F0 m 91 ls [.ref a287, .ref rm, .int (i32 (8 * v1)), .ref (jx a286 13)]) (by rw [ea287]; rfl) ?_
  refine n_arr B hH hS ja287 4 (kd := 100) (n := 16) (by decide) (by decide) (List.mem_of_getElem? (i := 4) rfl) rfl dX16_operator_91 ?_
  refine lv_iload_n B.1 B.2.1 dX16_operator_94 rfl (lv_at hl 1 rfl) ?_
  obtain ⟨q10, h⟩ := h
  refine x_iald B K.2.1 hH (hS.ja ja287 (k := 4) (kd := 100) (n := 16) (by decide)) (by decide) q10 dX16_operator_95 ?_
  refine c_V B hH hl hc K.2.2.1 (C := RX16) (T := TX16) (N := 123) (ci := 16) (As := [.int (i32 (gI σ285 (jx a287 4) v1.toNat))]) (ok_X16_value K.2.1 σ285 (gI σ285 (jx a287 4) v1.toNat) (hGσ285 _ _) hGσ285 hS h) wc_X16_225 1 hd_X16_value ⟨Nat.le_trans (Nat.le_of_ble_eq_true rfl) K.2.2.2.1, Nat.le_trans (Nat.le_of_ble_eq_true rfl) K.2.2.2.2.1⟩ hS.1.1 hS.1.2 (by decide) rfl rfl (rest := [.int (i32 (8 * v1)), .ref (jx a286 13)]) rfl (Nat.le_of_ble_eq_true rfl) dX16_operator_96 (fun σ288 w hq => ?_) (fun σ9 E9 hx9 => hX σ9 E9 _ _ _ (tb_out K.2.2.2.2.2 rfl) hx9.1 hx9.2.1 hx9.2.2)
  obtain ⟨r289, rfl, gr289, h, hGσ288, hS⟩ := hq
  intro H locs ls hH hl hc
  refine W.eq (g2 := F0 m 99 ls [.int (i32 r289), .int (i32 (8 * v1)), .ref (jx a286 13)]) (rfl) ?_
  try dsimp only at h
  obtain ⟨q11, h⟩ := h
  obtain ⟨σ290, eσ290⟩ : ∃ z, z = pI σ288 (jx a286 13) (8 * v1).toNat r289 := ⟨_, rfl⟩
  have h := h σ290 eσ290
  refine x_iast B K.2.1 hH (hS.ja ja286 (k := 13) (kd := 100) (n := 128) (by decide)) (by decide) q11 dX16_operator_99 (fun H locs hH => ?_)
  have hH : Hd D cA A s (pI σ288 (jx a286 13) (8 * v1).toNat r289) H locs := hH
  rw [← eσ290] at hH
  have hGσ290 : RG σ290 := by rw [eσ290]; exact hGσ288.pI gr289
  have hS : Shp dm ra jx rm σ290 := by rw [eσ290]; exact hS
  have hc : CB n0 s0 σ290 := by rw [eσ290]; exact hc
  rw [show gc σ288 = gc σ290 by rw [eσ290], show gs σ288 = gs σ290 by rw [eσ290]]
  refine lv_aload_n B.1 B.2.1 dX16_operator_100 rfl (lv_at hl 0 rfl) ?_
  refine r_getp B hH hS 18 (by decide) wf_X16_118 rfl rfl dX16_operator_101 ?_
  obtain ⟨a291, ea291, ja291, h⟩ := h
  refine W.eq (g2 := F0 m 104 ls [.ref a291]) (by rw [ea291]; rfl) ?_
  refine n_arr B hH hS ja291 12 (kd := 100) (n := 16) (by decide) (by decide) (List.mem_of_getElem? (i := 12) rfl) rfl dX16_operator_104 ?_
  refine lv_iload_n B.1 B.2.1 dX16_operator_107 rfl (lv_at hl 1 rfl) ?_
  refine lv_iconst (v := i32 1) B.1 B.2.1 dX16_operator_108 (by decide) ?_
  obtain ⟨q14, h⟩ := h
  obtain ⟨σ292, eσ292⟩ : ∃ z, z = pI σ290 (jx a291 12) v1.toNat 1 := ⟨_, rfl⟩
  have h := h σ292 eσ292
  refine x_iast B K.2.1 hH (hS.ja ja291 (k := 12) (kd := 100) (n := 16) (by decide)) (by decide) q14 dX16_operator_109 (fun H locs hH => ?_)
  have hH : Hd D cA A s (pI σ290 (jx a291 12) v1.toNat 1) H locs := hH
  rw [← eσ292] at hH
  have hGσ292 : RG σ292 := by rw [eσ292]; exact hGσ290.pI (by unfold rng; omega)
  have hS : Shp dm ra jx rm σ292 := by rw [eσ292]; exact hS
  have hc : CB n0 s0 σ292 := by rw [eσ292]; exact hc
  rw [show gc σ290 = gc σ292 by rw [eσ292], show gs σ290 = gs σ292 by rw [eσ292]]
  refine lv_aload_n B.1 B.2.1 dX16_operator_110 rfl (lv_at hl 0 rfl) ?_
  refine r_getp B hH hS 18 (by decide) wf_X16_118 rfl rfl dX16_operator_111 ?_
  refine lv_iload_n B.1 B.2.1 dX16_operator_114 rfl (lv_at hl 1 rfl) ?_
  refine lv_aload_n B.1 B.2.1 dX16_operator_115 rfl (lv_at hl 0 rfl) ?_
  refine r_getp B hH hS 18 (by decide) wf_X16_118 rfl rfl dX16_operator_116 ?_
  obtain ⟨a293, ea293, ja293, h⟩ := h
  refine W.eq (g2 := F0 m 119 ls [.ref a293, .int (i32 v1), va_rf (gP σ292 rm 18)]) (by rw [ea293]; rfl) ?_
  refine n_arr B hH hS ja293 4 (kd := 100) (n := 16) (by decide) (by decide) (List.mem_of_getElem? (i := 4) rfl) rfl dX16_operator_119 ?_
  refine lv_iload_n B.1 B.2.1 dX16_operator_122 rfl (lv_at hl 1 rfl) ?_
  obtain ⟨q17, h⟩ := h
  refine x_iald B K.2.1 hH (hS.ja ja293 (k := 4) (kd := 100) (n := 16) (by decide)) (by decide) q17 dX16_operator_123 ?_
  obtain ⟨a294, ea294, ja294, h⟩ := h
  refine W.eq (g2 := F0 m 124 ls [.int (i32 (gI σ292 (jx a293 4) v1.toNat)), .int (i32 v1), .ref a294]) (by rw [ea294]; rfl) ?_
  refine c_V B hH hl hc K.2.2.1 (C := RX15) (T := TX15) (N := 20) (ci := 15) (As := [.int (i32 v1), .int (i32 (gI σ292 (jx a293 4) v1.toNat))]) (ok_X15_copyColumns ja294 K.2.1 σ292 v1 (gI σ292 (jx a293 4) v1.toNat) g1 (hGσ292 _ _) hGσ292 hS h) wc_X16_234 2 hd_X15_copyColumns ⟨Nat.le_trans (Nat.le_of_ble_eq_true rfl) K.2.2.2.1, Nat.le_trans (Nat.le_of_ble_eq_true rfl) K.2.2.2.2.1⟩ (hS.jb ja294).1 (hS.jb ja294).2 (by decide) rfl rfl (rest := []) rfl (Nat.le_of_ble_eq_true rfl) dX16_operator_124 (fun σ295 w hq => ?_) (fun σ9 E9 hx9 => hX σ9 E9 _ _ _ (tb_out K.2.2.2.2.2 rfl) hx9.1 hx9.2.1 hx9.2.2)
  obtain ⟨rfl, h, hGσ295, hS⟩ := hq
  intro H locs ls hH hl hc
  refine W.eq (g2 := F0 m 127 ls []) (rfl) ?_
  try dsimp only at h
  refine lv_goto (tgt := 508) B.1 B.2.1 dX16_operator_127 (by decide) ?_
  exact a_X16_operator_508 K hQ hX _ h hGσ295 hS _ _ _ hH (lv_sub (l' := [(0, .ref rm)]) hl [0] rfl) hc
set_option maxRecDepth 20000 in
theorem a_X16_operator_32 {Q : Sg → Unit → Prop} {X : Sg → String → Prop} (K : MC R p s m args c cX16_operator 2 RX16 D cA tys A n0 s0 143 10070 []) (hQ : HQV p l e R s m args below meth c cX16_operator D cA A n0 s0 QM dm ra jx rm Q) (hX : HX p l e R s m args below meth c 2 D cA A n0 s0 QM dm ra jx rm X) : ∀ (σ : Sg) (v1 : Int) (g1 : rng v1), w_X16_operator_32 ra jx rm Q X σ v1 → RG σ → Shp dm ra jx rm σ → JJ p l e R s m args below meth c 2 D cA A n0 s0 QM σ 32 [(0, .ref rm), (1, .int (i32 v1))] [] := by
  intro σ v1 g1 h hGσ hS H locs ls hH hl hc
  have B := K.1
  unfold w_X16_operator_32 at h
  refine lv_aload_n B.1 B.2.1 dX16_operator_32 rfl (lv_at hl 0 rfl) ?_
  refine xs_ldcw B.1 B.2.1 B.2.2.1 (B.2.2.2.2.2.2.2.2.2.2.1 _ (List.mem_of_getElem? (l := stL) (i := 17) rfl)).1 dX16_operator_33 ?_
  refine c_V B hH hl hc K.2.2.1 (C := RX16) (T := TX16) (N := 123) (ci := 16) (As := [.ref (cA (1000 + 281))]) (ok_X16_isWord K.2.1 σ 281 st_281 hGσ hS h) wc_X16_103 1 hd_X16_isWord ⟨Nat.le_trans (Nat.le_of_ble_eq_true rfl) K.2.2.2.1, Nat.le_trans (Nat.le_of_ble_eq_true rfl) K.2.2.2.2.1⟩ hS.1.1 hS.1.2 (by decide) rfl rfl (rest := []) rfl (Nat.le_of_ble_eq_true rfl) dX16_operator_36 (fun σ296 w hq => ?_) (fun σ9 E9 hx9 => hX σ9 E9 _ _ _ (tb_out K.2.2.2.2.2 rfl) hx9.1 hx9.2.1 hx9.2.2)
  obtain ⟨r297, rfl, ⟨gr297, gzr297⟩, h, hGσ296, hS⟩ := hq
  intro H locs ls hH hl hc
  refine W.eq (g2 := F0 m 39 ls [.int (i32 r297)]) (rfl) ?_
  try dsimp only at h
  refine lv_if_eq (tgt := 130) B.1 B.2.1 dX16_operator_39 (by decide) (fun h9 => ?_) (fun h9 => ?_)
  · rw [if_pos ((z_eq gr297).mp h9)] at h
    exact a_X16_operator_130 K hQ hX _ _ g1 h hGσ296 hS _ _ _ hH (lv_sub (l' := [(0, .ref rm), (1, .int (i32 v1))]) hl [0, 1] rfl) hc
  · rw [if_neg (fun q => h9 ((z_eq gr297).mpr q))] at h
    exact a_X16_operator_42 K hQ hX _ _ g1 h hGσ296 hS _ _ _ hH (lv_sub (l' := [(0, .ref rm), (1, .int (i32 v1))]) hl [0, 1] rfl) hc
set_option maxRecDepth 20000 in
theorem a_X16_operator_10 {Q : Sg → Unit → Prop} {X : Sg → String → Prop} (K : MC R p s m args c cX16_operator 2 RX16 D cA tys A n0 s0 143 10070 []) (hQ : HQV p l e R s m args below meth c cX16_operator D cA A n0 s0 QM dm ra jx rm Q) (hX : HX p l e R s m args below meth c 2 D cA A n0 s0 QM dm ra jx rm X) : ∀ (σ : Sg) (v1 : Int) (g1 : rng v1), w_X16_operator_10 ra jx rm Q X σ v1 → RG σ → Shp dm ra jx rm σ → JJ p l e R s m args below meth c 2 D cA A n0 s0 QM σ 10 [(0, .ref rm), (1, .int (i32 v1))] [] := by
  intro σ v1 g1 h hGσ hS H locs ls hH hl hc
  have B := K.1
  unfold w_X16_operator_10 at h
  refine lv_aload_n B.1 B.2.1 dX16_operator_10 rfl (lv_at hl 0 rfl) ?_
  refine c_V B hH hl hc K.2.2.1 (C := RX16) (T := TX16) (N := 123) (ci := 16) (As := []) (ok_X16_take K.2.1 σ hGσ hS h) wc_X16_84 0 hd_X16_take ⟨Nat.le_trans (Nat.le_of_ble_eq_true rfl) K.2.2.2.1, Nat.le_trans (Nat.le_of_ble_eq_true rfl) K.2.2.2.2.1⟩ hS.1.1 hS.1.2 (by decide) rfl rfl (rest := []) rfl (Nat.le_of_ble_eq_true rfl) dX16_operator_11 (fun σ298 w hq => ?_) (fun σ9 E9 hx9 => hX σ9 E9 _ _ _ (tb_out K.2.2.2.2.2 rfl) hx9.1 hx9.2.1 hx9.2.2)
  obtain ⟨rfl, h, hGσ298, hS⟩ := hq
  intro H locs ls hH hl hc
  refine W.eq (g2 := F0 m 14 ls []) (rfl) ?_
  try dsimp only at h
  refine lv_aload_n B.1 B.2.1 dX16_operator_14 rfl (lv_at hl 0 rfl) ?_
  refine r_getp B hH hS 18 (by decide) wf_X16_118 rfl rfl dX16_operator_15 ?_
  obtain ⟨a299, ea299, ja299, h⟩ := h
  refine W.eq (g2 := F0 m 18 ls [.ref a299]) (by rw [ea299]; rfl) ?_
  refine n_arr B hH hS ja299 2 (kd := 100) (n := 16) (by decide) (by decide) (List.mem_of_getElem? (i := 2) rfl) rfl dX16_operator_18 ?_
  refine lv_iload_n B.1 B.2.1 dX16_operator_21 rfl (lv_at hl 1 rfl) ?_
  refine lv_iconst (v := i32 0) B.1 B.2.1 dX16_operator_22 (by decide) ?_
  obtain ⟨q2, h⟩ := h
  obtain ⟨σ300, eσ300⟩ : ∃ z, z = pI σ298 (jx a299 2) v1.toNat 0 := ⟨_, rfl⟩
  have h := h σ300 eσ300
  refine x_iast B K.2.1 hH (hS.ja ja299 (k := 2) (kd := 100) (n := 16) (by decide)) (by decide) q2 dX16_operator_23 (fun H locs hH => ?_)
  have hH : Hd D cA A s (pI σ298 (jx a299 2) v1.toNat 0) H locs := hH
  rw [← eσ300] at hH
  have hGσ300 : RG σ300 := by rw [eσ300]; exact hGσ298.pI (by unfold rng; omega)
  have hS : Shp dm ra jx rm σ300 := by rw [eσ300]; exact hS
  have hc : CB n0 s0 σ300 := by rw [eσ300]; exact hc
  rw [show gc σ298 = gc σ300 by rw [eσ300], show gs σ298 = gs σ300 by rw [eσ300]]
  refine lv_aload_n B.1 B.2.1 dX16_operator_24 rfl (lv_at hl 0 rfl) ?_
  refine lv_iload_n B.1 B.2.1 dX16_operator_25 rfl (lv_at hl 1 rfl) ?_
  refine c_V B hH hl hc K.2.2.1 (C := RX16) (T := TX16) (N := 123) (ci := 16) (As := [.int (i32 v1)]) (ok_X16_source K.2.1 σ300 v1 g1 hGσ300 hS h) wc_X16_279 1 hd_X16_source ⟨Nat.le_trans (Nat.le_of_ble_eq_true rfl) K.2.2.2.1, Nat.le_trans (Nat.le_of_ble_eq_true rfl) K.2.2.2.2.1⟩ hS.1.1 hS.1.2 (by decide) rfl rfl (rest := []) rfl (Nat.le_of_ble_eq_true rfl) dX16_operator_26 (fun σ301 w hq => ?_) (fun σ9 E9 hx9 => hX σ9 E9 _ _ _ (tb_out K.2.2.2.2.2 rfl) hx9.1 hx9.2.1 hx9.2.2)
  obtain ⟨rfl, h, hGσ301, hS⟩ := hq
  intro H locs ls hH hl hc
  refine W.eq (g2 := F0 m 29 ls []) (rfl) ?_
  try dsimp only at h
  refine lv_goto (tgt := 508) B.1 B.2.1 dX16_operator_29 (by decide) ?_
  exact a_X16_operator_508 K hQ hX _ h hGσ301 hS _ _ _ hH (lv_sub (l' := [(0, .ref rm)]) hl [0] rfl) hc
set_option maxRecDepth 20000 in
theorem a_X16_operator_0 {Q : Sg → Unit → Prop} {X : Sg → String → Prop} (K : MC R p s m args c cX16_operator 2 RX16 D cA tys A n0 s0 143 10070 []) (hQ : HQV p l e R s m args below meth c cX16_operator D cA A n0 s0 QM dm ra jx rm Q) (hX : HX p l e R s m args below meth c 2 D cA A n0 s0 QM dm ra jx rm X) : ∀ (σ : Sg) (v1 : Int) (g1 : rng v1), w_X16_operator_0 ra jx rm Q X σ v1 → RG σ → Shp dm ra jx rm σ → JJ p l e R s m args below meth c 2 D cA A n0 s0 QM σ 0 [(0, .ref rm), (1, .int (i32 v1))] [] := by
  intro σ v1 g1 h hGσ hS H locs ls hH hl hc
  have B := K.1
  unfold w_X16_operator_0 at h
  refine lv_aload_n B.1 B.2.1 dX16_operator_0 rfl (lv_at hl 0 rfl) ?_
  refine xs_ldcw B.1 B.2.1 B.2.2.1 (B.2.2.2.2.2.2.2.2.2.2.1 _ (List.mem_of_getElem? (l := stL) (i := 16) rfl)).1 dX16_operator_1 ?_
  refine c_V B hH hl hc K.2.2.1 (C := RX16) (T := TX16) (N := 123) (ci := 16) (As := [.ref (cA (1000 + 277))]) (ok_X16_isWord K.2.1 σ 277 st_277 hGσ hS h) wc_X16_103 1 hd_X16_isWord ⟨Nat.le_trans (Nat.le_of_ble_eq_true rfl) K.2.2.2.1, Nat.le_trans (Nat.le_of_ble_eq_true rfl) K.2.2.2.2.1⟩ hS.1.1 hS.1.2 (by decide) rfl rfl (rest := []) rfl (Nat.le_of_ble_eq_true rfl) dX16_operator_4 (fun σ302 w hq => ?_) (fun σ9 E9 hx9 => hX σ9 E9 _ _ _ (tb_out K.2.2.2.2.2 rfl) hx9.1 hx9.2.1 hx9.2.2)
  obtain ⟨r303, rfl, ⟨gr303, gzr303⟩, h, hGσ302, hS⟩ := hq
  intro H locs ls hH hl hc
  refine W.eq (g2 := F0 m 7 ls [.int (i32 r303)]) (rfl) ?_
  try dsimp only at h
  refine lv_if_eq (tgt := 32) B.1 B.2.1 dX16_operator_7 (by decide) (fun h9 => ?_) (fun h9 => ?_)
  · rw [if_pos ((z_eq gr303).mp h9)] at h
    exact a_X16_operator_32 K hQ hX _ _ g1 h hGσ302 hS _ _ _ hH (lv_sub (l' := [(0, .ref rm), (1, .int (i32 v1))]) hl [0, 1] rfl) hc
  · rw [if_neg (fun q => h9 ((z_eq gr303).mpr q))] at h
    exact a_X16_operator_10 K hQ hX _ _ g1 h hGσ302 hS _ _ _ hH (lv_sub (l' := [(0, .ref rm), (1, .int (i32 v1))]) hl [0, 1] rfl) hc
theorem ok_X16_operator (hT : Tys cA tys) {Q : Sg → Unit → Prop} {X : Sg → String → Prop} (σ : Sg) (v1 : Int) (g1 : rng v1) (hG : RG σ) (hS : Shp dm ra jx rm σ) (h : wp_X16_operator ra jx rm v1 σ Q X) : Ok l D cA tys A yX16_operator (.code yX16_operator cX16_operator 2 none) 143 10070 [.ref rm, .int (i32 v1)] σ (QnV dm ra jx rm Q) (QxR dm ra jx rm X) := by
  unfold wp_X16_operator at h
  exact ok_V (plainFor_of_name (by decide)) (by exact Nat.le_of_ble_eq_true rfl) hT (fun p e R s m args below meth c K hQ hX H locs ls hH hl hc => a_X16_operator_0 K hQ hX σ v1 g1 h hG hS H locs ls hH (lv_sub (l' := [(0, .ref rm), (1, .int (i32 v1))]) hl [0, 1] rfl) hc)
theorem dX16_statement_0 : decode cX16_statement 0 = .ok (.aload_n 0, 1) := by decide +kernel
theorem dX16_statement_1 : decode cX16_statement 1 = .ok (.getfield 118, 3) := by decide +kernel
theorem dX16_statement_4 : decode cX16_statement 4 = .ok (.getfield 316, 3) := by decide +kernel
theorem dX16_statement_7 : decode cX16_statement 7 = .ok (.istore_n 1, 1) := by decide +kernel
theorem dX16_statement_8 : decode cX16_statement 8 = .ok (.aload_n 0, 1) := by decide +kernel
theorem dX16_statement_9 : decode cX16_statement 9 = .ok (.ldc_w 319, 3) := by decide +kernel
theorem dX16_statement_12 : decode cX16_statement 12 = .ok (.invokevirtual 103, 3) := by decide +kernel
theorem dX16_statement_15 : decode cX16_statement 15 = .ok (.istore_n 2, 1) := by decide +kernel
theorem dX16_statement_16 : decode cX16_statement 16 = .ok (.iload_n 2, 1) := by decide +kernel
theorem dX16_statement_17 : decode cX16_statement 17 = .ok (.ifCond .ne 25, 3) := by decide +kernel
theorem dX16_statement_20 : decode cX16_statement 20 = .ok (.aload_n 0, 1) := by decide +kernel
theorem dX16_statement_21 : decode cX16_statement 21 = .ok (.getfield 118, 3) := by decide +kernel
theorem dX16_statement_24 : decode cX16_statement 24 = .ok (.aload_n 0, 1) := by decide +kernel
theorem dX16_statement_25 : decode cX16_statement 25 = .ok (.invokevirtual 164, 3) := by decide +kernel
theorem dX16_statement_28 : decode cX16_statement 28 = .ok (.invokevirtual 171, 3) := by decide +kernel
theorem dX16_statement_31 : decode cX16_statement 31 = .ok (.iconst (-1), 1) := by decide +kernel
theorem dX16_statement_32 : decode cX16_statement 32 = .ok (.if_icmp .eq 10, 3) := by decide +kernel
theorem dX16_statement_35 : decode cX16_statement 35 = .ok (.aload_n 0, 1) := by decide +kernel
theorem dX16_statement_36 : decode cX16_statement 36 = .ok (.bipush 6, 2) := by decide +kernel
theorem dX16_statement_38 : decode cX16_statement 38 = .ok (.invokevirtual 65, 3) := by decide +kernel
theorem dX16_statement_41 : decode cX16_statement 41 = .ok (.athrow, 1) := by decide +kernel
theorem dX16_statement_42 : decode cX16_statement 42 = .ok (.iload_n 2, 1) := by decide +kernel
theorem dX16_statement_43 : decode cX16_statement 43 = .ok (.ifCond .eq 21, 3) := by decide +kernel
theorem dX16_statement_46 : decode cX16_statement 46 = .ok (.aload_n 0, 1) := by decide +kernel
theorem dX16_statement_47 : decode cX16_statement 47 = .ok (.getfield 118, 3) := by decide +kernel
theorem dX16_statement_50 : decode cX16_statement 50 = .ok (.getfield 321, 3) := by decide +kernel
theorem dX16_statement_53 : decode cX16_statement 53 = .ok (.iconst 4, 1) := by decide +kernel
theorem dX16_statement_54 : decode cX16_statement 54 = .ok (.if_icmp .ne 10, 3) := by decide +kernel
theorem dX16_statement_57 : decode cX16_statement 57 = .ok (.aload_n 0, 1) := by decide +kernel
theorem dX16_statement_58 : decode cX16_statement 58 = .ok (.bipush 8, 2) := by decide +kernel
theorem dX16_statement_60 : decode cX16_statement 60 = .ok (.invokevirtual 65, 3) := by decide +kernel
theorem dX16_statement_63 : decode cX16_statement 63 = .ok (.athrow, 1) := by decide +kernel
theorem dX16_statement_64 : decode cX16_statement 64 = .ok (.iload_n 1, 1) := by decide +kernel
theorem dX16_statement_65 : decode cX16_statement 65 = .ok (.bipush 16, 2) := by decide +kernel
theorem dX16_statement_67 : decode cX16_statement 67 = .ok (.if_icmp .ne 10, 3) := by decide +kernel
theorem dX16_statement_70 : decode cX16_statement 70 = .ok (.aload_n 0, 1) := by decide +kernel
theorem dX16_statement_71 : decode cX16_statement 71 = .ok (.bipush 9, 2) := by decide +kernel
theorem dX16_statement_73 : decode cX16_statement 73 = .ok (.invokevirtual 65, 3) := by decide +kernel
theorem dX16_statement_76 : decode cX16_statement 76 = .ok (.athrow, 1) := by decide +kernel
theorem dX16_statement_77 : decode cX16_statement 77 = .ok (.aload_n 0, 1) := by decide +kernel
theorem dX16_statement_78 : decode cX16_statement 78 = .ok (.getfield 118, 3) := by decide +kernel
theorem dX16_statement_81 : decode cX16_statement 81 = .ok (.getfield 324, 3) := by decide +kernel
theorem dX16_statement_84 : decode cX16_statement 84 = .ok (.iload_n 1, 1) := by decide +kernel
theorem dX16_statement_85 : decode cX16_statement 85 = .ok (.iload_n 2, 1) := by decide +kernel
theorem dX16_statement_86 : decode cX16_statement 86 = .ok (.ifCond .eq 7, 3) := by decide +kernel
theorem dX16_statement_89 : decode cX16_statement 89 = .ok (.lconst 0, 1) := by decide +kernel
theorem dX16_statement_90 : decode cX16_statement 90 = .ok (.goto 7, 3) := by decide +kernel
theorem dX16_statement_93 : decode cX16_statement 93 = .ok (.aload_n 0, 1) := by decide +kernel
theorem dX16_statement_94 : decode cX16_statement 94 = .ok (.getfield 49, 3) := by decide +kernel
theorem dX16_statement_97 : decode cX16_statement 97 = .ok (.lastore, 1) := by decide +kernel
theorem dX16_statement_98 : decode cX16_statement 98 = .ok (.aload_n 0, 1) := by decide +kernel
theorem dX16_statement_99 : decode cX16_statement 99 = .ok (.getfield 118, 3) := by decide +kernel
theorem dX16_statement_102 : decode cX16_statement 102 = .ok (.getfield 216, 3) := by decide +kernel
theorem dX16_statement_105 : decode cX16_statement 105 = .ok (.iload_n 1, 1) := by decide +kernel
theorem dX16_statement_106 : decode cX16_statement 106 = .ok (.iconst (-1), 1) := by decide +kernel
theorem dX16_statement_107 : decode cX16_statement 107 = .ok (.iastore, 1) := by decide +kernel
theorem dX16_statement_108 : decode cX16_statement 108 = .ok (.aload_n 0, 1) := by decide +kernel
theorem dX16_statement_109 : decode cX16_statement 109 = .ok (.getfield 118, 3) := by decide +kernel
theorem dX16_statement_112 : decode cX16_statement 112 = .ok (.getfield 231, 3) := by decide +kernel
theorem dX16_statement_115 : decode cX16_statement 115 = .ok (.iload_n 1, 1) := by decide +kernel
theorem dX16_statement_116 : decode cX16_statement 116 = .ok (.iconst (-1), 1) := by decide +kernel
theorem dX16_statement_117 : decode cX16_statement 117 = .ok (.iastore, 1) := by decide +kernel
theorem dX16_statement_118 : decode cX16_statement 118 = .ok (.aload_n 0, 1) := by decide +kernel
theorem dX16_statement_119 : decode cX16_statement 119 = .ok (.getfield 118, 3) := by decide +kernel
theorem dX16_statement_122 : decode cX16_statement 122 = .ok (.getfield 178, 3) := by decide +kernel
theorem dX16_statement_125 : decode cX16_statement 125 = .ok (.iload_n 1, 1) := by decide +kernel
theorem dX16_statement_126 : decode cX16_statement 126 = .ok (.iconst 0, 1) := by decide +kernel
theorem dX16_statement_127 : decode cX16_statement 127 = .ok (.iastore, 1) := by decide +kernel
theorem dX16_statement_128 : decode cX16_statement 128 = .ok (.aload_n 0, 1) := by decide +kernel
theorem dX16_statement_129 : decode cX16_statement 129 = .ok (.getfield 118, 3) := by decide +kernel
theorem dX16_statement_132 : decode cX16_statement 132 = .ok (.getfield 222, 3) := by decide +kernel
theorem dX16_statement_135 : decode cX16_statement 135 = .ok (.iload_n 1, 1) := by decide +kernel
theorem dX16_statement_136 : decode cX16_statement 136 = .ok (.iconst 0, 1) := by decide +kernel
theorem dX16_statement_137 : decode cX16_statement 137 = .ok (.iastore, 1) := by decide +kernel
theorem dX16_statement_138 : decode cX16_statement 138 = .ok (.aload_n 0, 1) := by decide +kernel
theorem dX16_statement_139 : decode cX16_statement 139 = .ok (.invokevirtual 84, 3) := by decide +kernel
theorem dX16_statement_142 : decode cX16_statement 142 = .ok (.aload_n 0, 1) := by decide +kernel
theorem dX16_statement_143 : decode cX16_statement 143 = .ok (.iconst 0, 1) := by decide +kernel
theorem dX16_statement_144 : decode cX16_statement 144 = .ok (.putfield 115, 3) := by decide +kernel
theorem dX16_statement_147 : decode cX16_statement 147 = .ok (.iload_n 2, 1) := by decide +kernel
theorem dX16_statement_148 : decode cX16_statement 148 = .ok (.ifCond .eq 60, 3) := by decide +kernel
theorem dX16_statement_151 : decode cX16_statement 151 = .ok (.aload_n 0, 1) := by decide +kernel
theorem dX16_statement_152 : decode cX16_statement 152 = .ok (.getfield 118, 3) := by decide +kernel
theorem dX16_statement_155 : decode cX16_statement 155 = .ok (.getfield 246, 3) := by decide +kernel
theorem dX16_statement_158 : decode cX16_statement 158 = .ok (.iload_n 1, 1) := by decide +kernel
theorem dX16_statement_159 : decode cX16_statement 159 = .ok (.bipush 11, 2) := by decide +kernel
theorem dX16_statement_161 : decode cX16_statement 161 = .ok (.iastore, 1) := by decide +kernel
theorem dX16_statement_162 : decode cX16_statement 162 = .ok (.aload_n 0, 1) := by decide +kernel
theorem dX16_statement_163 : decode cX16_statement 163 = .ok (.getfield 118, 3) := by decide +kernel
theorem dX16_statement_166 : decode cX16_statement 166 = .ok (.getfield 216, 3) := by decide +kernel
theorem dX16_statement_169 : decode cX16_statement 169 = .ok (.iload_n 1, 1) := by decide +kernel
theorem dX16_statement_170 : decode cX16_statement 170 = .ok (.aload_n 0, 1) := by decide +kernel
theorem dX16_statement_171 : decode cX16_statement 171 = .ok (.invokevirtual 213, 3) := by decide +kernel
theorem dX16_statement_174 : decode cX16_statement 174 = .ok (.iastore, 1) := by decide +kernel
theorem dX16_statement_175 : decode cX16_statement 175 = .ok (.aload_n 0, 1) := by decide +kernel
theorem dX16_statement_176 : decode cX16_statement 176 = .ok (.getfield 118, 3) := by decide +kernel
theorem dX16_statement_179 : decode cX16_statement 179 = .ok (.iload_n 1, 1) := by decide +kernel
theorem dX16_statement_180 : decode cX16_statement 180 = .ok (.aload_n 0, 1) := by decide +kernel
theorem dX16_statement_181 : decode cX16_statement 181 = .ok (.getfield 118, 3) := by decide +kernel
theorem dX16_statement_184 : decode cX16_statement 184 = .ok (.getfield 216, 3) := by decide +kernel
theorem dX16_statement_187 : decode cX16_statement 187 = .ok (.iload_n 1, 1) := by decide +kernel
theorem dX16_statement_188 : decode cX16_statement 188 = .ok (.iaload, 1) := by decide +kernel
theorem dX16_statement_189 : decode cX16_statement 189 = .ok (.invokevirtual 234, 3) := by decide +kernel
theorem dX16_statement_192 : decode cX16_statement 192 = .ok (.aload_n 0, 1) := by decide +kernel
theorem dX16_statement_193 : decode cX16_statement 193 = .ok (.getfield 118, 3) := by decide +kernel
theorem dX16_statement_196 : decode cX16_statement 196 = .ok (.dup, 1) := by decide +kernel
theorem dX16_statement_197 : decode cX16_statement 197 = .ok (.getfield 321, 3) := by decide +kernel
theorem dX16_statement_200 : decode cX16_statement 200 = .ok (.iconst 1, 1) := by decide +kernel
theorem dX16_statement_201 : decode cX16_statement 201 = .ok (.iadd, 1) := by decide +kernel
theorem dX16_statement_202 : decode cX16_statement 202 = .ok (.putfield 321, 3) := by decide +kernel
theorem dX16_statement_205 : decode cX16_statement 205 = .ok (.goto 14, 3) := by decide +kernel
theorem dX16_statement_208 : decode cX16_statement 208 = .ok (.aload_n 0, 1) := by decide +kernel
theorem dX16_statement_209 : decode cX16_statement 209 = .ok (.bipush 61, 2) := by decide +kernel
theorem dX16_statement_211 : decode cX16_statement 211 = .ok (.invokevirtual 159, 3) := by decide +kernel
theorem dX16_statement_214 : decode cX16_statement 214 = .ok (.aload_n 0, 1) := by decide +kernel
theorem dX16_statement_215 : decode cX16_statement 215 = .ok (.iload_n 1, 1) := by decide +kernel
theorem dX16_statement_216 : decode cX16_statement 216 = .ok (.invokevirtual 327, 3) := by decide +kernel
theorem dX16_statement_219 : decode cX16_statement 219 = .ok (.aload_n 0, 1) := by decide +kernel
theorem dX16_statement_220 : decode cX16_statement 220 = .ok (.bipush 59, 2) := by decide +kernel
theorem dX16_statement_222 : decode cX16_statement 222 = .ok (.invokevirtual 159, 3) := by decide +kernel
theorem dX16_statement_225 : decode cX16_statement 225 = .ok (.aload_n 0, 1) := by decide +kernel
theorem dX16_statement_226 : decode cX16_statement 226 = .ok (.getfield 118, 3) := by decide +kernel
theorem dX16_statement_229 : decode cX16_statement 229 = .ok (.dup, 1) := by decide +kernel
theorem dX16_statement_230 : decode cX16_statement 230 = .ok (.getfield 316, 3) := by decide +kernel
theorem dX16_statement_233 : decode cX16_statement 233 = .ok (.iconst 1, 1) := by decide +kernel
theorem dX16_statement_234 : decode cX16_statement 234 = .ok (.iadd, 1) := by decide +kernel
theorem dX16_statement_235 : decode cX16_statement 235 = .ok (.putfield 316, 3) := by decide +kernel
theorem dX16_statement_238 : decode cX16_statement 238 = .ok (.return_, 1) := by decide +kernel
set_option maxRecDepth 20000 in
theorem a_X16_statement_219 {Q : Sg → Unit → Prop} {X : Sg → String → Prop} (K : MC R p s m args c cX16_statement 3 RX16 D cA tys A n0 s0 144 10091 []) (hQ : HQV p l e R s m args below meth c cX16_statement D cA A n0 s0 QM dm ra jx rm Q) (hX : HX p l e R s m args below meth c 3 D cA A n0 s0 QM dm ra jx rm X) : ∀ (σ : Sg), w_X16_statement_219 ra jx rm Q X σ → RG σ → Shp dm ra jx rm σ → JJ p l e R s m args below meth c 3 D cA A n0 s0 QM σ 219 [(0, .ref rm)] [] := by
  intro σ h hGσ hS H locs ls hH hl hc
  have B := K.1
  unfold w_X16_statement_219 at h
  refine lv_aload_n B.1 B.2.1 dX16_statement_219 rfl (lv_at hl 0 rfl) ?_
  refine lv_bipush (v := i32 59) B.1 B.2.1 dX16_statement_220 (by decide) ?_
  refine c_V B hH hl hc K.2.2.1 (C := RX16) (T := TX16) (N := 123) (ci := 16) (As := [.int (i32 59)]) (ok_X16_sign K.2.1 σ 59 (by unfold rng; omega) hGσ hS h) wc_X16_159 1 hd_X16_sign ⟨Nat.le_trans (Nat.le_of_ble_eq_true rfl) K.2.2.2.1, Nat.le_trans (Nat.le_of_ble_eq_true rfl) K.2.2.2.2.1⟩ hS.1.1 hS.1.2 (by decide) rfl rfl (rest := []) rfl (Nat.le_of_ble_eq_true rfl) dX16_statement_222 (fun σ95 w hq => ?_) (fun σ9 E9 hx9 => hX σ9 E9 _ _ _ (tb_out K.2.2.2.2.2 rfl) hx9.1 hx9.2.1 hx9.2.2)
  obtain ⟨rfl, h, hGσ95, hS⟩ := hq
  intro H locs ls hH hl hc
  refine W.eq (g2 := F0 m 225 ls []) (rfl) ?_
  try dsimp only at h
  refine lv_aload_n B.1 B.2.1 dX16_statement_225 rfl (lv_at hl 0 rfl) ?_
  refine r_getp B hH hS 18 (by decide) wf_X16_118 rfl rfl dX16_statement_226 ?_
  refine lv_dup B.1 B.2.1 dX16_statement_229 (rf_cat _) ?_
  obtain ⟨a96, ea96, ja96, h⟩ := h
  refine W.eq (g2 := F0 m 230 ls [.ref a96, va_rf (gP σ95 rm 18)]) (by rw [ea96]; rfl) ?_
  refine n_geti B hH hS ja96 0 (by decide) (List.mem_of_getElem? (i := 0) rfl) rfl dX16_statement_230 ?_
  refine lv_iconst (v := i32 1) B.1 B.2.1 dX16_statement_233 (by decide) ?_
  obtain ⟨q2, h⟩ := h
  refine lv_iadd B.1 B.2.1 dX16_statement_234 ?_
  rw [i32_add]
  obtain ⟨a97, ea97, ja97, h⟩ := h
  obtain ⟨σ98, eσ98⟩ : ∃ z, z = pI σ95 a97 0 (gI σ95 a96 0 + 1) := ⟨_, rfl⟩
  have h := h σ98 eσ98
  refine W.eq (g2 := F0 m 235 ls [.int (i32 (gI σ95 a96 0 + 1)), .ref a97]) (by rw [ea97]; rfl) ?_
  refine n_puti B hH hS ja97 0 (ty := .int) (by decide) (List.mem_of_getElem? (i := 0) rfl) rfl rfl rfl rfl rfl dX16_statement_235 (fun H locs hH => ?_)
  have hH : Hd D cA A s (pI σ95 a97 0 (gI σ95 a96 0 + 1)) H locs := hH
  rw [← eσ98] at hH
  have hGσ98 : RG σ98 := by rw [eσ98]; exact hGσ95.pI q2
  have hS : Shp dm ra jx rm σ98 := by rw [eσ98]; exact hS
  have hc : CB n0 s0 σ98 := by rw [eσ98]; exact hc
  rw [show gc σ95 = gc σ98 by rw [eσ98], show gs σ95 = gs σ98 by rw [eσ98]]
  exact hQ _ _ _ _ _ dX16_statement_238 hH hc h hGσ98 hS
set_option maxRecDepth 20000 in
theorem a_X16_statement_208 {Q : Sg → Unit → Prop} {X : Sg → String → Prop} (K : MC R p s m args c cX16_statement 3 RX16 D cA tys A n0 s0 144 10091 []) (hQ : HQV p l e R s m args below meth c cX16_statement D cA A n0 s0 QM dm ra jx rm Q) (hX : HX p l e R s m args below meth c 3 D cA A n0 s0 QM dm ra jx rm X) : ∀ (σ : Sg) (v1 : Int) (g1 : rng v1), w_X16_statement_208 ra jx rm Q X σ v1 → RG σ → Shp dm ra jx rm σ → JJ p l e R s m args below meth c 3 D cA A n0 s0 QM σ 208 [(0, .ref rm), (1, .int (i32 v1))] [] := by
  intro σ v1 g1 h hGσ hS H locs ls hH hl hc
  have B := K.1
  unfold w_X16_statement_208 at h
  refine lv_aload_n B.1 B.2.1 dX16_statement_208 rfl (lv_at hl 0 rfl) ?_
  refine lv_bipush (v := i32 61) B.1 B.2.1 dX16_statement_209 (by decide) ?_
  refine c_V B hH hl hc K.2.2.1 (C := RX16) (T := TX16) (N := 123) (ci := 16) (As := [.int (i32 61)]) (ok_X16_sign K.2.1 σ 61 (by unfold rng; omega) hGσ hS h) wc_X16_159 1 hd_X16_sign ⟨Nat.le_trans (Nat.le_of_ble_eq_true rfl) K.2.2.2.1, Nat.le_trans (Nat.le_of_ble_eq_true rfl) K.2.2.2.2.1⟩ hS.1.1 hS.1.2 (by decide) rfl rfl (rest := []) rfl (Nat.le_of_ble_eq_true rfl) dX16_statement_211 (fun σ99 w hq => ?_) (fun σ9 E9 hx9 => hX σ9 E9 _ _ _ (tb_out K.2.2.2.2.2 rfl) hx9.1 hx9.2.1 hx9.2.2)
  obtain ⟨rfl, h, hGσ99, hS⟩ := hq
  intro H locs ls hH hl hc
  refine W.eq (g2 := F0 m 214 ls []) (rfl) ?_
  try dsimp only at h
  refine lv_aload_n B.1 B.2.1 dX16_statement_214 rfl (lv_at hl 0 rfl) ?_
  refine lv_iload_n B.1 B.2.1 dX16_statement_215 rfl (lv_at hl 1 rfl) ?_
  refine c_V B hH hl hc K.2.2.1 (C := RX16) (T := TX16) (N := 123) (ci := 16) (As := [.int (i32 v1)]) (ok_X16_operator K.2.1 σ99 v1 g1 hGσ99 hS h) wc_X16_327 1 hd_X16_operator ⟨Nat.le_trans (Nat.le_of_ble_eq_true rfl) K.2.2.2.1, Nat.le_trans (Nat.le_of_ble_eq_true rfl) K.2.2.2.2.1⟩ hS.1.1 hS.1.2 (by decide) rfl rfl (rest := []) rfl (Nat.le_of_ble_eq_true rfl) dX16_statement_216 (fun σ100 w hq => ?_) (fun σ9 E9 hx9 => hX σ9 E9 _ _ _ (tb_out K.2.2.2.2.2 rfl) hx9.1 hx9.2.1 hx9.2.2)
  obtain ⟨rfl, h, hGσ100, hS⟩ := hq
  intro H locs ls hH hl hc
  refine W.eq (g2 := F0 m 219 ls []) (rfl) ?_
  try dsimp only at h
  exact a_X16_statement_219 K hQ hX _ h hGσ100 hS _ _ _ hH (lv_sub (l' := [(0, .ref rm)]) hl [0] rfl) hc
set_option maxRecDepth 20000 in
theorem a_X16_statement_151 {Q : Sg → Unit → Prop} {X : Sg → String → Prop} (K : MC R p s m args c cX16_statement 3 RX16 D cA tys A n0 s0 144 10091 []) (hQ : HQV p l e R s m args below meth c cX16_statement D cA A n0 s0 QM dm ra jx rm Q) (hX : HX p l e R s m args below meth c 3 D cA A n0 s0 QM dm ra jx rm X) : ∀ (σ : Sg) (v1 : Int) (g1 : rng v1), w_X16_statement_151 ra jx rm Q X σ v1 → RG σ → Shp dm ra jx rm σ → JJ p l e R s m args below meth c 3 D cA A n0 s0 QM σ 151 [(0, .ref rm), (1, .int (i32 v1))] [] := by
  intro σ v1 g1 h hGσ hS H locs ls hH hl hc
  have B := K.1
  unfold w_X16_statement_151 at h
  refine lv_aload_n B.1 B.2.1 dX16_statement_151 rfl (lv_at hl 0 rfl) ?_
  refine r_getp B hH hS 18 (by decide) wf_X16_118 rfl rfl dX16_statement_152 ?_
  obtain ⟨a101, ea101, ja101, h⟩ := h
  refine W.eq (g2 := F0 m 155 ls [.ref a101]) (by rw [ea101]; rfl) ?_
  refine n_arr B hH hS ja101 2 (kd := 100) (n := 16) (by decide) (by decide) (List.mem_of_getElem? (i := 2) rfl) rfl dX16_statement_155 ?_
  refine lv_iload_n B.1 B.2.1 dX16_statement_158 rfl (lv_at hl 1 rfl) ?_
  refine lv_bipush (v := i32 11) B.1 B.2.1 dX16_statement_159 (by decide) ?_
  obtain ⟨q2, h⟩ := h
  obtain ⟨σ102, eσ102⟩ : ∃ z, z = pI σ (jx a101 2) v1.toNat 11 := ⟨_, rfl⟩
  have h := h σ102 eσ102
  refine x_iast B K.2.1 hH (hS.ja ja101 (k := 2) (kd := 100) (n := 16) (by decide)) (by decide) q2 dX16_statement_161 (fun H locs hH => ?_)
  have hH : Hd D cA A s (pI σ (jx a101 2) v1.toNat 11) H locs := hH
  rw [← eσ102] at hH
  have hGσ102 : RG σ102 := by rw [eσ102]; exact hGσ.pI (by unfold rng; omega)
  have hS : Shp dm ra jx rm σ102 := by rw [eσ102]; exact hS
  have hc : CB n0 s0 σ102 := by rw [eσ102]; exact hc
  rw [show gc σ = gc σ102 by rw [eσ102], show gs σ = gs σ102 by rw [eσ102]]
  refine lv_aload_n B.1 B.2.1 dX16_statement_162 rfl (lv_at hl 0 rfl) ?_
  refine r_getp B hH hS 18 (by decide) wf_X16_118 rfl rfl dX16_statement_163 ?_
  obtain ⟨a103, ea103, ja103, h⟩ := h
  refine W.eq (g2 := F0 m 166 ls [.ref a103]) (by rw [ea103]; rfl) ?_
  refine n_arr B hH hS ja103 4 (kd := 100) (n := 16) (by decide) (by decide) (List.mem_of_getElem? (i := 4) rfl) rfl dX16_statement_166 ?_
  refine lv_iload_n B.1 B.2.1 dX16_statement_169 rfl (lv_at hl 1 rfl) ?_
  refine lv_aload_n B.1 B.2.1 dX16_statement_170 rfl (lv_at hl 0 rfl) ?_
  refine c_V B hH hl hc K.2.2.1 (C := RX16) (T := TX16) (N := 123) (ci := 16) (As := []) (ok_X16_input K.2.1 σ102 hGσ102 hS h) wc_X16_213 0 hd_X16_input ⟨Nat.le_trans (Nat.le_of_ble_eq_true rfl) K.2.2.2.1, Nat.le_trans (Nat.le_of_ble_eq_true rfl) K.2.2.2.2.1⟩ hS.1.1 hS.1.2 (by decide) rfl rfl (rest := [.int (i32 v1), .ref (jx a103 4)]) rfl (Nat.le_of_ble_eq_true rfl) dX16_statement_171 (fun σ104 w hq => ?_) (fun σ9 E9 hx9 => hX σ9 E9 _ _ _ (tb_out K.2.2.2.2.2 rfl) hx9.1 hx9.2.1 hx9.2.2)
  obtain ⟨r105, rfl, gr105, h, hGσ104, hS⟩ := hq
  intro H locs ls hH hl hc
  refine W.eq (g2 := F0 m 174 ls [.int (i32 r105), .int (i32 v1), .ref (jx a103 4)]) (rfl) ?_
  try dsimp only at h
  obtain ⟨q5, h⟩ := h
  obtain ⟨σ106, eσ106⟩ : ∃ z, z = pI σ104 (jx a103 4) v1.toNat r105 := ⟨_, rfl⟩
  have h := h σ106 eσ106
  refine x_iast B K.2.1 hH (hS.ja ja103 (k := 4) (kd := 100) (n := 16) (by decide)) (by decide) q5 dX16_statement_174 (fun H locs hH => ?_)
  have hH : Hd D cA A s (pI σ104 (jx a103 4) v1.toNat r105) H locs := hH
  rw [← eσ106] at hH
  have hGσ106 : RG σ106 := by rw [eσ106]; exact hGσ104.pI gr105
  have hS : Shp dm ra jx rm σ106 := by rw [eσ106]; exact hS
  have hc : CB n0 s0 σ106 := by rw [eσ106]; exact hc
  rw [show gc σ104 = gc σ106 by rw [eσ106], show gs σ104 = gs σ106 by rw [eσ106]]
  refine lv_aload_n B.1 B.2.1 dX16_statement_175 rfl (lv_at hl 0 rfl) ?_
  refine r_getp B hH hS 18 (by decide) wf_X16_118 rfl rfl dX16_statement_176 ?_
  refine lv_iload_n B.1 B.2.1 dX16_statement_179 rfl (lv_at hl 1 rfl) ?_
  refine lv_aload_n B.1 B.2.1 dX16_statement_180 rfl (lv_at hl 0 rfl) ?_
  refine r_getp B hH hS 18 (by decide) wf_X16_118 rfl rfl dX16_statement_181 ?_
  obtain ⟨a107, ea107, ja107, h⟩ := h
  refine W.eq (g2 := F0 m 184 ls [.ref a107, .int (i32 v1), va_rf (gP σ106 rm 18)]) (by rw [ea107]; rfl) ?_
  refine n_arr B hH hS ja107 4 (kd := 100) (n := 16) (by decide) (by decide) (List.mem_of_getElem? (i := 4) rfl) rfl dX16_statement_184 ?_
  refine lv_iload_n B.1 B.2.1 dX16_statement_187 rfl (lv_at hl 1 rfl) ?_
  obtain ⟨q8, h⟩ := h
  refine x_iald B K.2.1 hH (hS.ja ja107 (k := 4) (kd := 100) (n := 16) (by decide)) (by decide) q8 dX16_statement_188 ?_
  obtain ⟨a108, ea108, ja108, h⟩ := h
  refine W.eq (g2 := F0 m 189 ls [.int (i32 (gI σ106 (jx a107 4) v1.toNat)), .int (i32 v1), .ref a108]) (by rw [ea108]; rfl) ?_
  refine c_V B hH hl hc K.2.2.1 (C := RX15) (T := TX15) (N := 20) (ci := 15) (As := [.int (i32 v1), .int (i32 (gI σ106 (jx a107 4) v1.toNat))]) (ok_X15_copyColumns ja108 K.2.1 σ106 v1 (gI σ106 (jx a107 4) v1.toNat) g1 (hGσ106 _ _) hGσ106 hS h) wc_X16_234 2 hd_X15_copyColumns ⟨Nat.le_trans (Nat.le_of_ble_eq_true rfl) K.2.2.2.1, Nat.le_trans (Nat.le_of_ble_eq_true rfl) K.2.2.2.2.1⟩ (hS.jb ja108).1 (hS.jb ja108).2 (by decide) rfl rfl (rest := []) rfl (Nat.le_of_ble_eq_true rfl) dX16_statement_189 (fun σ109 w hq => ?_) (fun σ9 E9 hx9 => hX σ9 E9 _ _ _ (tb_out K.2.2.2.2.2 rfl) hx9.1 hx9.2.1 hx9.2.2)
  obtain ⟨rfl, h, hGσ109, hS⟩ := hq
  intro H locs ls hH hl hc
  refine W.eq (g2 := F0 m 192 ls []) (rfl) ?_
  try dsimp only at h
  refine lv_aload_n B.1 B.2.1 dX16_statement_192 rfl (lv_at hl 0 rfl) ?_
  refine r_getp B hH hS 18 (by decide) wf_X16_118 rfl rfl dX16_statement_193 ?_
  refine lv_dup B.1 B.2.1 dX16_statement_196 (rf_cat _) ?_
  obtain ⟨a110, ea110, ja110, h⟩ := h
  refine W.eq (g2 := F0 m 197 ls [.ref a110, va_rf (gP σ109 rm 18)]) (by rw [ea110]; rfl) ?_
  refine n_geti B hH hS ja110 1 (by decide) (List.mem_of_getElem? (i := 1) rfl) rfl dX16_statement_197 ?_
  refine lv_iconst (v := i32 1) B.1 B.2.1 dX16_statement_200 (by decide) ?_
  obtain ⟨q11, h⟩ := h
  refine lv_iadd B.1 B.2.1 dX16_statement_201 ?_
  rw [i32_add]
  obtain ⟨a111, ea111, ja111, h⟩ := h
  obtain ⟨σ112, eσ112⟩ : ∃ z, z = pI σ109 a111 1 (gI σ109 a110 1 + 1) := ⟨_, rfl⟩
  have h := h σ112 eσ112
  refine W.eq (g2 := F0 m 202 ls [.int (i32 (gI σ109 a110 1 + 1)), .ref a111]) (by rw [ea111]; rfl) ?_
  refine n_puti B hH hS ja111 1 (ty := .int) (by decide) (List.mem_of_getElem? (i := 1) rfl) rfl rfl rfl rfl rfl dX16_statement_202 (fun H locs hH => ?_)
  have hH : Hd D cA A s (pI σ109 a111 1 (gI σ109 a110 1 + 1)) H locs := hH
  rw [← eσ112] at hH
  have hGσ112 : RG σ112 := by rw [eσ112]; exact hGσ109.pI q11
  have hS : Shp dm ra jx rm σ112 := by rw [eσ112]; exact hS
  have hc : CB n0 s0 σ112 := by rw [eσ112]; exact hc
  rw [show gc σ109 = gc σ112 by rw [eσ112], show gs σ109 = gs σ112 by rw [eσ112]]
  refine lv_goto (tgt := 219) B.1 B.2.1 dX16_statement_205 (by decide) ?_
  exact a_X16_statement_219 K hQ hX _ h hGσ112 hS _ _ _ hH (lv_sub (l' := [(0, .ref rm)]) hl [0] rfl) hc
set_option maxRecDepth 20000 in
theorem a_X16_statement_97 {Q : Sg → Unit → Prop} {X : Sg → String → Prop} (K : MC R p s m args c cX16_statement 3 RX16 D cA tys A n0 s0 144 10091 []) (hQ : HQV p l e R s m args below meth c cX16_statement D cA A n0 s0 QM dm ra jx rm Q) (hX : HX p l e R s m args below meth c 3 D cA A n0 s0 QM dm ra jx rm X) : ∀ (σ : Sg) (v1 : Int) (v2 : Int) (u0 : Int64) (u1 : Int) (u2 : Option Nat) (g1 : rng v1) (g2 : rng v2) (gu1 : rng u1), w_X16_statement_97 ra jx rm Q X σ v1 v2 u0 u1 u2 → RG σ → Shp dm ra jx rm σ → JJ p l e R s m args below meth c 3 D cA A n0 s0 QM σ 97 [(0, .ref rm), (1, .int (i32 v1)), (2, .int (i32 v2))] [.long u0, .int (i32 u1), va_rf u2] := by
  intro σ v1 v2 u0 u1 u2 g1 g2 gu1 h hGσ hS H locs ls hH hl hc
  have B := K.1
  unfold w_X16_statement_97 at h
  obtain ⟨b113, n114, eb113, jb113, ib113, h⟩ := h
  obtain ⟨σ115, eσ115⟩ : ∃ z, z = pJ σ b113 u1.toNat u0 := ⟨_, rfl⟩
  have h := h σ115 eσ115
  refine W.eq (g2 := F0 m 97 ls [.long u0, .int (i32 u1), .ref b113]) (by rw [eb113]; rfl) ?_
  refine x_last B K.2.1 hH (hS.any jb113) (rAr_lt jb113) ib113 dX16_statement_97 (fun H locs hH => ?_)
  have hH : Hd D cA A s (pJ σ b113 u1.toNat u0) H locs := hH
  rw [← eσ115] at hH
  have hGσ115 : RG σ115 := by rw [eσ115]; exact hGσ.pJ
  have hS : Shp dm ra jx rm σ115 := by rw [eσ115]; exact hS
  have hc : CB n0 s0 σ115 := by rw [eσ115]; exact hc
  rw [show gc σ = gc σ115 by rw [eσ115], show gs σ = gs σ115 by rw [eσ115]]
  refine lv_aload_n B.1 B.2.1 dX16_statement_98 rfl (lv_at hl 0 rfl) ?_
  refine r_getp B hH hS 18 (by decide) wf_X16_118 rfl rfl dX16_statement_99 ?_
  obtain ⟨a116, ea116, ja116, h⟩ := h
  refine W.eq (g2 := F0 m 102 ls [.ref a116]) (by rw [ea116]; rfl) ?_
  refine n_arr B hH hS ja116 4 (kd := 100) (n := 16) (by decide) (by decide) (List.mem_of_getElem? (i := 4) rfl) rfl dX16_statement_102 ?_
  refine lv_iload_n B.1 B.2.1 dX16_statement_105 rfl (lv_at hl 1 rfl) ?_
  refine lv_iconst (v := i32 (-1)) B.1 B.2.1 dX16_statement_106 (by decide) ?_
  obtain ⟨q4, h⟩ := h
  obtain ⟨σ117, eσ117⟩ : ∃ z, z = pI σ115 (jx a116 4) v1.toNat (-1) := ⟨_, rfl⟩
  have h := h σ117 eσ117
  refine x_iast B K.2.1 hH (hS.ja ja116 (k := 4) (kd := 100) (n := 16) (by decide)) (by decide) q4 dX16_statement_107 (fun H locs hH => ?_)
  have hH : Hd D cA A s (pI σ115 (jx a116 4) v1.toNat (-1)) H locs := hH
  rw [← eσ117] at hH
  have hGσ117 : RG σ117 := by rw [eσ117]; exact hGσ115.pI (by unfold rng; omega)
  have hS : Shp dm ra jx rm σ117 := by rw [eσ117]; exact hS
  have hc : CB n0 s0 σ117 := by rw [eσ117]; exact hc
  rw [show gc σ115 = gc σ117 by rw [eσ117], show gs σ115 = gs σ117 by rw [eσ117]]
  refine lv_aload_n B.1 B.2.1 dX16_statement_108 rfl (lv_at hl 0 rfl) ?_
  refine r_getp B hH hS 18 (by decide) wf_X16_118 rfl rfl dX16_statement_109 ?_
  obtain ⟨a118, ea118, ja118, h⟩ := h
  refine W.eq (g2 := F0 m 112 ls [.ref a118]) (by rw [ea118]; rfl) ?_
  refine n_arr B hH hS ja118 5 (kd := 100) (n := 16) (by decide) (by decide) (List.mem_of_getElem? (i := 5) rfl) rfl dX16_statement_112 ?_
  refine lv_iload_n B.1 B.2.1 dX16_statement_115 rfl (lv_at hl 1 rfl) ?_
  refine lv_iconst (v := i32 (-1)) B.1 B.2.1 dX16_statement_116 (by decide) ?_
  obtain ⟨q7, h⟩ := h
  obtain ⟨σ119, eσ119⟩ : ∃ z, z = pI σ117 (jx a118 5) v1.toNat (-1) := ⟨_, rfl⟩
  have h := h σ119 eσ119
  refine x_iast B K.2.1 hH (hS.ja ja118 (k := 5) (kd := 100) (n := 16) (by decide)) (by decide) q7 dX16_statement_117 (fun H locs hH => ?_)
  have hH : Hd D cA A s (pI σ117 (jx a118 5) v1.toNat (-1)) H locs := hH
  rw [← eσ119] at hH
  have hGσ119 : RG σ119 := by rw [eσ119]; exact hGσ117.pI (by unfold rng; omega)
  have hS : Shp dm ra jx rm σ119 := by rw [eσ119]; exact hS
  have hc : CB n0 s0 σ119 := by rw [eσ119]; exact hc
  rw [show gc σ117 = gc σ119 by rw [eσ119], show gs σ117 = gs σ119 by rw [eσ119]]
  refine lv_aload_n B.1 B.2.1 dX16_statement_118 rfl (lv_at hl 0 rfl) ?_
  refine r_getp B hH hS 18 (by decide) wf_X16_118 rfl rfl dX16_statement_119 ?_
  obtain ⟨a120, ea120, ja120, h⟩ := h
  refine W.eq (g2 := F0 m 122 ls [.ref a120]) (by rw [ea120]; rfl) ?_
  refine n_arr B hH hS ja120 6 (kd := 100) (n := 16) (by decide) (by decide) (List.mem_of_getElem? (i := 6) rfl) rfl dX16_statement_122 ?_
  refine lv_iload_n B.1 B.2.1 dX16_statement_125 rfl (lv_at hl 1 rfl) ?_
  refine lv_iconst (v := i32 0) B.1 B.2.1 dX16_statement_126 (by decide) ?_
  obtain ⟨q10, h⟩ := h
  obtain ⟨σ121, eσ121⟩ : ∃ z, z = pI σ119 (jx a120 6) v1.toNat 0 := ⟨_, rfl⟩
  have h := h σ121 eσ121
  refine x_iast B K.2.1 hH (hS.ja ja120 (k := 6) (kd := 100) (n := 16) (by decide)) (by decide) q10 dX16_statement_127 (fun H locs hH => ?_)
  have hH : Hd D cA A s (pI σ119 (jx a120 6) v1.toNat 0) H locs := hH
  rw [← eσ121] at hH
  have hGσ121 : RG σ121 := by rw [eσ121]; exact hGσ119.pI (by unfold rng; omega)
  have hS : Shp dm ra jx rm σ121 := by rw [eσ121]; exact hS
  have hc : CB n0 s0 σ121 := by rw [eσ121]; exact hc
  rw [show gc σ119 = gc σ121 by rw [eσ121], show gs σ119 = gs σ121 by rw [eσ121]]
  refine lv_aload_n B.1 B.2.1 dX16_statement_128 rfl (lv_at hl 0 rfl) ?_
  refine r_getp B hH hS 18 (by decide) wf_X16_118 rfl rfl dX16_statement_129 ?_
  obtain ⟨a122, ea122, ja122, h⟩ := h
  refine W.eq (g2 := F0 m 132 ls [.ref a122]) (by rw [ea122]; rfl) ?_
  refine n_arr B hH hS ja122 12 (kd := 100) (n := 16) (by decide) (by decide) (List.mem_of_getElem? (i := 12) rfl) rfl dX16_statement_132 ?_
  refine lv_iload_n B.1 B.2.1 dX16_statement_135 rfl (lv_at hl 1 rfl) ?_
  refine lv_iconst (v := i32 0) B.1 B.2.1 dX16_statement_136 (by decide) ?_
  obtain ⟨q13, h⟩ := h
  obtain ⟨σ123, eσ123⟩ : ∃ z, z = pI σ121 (jx a122 12) v1.toNat 0 := ⟨_, rfl⟩
  have h := h σ123 eσ123
  refine x_iast B K.2.1 hH (hS.ja ja122 (k := 12) (kd := 100) (n := 16) (by decide)) (by decide) q13 dX16_statement_137 (fun H locs hH => ?_)
  have hH : Hd D cA A s (pI σ121 (jx a122 12) v1.toNat 0) H locs := hH
  rw [← eσ123] at hH
  have hGσ123 : RG σ123 := by rw [eσ123]; exact hGσ121.pI (by unfold rng; omega)
  have hS : Shp dm ra jx rm σ123 := by rw [eσ123]; exact hS
  have hc : CB n0 s0 σ123 := by rw [eσ123]; exact hc
  rw [show gc σ121 = gc σ123 by rw [eσ123], show gs σ121 = gs σ123 by rw [eσ123]]
  refine lv_aload_n B.1 B.2.1 dX16_statement_138 rfl (lv_at hl 0 rfl) ?_
  refine c_V B hH hl hc K.2.2.1 (C := RX16) (T := TX16) (N := 123) (ci := 16) (As := []) (ok_X16_take K.2.1 σ123 hGσ123 hS h) wc_X16_84 0 hd_X16_take ⟨Nat.le_trans (Nat.le_of_ble_eq_true rfl) K.2.2.2.1, Nat.le_trans (Nat.le_of_ble_eq_true rfl) K.2.2.2.2.1⟩ hS.1.1 hS.1.2 (by decide) rfl rfl (rest := []) rfl (Nat.le_of_ble_eq_true rfl) dX16_statement_139 (fun σ124 w hq => ?_) (fun σ9 E9 hx9 => hX σ9 E9 _ _ _ (tb_out K.2.2.2.2.2 rfl) hx9.1 hx9.2.1 hx9.2.2)
  obtain ⟨rfl, h, hGσ124, hS⟩ := hq
  intro H locs ls hH hl hc
  refine W.eq (g2 := F0 m 142 ls []) (rfl) ?_
  try dsimp only at h
  refine lv_aload_n B.1 B.2.1 dX16_statement_142 rfl (lv_at hl 0 rfl) ?_
  refine lv_iconst (v := i32 0) B.1 B.2.1 dX16_statement_143 (by decide) ?_
  obtain ⟨σ125, eσ125⟩ : ∃ z, z = pI σ124 rm 19 0 := ⟨_, rfl⟩
  have h := h σ125 eσ125
  refine r_puti B hH hS 19 (ty := .int) (by decide) wf_X16_115 rfl rfl rfl rfl rfl rfl dX16_statement_144 (fun H locs hH => ?_)
  have hH : Hd D cA A s (pI σ124 rm 19 0) H locs := hH
  rw [← eσ125] at hH
  have hGσ125 : RG σ125 := by rw [eσ125]; exact hGσ124.pI (by unfold rng; omega)
  have hS : Shp dm ra jx rm σ125 := by rw [eσ125]; exact hS
  have hc : CB n0 s0 σ125 := by rw [eσ125]; exact hc
  rw [show gc σ124 = gc σ125 by rw [eσ125], show gs σ124 = gs σ125 by rw [eσ125]]
  refine lv_iload_n B.1 B.2.1 dX16_statement_147 rfl (lv_at hl 2 rfl) ?_
  refine lv_if_eq (tgt := 208) B.1 B.2.1 dX16_statement_148 (by decide) (fun h9 => ?_) (fun h9 => ?_)
  · rw [if_pos ((z_eq g2).mp h9)] at h
    exact a_X16_statement_208 K hQ hX _ _ g1 h hGσ125 hS _ _ _ hH (lv_sub (l' := [(0, .ref rm), (1, .int (i32 v1))]) hl [0, 1] rfl) hc
  · rw [if_neg (fun q => h9 ((z_eq g2).mpr q))] at h
    exact a_X16_statement_151 K hQ hX _ _ g1 h hGσ125 hS _ _ _ hH (lv_sub (l' := [(0, .ref rm), (1, .int (i32 v1))]) hl [0, 1] rfl) hc
set_option maxRecDepth 20000 in
theorem a_X16_statement_93 {Q : Sg → Unit → Prop} {X : Sg → String → Prop} (K : MC R p s m args c cX16_statement 3 RX16 D cA tys A n0 s0 144 10091 []) (hQ : HQV p l e R s m args below meth c cX16_statement D cA A n0 s0 QM dm ra jx rm Q) (hX : HX p l e R s m args below meth c 3 D cA A n0 s0 QM dm ra jx rm X) : ∀ (σ : Sg) (v1 : Int) (v2 : Int) (u0 : Int) (u1 : Option Nat) (g1 : rng v1) (g2 : rng v2) (gu0 : rng u0), w_X16_statement_93 ra jx rm Q X σ v1 v2 u0 u1 → RG σ → Shp dm ra jx rm σ → JJ p l e R s m args below meth c 3 D cA A n0 s0 QM σ 93 [(0, .ref rm), (1, .int (i32 v1)), (2, .int (i32 v2))] [.int (i32 u0), va_rf u1] := by
  intro σ v1 v2 u0 u1 g1 g2 gu0 h hGσ hS H locs ls hH hl hc
  have B := K.1
  unfold w_X16_statement_93 at h
  refine lv_aload_n B.1 B.2.1 dX16_statement_93 rfl (lv_at hl 0 rfl) ?_
  refine r_getl B hH hS 11 (by decide) wf_X16_49 rfl rfl dX16_statement_94 ?_
  exact a_X16_statement_97 K hQ hX _ _ _ _ _ _ g1 g2 gu0 h hGσ hS _ _ _ hH (lv_sub (l' := [(0, .ref rm), (1, .int (i32 v1)), (2, .int (i32 v2))]) hl [0, 1, 2] rfl) hc
set_option maxRecDepth 20000 in
theorem a_X16_statement_89 {Q : Sg → Unit → Prop} {X : Sg → String → Prop} (K : MC R p s m args c cX16_statement 3 RX16 D cA tys A n0 s0 144 10091 []) (hQ : HQV p l e R s m args below meth c cX16_statement D cA A n0 s0 QM dm ra jx rm Q) (hX : HX p l e R s m args below meth c 3 D cA A n0 s0 QM dm ra jx rm X) : ∀ (σ : Sg) (v1 : Int) (v2 : Int) (u0 : Int) (u1 : Option Nat) (g1 : rng v1) (g2 : rng v2) (gu0 : rng u0), w_X16_statement_89 ra jx rm Q X σ v1 v2 u0 u1 → RG σ → Shp dm ra jx rm σ → JJ p l e R s m args below meth c 3 D cA A n0 s0 QM σ 89 [(0, .ref rm), (1, .int (i32 v1)), (2, .int (i32 v2))] [.int (i32 u0), va_rf u1] := by
  intro σ v1 v2 u0 u1 g1 g2 gu0 h hGσ hS H locs ls hH hl hc
  have B := K.1
  unfold w_X16_statement_89 at h
  refine lv_lconst (v := 0) B.1 B.2.1 dX16_statement_89 (by decide) ?_
  refine lv_goto (tgt := 97) B.1 B.2.1 dX16_statement_90 (by decide) ?_
  exact a_X16_statement_97 K hQ hX _ _ _ _ _ _ g1 g2 gu0 h hGσ hS _ _ _ hH (lv_sub (l' := [(0, .ref rm), (1, .int (i32 v1)), (2, .int (i32 v2))]) hl [0, 1, 2] rfl) hc
set_option maxRecDepth 20000 in
theorem a_X16_statement_77 {Q : Sg → Unit → Prop} {X : Sg → String → Prop} (K : MC R p s m args c cX16_statement 3 RX16 D cA tys A n0 s0 144 10091 []) (hQ : HQV p l e R s m args below meth c cX16_statement D cA A n0 s0 QM dm ra jx rm Q) (hX : HX p l e R s m args below meth c 3 D cA A n0 s0 QM dm ra jx rm X) : ∀ (σ : Sg) (v1 : Int) (v2 : Int) (g1 : rng v1) (g2 : rng v2), w_X16_statement_77 ra jx rm Q X σ v1 v2 → RG σ → Shp dm ra jx rm σ → JJ p l e R s m args below meth c 3 D cA A n0 s0 QM σ 77 [(0, .ref rm), (1, .int (i32 v1)), (2, .int (i32 v2))] [] := by
  intro σ v1 v2 g1 g2 h hGσ hS H locs ls hH hl hc
  have B := K.1
  unfold w_X16_statement_77 at h
  refine lv_aload_n B.1 B.2.1 dX16_statement_77 rfl (lv_at hl 0 rfl) ?_
  refine r_getp B hH hS 18 (by decide) wf_X16_118 rfl rfl dX16_statement_78 ?_
  obtain ⟨a126, ea126, ja126, h⟩ := h
  refine W.eq (g2 := F0 m 81 ls [.ref a126]) (by rw [ea126]; rfl) ?_
  refine n_arr B hH hS ja126 3 (kd := 101) (n := 16) (by decide) (by decide) (List.mem_of_getElem? (i := 3) rfl) rfl dX16_statement_81 ?_
  refine lv_iload_n B.1 B.2.1 dX16_statement_84 rfl (lv_at hl 1 rfl) ?_
  refine lv_iload_n B.1 B.2.1 dX16_statement_85 rfl (lv_at hl 2 rfl) ?_
  refine lv_if_eq (tgt := 93) B.1 B.2.1 dX16_statement_86 (by decide) (fun h9 => ?_) (fun h9 => ?_)
  · rw [if_pos ((z_eq g2).mp h9)] at h
    exact a_X16_statement_93 K hQ hX _ _ _ _ _ g1 g2 g1 h hGσ hS _ _ _ hH (lv_sub (l' := [(0, .ref rm), (1, .int (i32 v1)), (2, .int (i32 v2))]) hl [0, 1, 2] rfl) hc
  · rw [if_neg (fun q => h9 ((z_eq g2).mpr q))] at h
    exact a_X16_statement_89 K hQ hX _ _ _ _ _ g1 g2 g1 h hGσ hS _ _ _ hH (lv_sub (l' := [(0, .ref rm), (1, .int (i32 v1)), (2, .int (i32 v2))]) hl [0, 1, 2] rfl) hc
set_option maxRecDepth 20000 in
theorem a_X16_statement_70 {Q : Sg → Unit → Prop} {X : Sg → String → Prop} (K : MC R p s m args c cX16_statement 3 RX16 D cA tys A n0 s0 144 10091 []) (hQ : HQV p l e R s m args below meth c cX16_statement D cA A n0 s0 QM dm ra jx rm Q) (hX : HX p l e R s m args below meth c 3 D cA A n0 s0 QM dm ra jx rm X) : ∀ (σ : Sg), w_X16_statement_70 ra jx rm Q X σ → RG σ → Shp dm ra jx rm σ → JJ p l e R s m args below meth c 3 D cA A n0 s0 QM σ 70 [(0, .ref rm)] [] := by
  intro σ h hGσ hS H locs ls hH hl hc
  have B := K.1
  unfold w_X16_statement_70 at h
  refine lv_aload_n B.1 B.2.1 dX16_statement_70 rfl (lv_at hl 0 rfl) ?_
  refine lv_bipush (v := i32 9) B.1 B.2.1 dX16_statement_71 (by decide) ?_
  refine c_V B hH hl hc K.2.2.1 (C := RX16) (T := TX16) (N := 123) (ci := 16) (As := [.int (i32 9)]) (ok_X16_fail K.2.1 σ 9 (by unfold rng; omega) hGσ hS h) wc_X16_65 1 hd_X16_fail ⟨Nat.le_trans (Nat.le_of_ble_eq_true rfl) K.2.2.2.1, Nat.le_trans (Nat.le_of_ble_eq_true rfl) K.2.2.2.2.1⟩ hS.1.1 hS.1.2 (by decide) rfl rfl (rest := []) rfl (Nat.le_of_ble_eq_true rfl) dX16_statement_73 (fun σ127 w hq => ?_) (fun σ9 E9 hx9 => hX σ9 E9 _ _ _ (tb_out K.2.2.2.2.2 rfl) hx9.1 hx9.2.1 hx9.2.2)
  obtain ⟨r128, rfl, h, hGσ127, hS⟩ := hq
  intro H locs ls hH hl hc
  refine W.eq (g2 := F0 m 76 ls [va_rf r128]) (rfl) ?_
  try dsimp only at h
  obtain ⟨qt, h⟩ := h
  refine W.eq (g2 := F0 m 76 ls [.ref (ra 1)]) (by rw [qt]; rfl) ?_
  have hx9 := And.intro h (And.intro hGσ127 hS)
  refine h_athrow B hH hl hc (ci := 14) (hS.ob (k := 1) (ci := 14) (by decide)).1 (hS.ob (k := 1) (ci := 14) (by decide)).2 (by decide) rfl dX16_statement_76 ?_
  exact hX σ127 _ _ _ _ (tb_out K.2.2.2.2.2 rfl) hx9.1 hx9.2.1 hx9.2.2
set_option maxRecDepth 20000 in
theorem a_X16_statement_64 {Q : Sg → Unit → Prop} {X : Sg → String → Prop} (K : MC R p s m args c cX16_statement 3 RX16 D cA tys A n0 s0 144 10091 []) (hQ : HQV p l e R s m args below meth c cX16_statement D cA A n0 s0 QM dm ra jx rm Q) (hX : HX p l e R s m args below meth c 3 D cA A n0 s0 QM dm ra jx rm X) : ∀ (σ : Sg) (v1 : Int) (v2 : Int) (g1 : rng v1) (g2 : rng v2), w_X16_statement_64 ra jx rm Q X σ v1 v2 → RG σ → Shp dm ra jx rm σ → JJ p l e R s m args below meth c 3 D cA A n0 s0 QM σ 64 [(0, .ref rm), (1, .int (i32 v1)), (2, .int (i32 v2))] [] := by
  intro σ v1 v2 g1 g2 h hGσ hS H locs ls hH hl hc
  have B := K.1
  unfold w_X16_statement_64 at h
  refine lv_iload_n B.1 B.2.1 dX16_statement_64 rfl (lv_at hl 1 rfl) ?_
  refine lv_bipush (v := i32 16) B.1 B.2.1 dX16_statement_65 (by decide) ?_
  refine lv_icmp_ne (tgt := 77) B.1 B.2.1 dX16_statement_67 (by decide) (fun h9 => ?_) (fun h9 => ?_)
  · rw [if_pos (fun q => h9 ((i32_eq g1 (by unfold rng; omega)).mpr q))] at h
    exact a_X16_statement_77 K hQ hX _ _ _ g1 g2 h hGσ hS _ _ _ hH (lv_sub (l' := [(0, .ref rm), (1, .int (i32 v1)), (2, .int (i32 v2))]) hl [0, 1, 2] rfl) hc
  · rw [if_neg (fun q => q ((i32_eq g1 (by unfold rng; omega)).mp h9))] at h
    exact a_X16_statement_70 K hQ hX _ h hGσ hS _ _ _ hH (lv_sub (l' := [(0, .ref rm)]) hl [0] rfl) hc
set_option maxRecDepth 20000 in
theorem a_X16_statement_57 {Q : Sg → Unit → Prop} {X : Sg → String → Prop} (K : MC R p s m args c cX16_statement 3 RX16 D cA tys A n0 s0 144 10091 []) (hQ : HQV p l e R s m args below meth c cX16_statement D cA A n0 s0 QM dm ra jx rm Q) (hX : HX p l e R s m args below meth c 3 D cA A n0 s0 QM dm ra jx rm X) : ∀ (σ : Sg), w_X16_statement_57 ra jx rm Q X σ → RG σ → Shp dm ra jx rm σ → JJ p l e R s m args below meth c 3 D cA A n0 s0 QM σ 57 [(0, .ref rm)] [] := by
  intro σ h hGσ hS H locs ls hH hl hc
  have B := K.1
  unfold w_X16_statement_57 at h
  refine lv_aload_n B.1 B.2.1 dX16_statement_57 rfl (lv_at hl 0 rfl) ?_
  refine lv_bipush (v := i32 8) B.1 B.2.1 dX16_statement_58 (by decide) ?_
  refine c_V B hH hl hc K.2.2.1 (C := RX16) (T := TX16) (N := 123) (ci := 16) (As := [.int (i32 8)]) (ok_X16_fail K.2.1 σ 8 (by unfold rng; omega) hGσ hS h) wc_X16_65 1 hd_X16_fail ⟨Nat.le_trans (Nat.le_of_ble_eq_true rfl) K.2.2.2.1, Nat.le_trans (Nat.le_of_ble_eq_true rfl) K.2.2.2.2.1⟩ hS.1.1 hS.1.2 (by decide) rfl rfl (rest := []) rfl (Nat.le_of_ble_eq_true rfl) dX16_statement_60 (fun σ129 w hq => ?_) (fun σ9 E9 hx9 => hX σ9 E9 _ _ _ (tb_out K.2.2.2.2.2 rfl) hx9.1 hx9.2.1 hx9.2.2)
  obtain ⟨r130, rfl, h, hGσ129, hS⟩ := hq
  intro H locs ls hH hl hc
  refine W.eq (g2 := F0 m 63 ls [va_rf r130]) (rfl) ?_
  try dsimp only at h
  obtain ⟨qt, h⟩ := h
  refine W.eq (g2 := F0 m 63 ls [.ref (ra 1)]) (by rw [qt]; rfl) ?_
  have hx9 := And.intro h (And.intro hGσ129 hS)
  refine h_athrow B hH hl hc (ci := 14) (hS.ob (k := 1) (ci := 14) (by decide)).1 (hS.ob (k := 1) (ci := 14) (by decide)).2 (by decide) rfl dX16_statement_63 ?_
  exact hX σ129 _ _ _ _ (tb_out K.2.2.2.2.2 rfl) hx9.1 hx9.2.1 hx9.2.2
set_option maxRecDepth 20000 in
theorem a_X16_statement_46 {Q : Sg → Unit → Prop} {X : Sg → String → Prop} (K : MC R p s m args c cX16_statement 3 RX16 D cA tys A n0 s0 144 10091 []) (hQ : HQV p l e R s m args below meth c cX16_statement D cA A n0 s0 QM dm ra jx rm Q) (hX : HX p l e R s m args below meth c 3 D cA A n0 s0 QM dm ra jx rm X) : ∀ (σ : Sg) (v1 : Int) (v2 : Int) (g1 : rng v1) (g2 : rng v2), w_X16_statement_46 ra jx rm Q X σ v1 v2 → RG σ → Shp dm ra jx rm σ → JJ p l e R s m args below meth c 3 D cA A n0 s0 QM σ 46 [(0, .ref rm), (1, .int (i32 v1)), (2, .int (i32 v2))] [] := by
  intro σ v1 v2 g1 g2 h hGσ hS H locs ls hH hl hc
  have B := K.1
  unfold w_X16_statement_46 at h
  refine lv_aload_n B.1 B.2.1 dX16_statement_46 rfl (lv_at hl 0 rfl) ?_
  refine r_getp B hH hS 18 (by decide) wf_X16_118 rfl rfl dX16_statement_47 ?_
  obtain ⟨a131, ea131, ja131, h⟩ := h
  refine W.eq (g2 := F0 m 50 ls [.ref a131]) (by rw [ea131]; rfl) ?_
  refine n_geti B hH hS ja131 1 (by decide) (List.mem_of_getElem? (i := 1) rfl) rfl dX16_statement_50 ?_
  refine lv_iconst (v := i32 4) B.1 B.2.1 dX16_statement_53 (by decide) ?_
  refine lv_icmp_ne (tgt := 64) B.1 B.2.1 dX16_statement_54 (by decide) (fun h9 => ?_) (fun h9 => ?_)
  · rw [if_pos (fun q => h9 ((i32_eq (hGσ _ _) (by unfold rng; omega)).mpr q))] at h
    exact a_X16_statement_64 K hQ hX _ _ _ g1 g2 h hGσ hS _ _ _ hH (lv_sub (l' := [(0, .ref rm), (1, .int (i32 v1)), (2, .int (i32 v2))]) hl [0, 1, 2] rfl) hc
  · rw [if_neg (fun q => q ((i32_eq (hGσ _ _) (by unfold rng; omega)).mp h9))] at h
    exact a_X16_statement_57 K hQ hX _ h hGσ hS _ _ _ hH (lv_sub (l' := [(0, .ref rm)]) hl [0] rfl) hc
set_option maxRecDepth 20000 in
theorem a_X16_statement_42 {Q : Sg → Unit → Prop} {X : Sg → String → Prop} (K : MC R p s m args c cX16_statement 3 RX16 D cA tys A n0 s0 144 10091 []) (hQ : HQV p l e R s m args below meth c cX16_statement D cA A n0 s0 QM dm ra jx rm Q) (hX : HX p l e R s m args below meth c 3 D cA A n0 s0 QM dm ra jx rm X) : ∀ (σ : Sg) (v1 : Int) (v2 : Int) (g1 : rng v1) (g2 : rng v2), w_X16_statement_42 ra jx rm Q X σ v1 v2 → RG σ → Shp dm ra jx rm σ → JJ p l e R s m args below meth c 3 D cA A n0 s0 QM σ 42 [(0, .ref rm), (1, .int (i32 v1)), (2, .int (i32 v2))] [] := by
  intro σ v1 v2 g1 g2 h hGσ hS H locs ls hH hl hc
  have B := K.1
  unfold w_X16_statement_42 at h
  refine lv_iload_n B.1 B.2.1 dX16_statement_42 rfl (lv_at hl 2 rfl) ?_
  refine lv_if_eq (tgt := 64) B.1 B.2.1 dX16_statement_43 (by decide) (fun h9 => ?_) (fun h9 => ?_)
  · rw [if_pos ((z_eq g2).mp h9)] at h
    exact a_X16_statement_64 K hQ hX _ _ _ g1 g2 h hGσ hS _ _ _ hH (lv_sub (l' := [(0, .ref rm), (1, .int (i32 v1)), (2, .int (i32 v2))]) hl [0, 1, 2] rfl) hc
  · rw [if_neg (fun q => h9 ((z_eq g2).mpr q))] at h
    exact a_X16_statement_46 K hQ hX _ _ _ g1 g2 h hGσ hS _ _ _ hH (lv_sub (l' := [(0, .ref rm), (1, .int (i32 v1)), (2, .int (i32 v2))]) hl [0, 1, 2] rfl) hc
set_option maxRecDepth 20000 in
theorem a_X16_statement_35 {Q : Sg → Unit → Prop} {X : Sg → String → Prop} (K : MC R p s m args c cX16_statement 3 RX16 D cA tys A n0 s0 144 10091 []) (hQ : HQV p l e R s m args below meth c cX16_statement D cA A n0 s0 QM dm ra jx rm Q) (hX : HX p l e R s m args below meth c 3 D cA A n0 s0 QM dm ra jx rm X) : ∀ (σ : Sg), w_X16_statement_35 ra jx rm Q X σ → RG σ → Shp dm ra jx rm σ → JJ p l e R s m args below meth c 3 D cA A n0 s0 QM σ 35 [(0, .ref rm)] [] := by
  intro σ h hGσ hS H locs ls hH hl hc
  have B := K.1
  unfold w_X16_statement_35 at h
  refine lv_aload_n B.1 B.2.1 dX16_statement_35 rfl (lv_at hl 0 rfl) ?_
  refine lv_bipush (v := i32 6) B.1 B.2.1 dX16_statement_36 (by decide) ?_
  refine c_V B hH hl hc K.2.2.1 (C := RX16) (T := TX16) (N := 123) (ci := 16) (As := [.int (i32 6)]) (ok_X16_fail K.2.1 σ 6 (by unfold rng; omega) hGσ hS h) wc_X16_65 1 hd_X16_fail ⟨Nat.le_trans (Nat.le_of_ble_eq_true rfl) K.2.2.2.1, Nat.le_trans (Nat.le_of_ble_eq_true rfl) K.2.2.2.2.1⟩ hS.1.1 hS.1.2 (by decide) rfl rfl (rest := []) rfl (Nat.le_of_ble_eq_true rfl) dX16_statement_38 (fun σ132 w hq => ?_) (fun σ9 E9 hx9 => hX σ9 E9 _ _ _ (tb_out K.2.2.2.2.2 rfl) hx9.1 hx9.2.1 hx9.2.2)
  obtain ⟨r133, rfl, h, hGσ132, hS⟩ := hq
  intro H locs ls hH hl hc
  refine W.eq (g2 := F0 m 41 ls [va_rf r133]) (rfl) ?_
  try dsimp only at h
  obtain ⟨qt, h⟩ := h
  refine W.eq (g2 := F0 m 41 ls [.ref (ra 1)]) (by rw [qt]; rfl) ?_
  have hx9 := And.intro h (And.intro hGσ132 hS)
  refine h_athrow B hH hl hc (ci := 14) (hS.ob (k := 1) (ci := 14) (by decide)).1 (hS.ob (k := 1) (ci := 14) (by decide)).2 (by decide) rfl dX16_statement_41 ?_
  exact hX σ132 _ _ _ _ (tb_out K.2.2.2.2.2 rfl) hx9.1 hx9.2.1 hx9.2.2
set_option maxRecDepth 20000 in
theorem a_X16_statement_20 {Q : Sg → Unit → Prop} {X : Sg → String → Prop} (K : MC R p s m args c cX16_statement 3 RX16 D cA tys A n0 s0 144 10091 []) (hQ : HQV p l e R s m args below meth c cX16_statement D cA A n0 s0 QM dm ra jx rm Q) (hX : HX p l e R s m args below meth c 3 D cA A n0 s0 QM dm ra jx rm X) : ∀ (σ : Sg) (v1 : Int) (v2 : Int) (g1 : rng v1) (g2 : rng v2), w_X16_statement_20 ra jx rm Q X σ v1 v2 → RG σ → Shp dm ra jx rm σ → JJ p l e R s m args below meth c 3 D cA A n0 s0 QM σ 20 [(0, .ref rm), (1, .int (i32 v1)), (2, .int (i32 v2))] [] := by
  intro σ v1 v2 g1 g2 h hGσ hS H locs ls hH hl hc
  have B := K.1
  unfold w_X16_statement_20 at h
  refine lv_aload_n B.1 B.2.1 dX16_statement_20 rfl (lv_at hl 0 rfl) ?_
  refine r_getp B hH hS 18 (by decide) wf_X16_118 rfl rfl dX16_statement_21 ?_
  refine lv_aload_n B.1 B.2.1 dX16_statement_24 rfl (lv_at hl 0 rfl) ?_
  refine c_V B hH hl hc K.2.2.1 (C := RX16) (T := TX16) (N := 123) (ci := 16) (As := []) (ok_X16_seeName K.2.1 σ hGσ hS h) wc_X16_164 0 hd_X16_seeName ⟨Nat.le_trans (Nat.le_of_ble_eq_true rfl) K.2.2.2.1, Nat.le_trans (Nat.le_of_ble_eq_true rfl) K.2.2.2.2.1⟩ hS.1.1 hS.1.2 (by decide) rfl rfl (rest := [va_rf (gP σ rm 18)]) rfl (by simp only [List.map_cons, List.map_nil, rf_cat]; exact Nat.le_of_ble_eq_true rfl) dX16_statement_25 (fun σ134 w hq => ?_) (fun σ9 E9 hx9 => hX σ9 E9 _ _ _ (tb_out K.2.2.2.2.2 rfl) hx9.1 hx9.2.1 hx9.2.2)
  obtain ⟨r135, rfl, h, hGσ134, hS⟩ := hq
  intro H locs ls hH hl hc
  refine W.eq (g2 := F0 m 28 ls [.long r135, va_rf (gP σ rm 18)]) (rfl) ?_
  try dsimp only at h
  obtain ⟨a136, ea136, ja136, h⟩ := h
  refine W.eq (g2 := F0 m 28 ls [.long r135, .ref a136]) (by rw [ea136]; rfl) ?_
  refine c_V B hH hl hc K.2.2.1 (C := RX15) (T := TX15) (N := 20) (ci := 15) (As := [.long r135]) (ok_X15_find ja136 K.2.1 σ134 r135 hGσ134 hS h) wc_X16_171 1 hd_X15_find ⟨Nat.le_trans (Nat.le_of_ble_eq_true rfl) K.2.2.2.1, Nat.le_trans (Nat.le_of_ble_eq_true rfl) K.2.2.2.2.1⟩ (hS.jb ja136).1 (hS.jb ja136).2 (by decide) rfl rfl (rest := []) rfl (Nat.le_of_ble_eq_true rfl) dX16_statement_28 (fun σ137 w hq => ?_) (fun σ9 E9 hx9 => hX σ9 E9 _ _ _ (tb_out K.2.2.2.2.2 rfl) hx9.1 hx9.2.1 hx9.2.2)
  obtain ⟨r138, rfl, gr138, h, hGσ137, hS⟩ := hq
  intro H locs ls hH hl hc
  refine W.eq (g2 := F0 m 31 ls [.int (i32 r138)]) (rfl) ?_
  try dsimp only at h
  refine lv_iconst (v := i32 (-1)) B.1 B.2.1 dX16_statement_31 (by decide) ?_
  refine lv_icmp_eq (tgt := 42) B.1 B.2.1 dX16_statement_32 (by decide) (fun h9 => ?_) (fun h9 => ?_)
  · rw [if_pos ((i32_eq gr138 (by unfold rng; omega)).mp h9)] at h
    exact a_X16_statement_42 K hQ hX _ _ _ g1 g2 h hGσ137 hS _ _ _ hH (lv_sub (l' := [(0, .ref rm), (1, .int (i32 v1)), (2, .int (i32 v2))]) hl [0, 1, 2] rfl) hc
  · rw [if_neg (fun q => h9 ((i32_eq gr138 (by unfold rng; omega)).mpr q))] at h
    exact a_X16_statement_35 K hQ hX _ h hGσ137 hS _ _ _ hH (lv_sub (l' := [(0, .ref rm)]) hl [0] rfl) hc
set_option maxRecDepth 20000 in
theorem a_X16_statement_0 {Q : Sg → Unit → Prop} {X : Sg → String → Prop} (K : MC R p s m args c cX16_statement 3 RX16 D cA tys A n0 s0 144 10091 []) (hQ : HQV p l e R s m args below meth c cX16_statement D cA A n0 s0 QM dm ra jx rm Q) (hX : HX p l e R s m args below meth c 3 D cA A n0 s0 QM dm ra jx rm X) : ∀ (σ : Sg), w_X16_statement_0 ra jx rm Q X σ → RG σ → Shp dm ra jx rm σ → JJ p l e R s m args below meth c 3 D cA A n0 s0 QM σ 0 [(0, .ref rm)] [] := by
  intro σ h hGσ hS H locs ls hH hl hc
  have B := K.1
  unfold w_X16_statement_0 at h
  refine lv_aload_n B.1 B.2.1 dX16_statement_0 rfl (lv_at hl 0 rfl) ?_
  refine r_getp B hH hS 18 (by decide) wf_X16_118 rfl rfl dX16_statement_1 ?_
  obtain ⟨a139, ea139, ja139, h⟩ := h
  refine W.eq (g2 := F0 m 4 ls [.ref a139]) (by rw [ea139]; rfl) ?_
  refine n_geti B hH hS ja139 0 (by decide) (List.mem_of_getElem? (i := 0) rfl) rfl dX16_statement_4 ?_
  refine lv_istore_n (lv' := [(1, .int (i32 (gI σ a139 0))), (0, .ref rm)]) B.1 B.2.1 dX16_statement_7 rfl hl (by decide) rfl (fun ls hl => ?_)
  refine lv_aload_n B.1 B.2.1 dX16_statement_8 rfl (lv_at hl 1 rfl) ?_
  refine xs_ldcw B.1 B.2.1 B.2.2.1 (B.2.2.2.2.2.2.2.2.2.2.1 _ (List.mem_of_getElem? (l := stL) (i := 26) rfl)).1 dX16_statement_9 ?_
  refine c_V B hH hl hc K.2.2.1 (C := RX16) (T := TX16) (N := 123) (ci := 16) (As := [.ref (cA (1000 + 319))]) (ok_X16_isWord K.2.1 σ 319 st_319 hGσ hS h) wc_X16_103 1 hd_X16_isWord ⟨Nat.le_trans (Nat.le_of_ble_eq_true rfl) K.2.2.2.1, Nat.le_trans (Nat.le_of_ble_eq_true rfl) K.2.2.2.2.1⟩ hS.1.1 hS.1.2 (by decide) rfl rfl (rest := []) rfl (Nat.le_of_ble_eq_true rfl) dX16_statement_12 (fun σ140 w hq => ?_) (fun σ9 E9 hx9 => hX σ9 E9 _ _ _ (tb_out K.2.2.2.2.2 rfl) hx9.1 hx9.2.1 hx9.2.2)
  obtain ⟨r141, rfl, ⟨gr141, gzr141⟩, h, hGσ140, hS⟩ := hq
  intro H locs ls hH hl hc
  refine W.eq (g2 := F0 m 15 ls [.int (i32 r141)]) (rfl) ?_
  try dsimp only at h
  refine lv_istore_n (lv' := [(2, .int (i32 r141)), (1, .int (i32 (gI σ a139 0))), (0, .ref rm)]) B.1 B.2.1 dX16_statement_15 rfl hl (by decide) rfl (fun ls hl => ?_)
  refine lv_iload_n B.1 B.2.1 dX16_statement_16 rfl (lv_at hl 0 rfl) ?_
  refine lv_if_ne (tgt := 42) B.1 B.2.1 dX16_statement_17 (by decide) (fun h9 => ?_) (fun h9 => ?_)
  · rw [if_pos (fun q => h9 ((z_eq gr141).mpr q))] at h
    exact a_X16_statement_42 K hQ hX _ _ _ (hGσ _ _) gr141 h hGσ140 hS _ _ _ hH (lv_sub (l' := [(0, .ref rm), (1, .int (i32 (gI σ a139 0))), (2, .int (i32 r141))]) hl [2, 1, 0] rfl) hc
  · rw [if_neg (fun q => q ((z_eq gr141).mp h9))] at h
    exact a_X16_statement_20 K hQ hX _ _ _ (hGσ _ _) gr141 h hGσ140 hS _ _ _ hH (lv_sub (l' := [(0, .ref rm), (1, .int (i32 (gI σ a139 0))), (2, .int (i32 r141))]) hl [2, 1, 0] rfl) hc
theorem ok_X16_statement (hT : Tys cA tys) {Q : Sg → Unit → Prop} {X : Sg → String → Prop} (σ : Sg) (hG : RG σ) (hS : Shp dm ra jx rm σ) (h : wp_X16_statement ra jx rm σ Q X) : Ok l D cA tys A yX16_statement (.code yX16_statement cX16_statement 3 none) 144 10091 [.ref rm] σ (QnV dm ra jx rm Q) (QxR dm ra jx rm X) := by
  unfold wp_X16_statement at h
  exact ok_V (plainFor_of_name (by decide)) (by exact Nat.le_of_ble_eq_true rfl) hT (fun p e R s m args below meth c K hQ hX H locs ls hH hl hc => a_X16_statement_0 K hQ hX σ h hG hS H locs ls hH (lv_sub (l' := [(0, .ref rm)]) hl [0] rfl) hc)
theorem dX16_job_0 : decode cX16_job 0 = .ok (.aload_n 0, 1) := by decide +kernel
theorem dX16_job_1 : decode cX16_job 1 = .ok (.aload_n 0, 1) := by decide +kernel
theorem dX16_job_2 : decode cX16_job 2 = .ok (.getfield 972, 3) := by decide +kernel
theorem dX16_job_5 : decode cX16_job 5 = .ok (.putfield 31, 3) := by decide +kernel
theorem dX16_job_8 : decode cX16_job 8 = .ok (.aload_n 0, 1) := by decide +kernel
theorem dX16_job_9 : decode cX16_job 9 = .ok (.iconst 0, 1) := by decide +kernel
theorem dX16_job_10 : decode cX16_job 10 = .ok (.putfield 972, 3) := by decide +kernel
theorem dX16_job_13 : decode cX16_job 13 = .ok (.aload_n 0, 1) := by decide +kernel
theorem dX16_job_14 : decode cX16_job 14 = .ok (.aload_n 0, 1) := by decide +kernel
theorem dX16_job_15 : decode cX16_job 15 = .ok (.getfield 688, 3) := by decide +kernel
theorem dX16_job_18 : decode cX16_job 18 = .ok (.ifCond .eq 7, 3) := by decide +kernel
theorem dX16_job_21 : decode cX16_job 21 = .ok (.iconst 1, 1) := by decide +kernel
theorem dX16_job_22 : decode cX16_job 22 = .ok (.goto 4, 3) := by decide +kernel
theorem dX16_job_25 : decode cX16_job 25 = .ok (.iconst 0, 1) := by decide +kernel
theorem dX16_job_26 : decode cX16_job 26 = .ok (.putfield 1, 3) := by decide +kernel
theorem dX16_job_29 : decode cX16_job 29 = .ok (.aload_n 0, 1) := by decide +kernel
theorem dX16_job_30 : decode cX16_job 30 = .ok (.getfield 1, 3) := by decide +kernel
theorem dX16_job_33 : decode cX16_job 33 = .ok (.ifCond .le 5, 3) := by decide +kernel
theorem dX16_job_36 : decode cX16_job 36 = .ok (.iconst 0, 1) := by decide +kernel
theorem dX16_job_37 : decode cX16_job 37 = .ok (.ireturn, 1) := by decide +kernel
theorem dX16_job_38 : decode cX16_job 38 = .ok (.aload_n 0, 1) := by decide +kernel
theorem dX16_job_39 : decode cX16_job 39 = .ok (.iconst 0, 1) := by decide +kernel
theorem dX16_job_40 : decode cX16_job 40 = .ok (.putfield 28, 3) := by decide +kernel
theorem dX16_job_43 : decode cX16_job 43 = .ok (.aload_n 0, 1) := by decide +kernel
theorem dX16_job_44 : decode cX16_job 44 = .ok (.iconst 0, 1) := by decide +kernel
theorem dX16_job_45 : decode cX16_job 45 = .ok (.putfield 24, 3) := by decide +kernel
theorem dX16_job_48 : decode cX16_job 48 = .ok (.aload_n 0, 1) := by decide +kernel
theorem dX16_job_49 : decode cX16_job 49 = .ok (.aload_n 0, 1) := by decide +kernel
theorem dX16_job_50 : decode cX16_job 50 = .ok (.getfield 356, 3) := by decide +kernel
theorem dX16_job_53 : decode cX16_job 53 = .ok (.aload_n 0, 1) := by decide +kernel
theorem dX16_job_54 : decode cX16_job 54 = .ok (.getfield 954, 3) := by decide +kernel
theorem dX16_job_57 : decode cX16_job 57 = .ok (.if_acmp .ne 10, 3) := by decide +kernel
theorem dX16_job_60 : decode cX16_job 60 = .ok (.aload_n 0, 1) := by decide +kernel
theorem dX16_job_61 : decode cX16_job 61 = .ok (.getfield 957, 3) := by decide +kernel
theorem dX16_job_64 : decode cX16_job 64 = .ok (.goto 7, 3) := by decide +kernel
theorem dX16_job_67 : decode cX16_job 67 = .ok (.aload_n 0, 1) := by decide +kernel
theorem dX16_job_68 : decode cX16_job 68 = .ok (.getfield 954, 3) := by decide +kernel
theorem dX16_job_71 : decode cX16_job 71 = .ok (.putfield 118, 3) := by decide +kernel
theorem dX16_job_74 : decode cX16_job 74 = .ok (.aload_n 0, 1) := by decide +kernel
theorem dX16_job_75 : decode cX16_job 75 = .ok (.getfield 118, 3) := by decide +kernel
theorem dX16_job_78 : decode cX16_job 78 = .ok (.invokevirtual 975, 3) := by decide +kernel
theorem dX16_job_81 : decode cX16_job 81 = .ok (.aload_n 0, 1) := by decide +kernel
theorem dX16_job_82 : decode cX16_job 82 = .ok (.iconst 0, 1) := by decide +kernel
theorem dX16_job_83 : decode cX16_job 83 = .ok (.putfield 7, 3) := by decide +kernel
theorem dX16_job_86 : decode cX16_job 86 = .ok (.aload_n 0, 1) := by decide +kernel
theorem dX16_job_87 : decode cX16_job 87 = .ok (.invokevirtual 76, 3) := by decide +kernel
theorem dX16_job_90 : decode cX16_job 90 = .ok (.aload_n 0, 1) := by decide +kernel
theorem dX16_job_91 : decode cX16_job 91 = .ok (.getfield 38, 3) := by decide +kernel
theorem dX16_job_94 : decode cX16_job 94 = .ok (.iconst 3, 1) := by decide +kernel
theorem dX16_job_95 : decode cX16_job 95 = .ok (.if_icmp .ne 13, 3) := by decide +kernel
theorem dX16_job_98 : decode cX16_job 98 = .ok (.aload_n 0, 1) := by decide +kernel
theorem dX16_job_99 : decode cX16_job 99 = .ok (.getfield 118, 3) := by decide +kernel
theorem dX16_job_102 : decode cX16_job 102 = .ok (.getfield 321, 3) := by decide +kernel
theorem dX16_job_105 : decode cX16_job 105 = .ok (.ifCond .ne 28, 3) := by decide +kernel
theorem dX16_job_108 : decode cX16_job 108 = .ok (.aload_n 0, 1) := by decide +kernel
theorem dX16_job_109 : decode cX16_job 109 = .ok (.getfield 38, 3) := by decide +kernel
theorem dX16_job_112 : decode cX16_job 112 = .ok (.iconst 3, 1) := by decide +kernel
theorem dX16_job_113 : decode cX16_job 113 = .ok (.if_icmp .ne 9, 3) := by decide +kernel
theorem dX16_job_116 : decode cX16_job 116 = .ok (.aload_n 0, 1) := by decide +kernel
theorem dX16_job_117 : decode cX16_job 117 = .ok (.iconst 3, 1) := by decide +kernel
theorem dX16_job_118 : decode cX16_job 118 = .ok (.invokevirtual 65, 3) := by decide +kernel
theorem dX16_job_121 : decode cX16_job 121 = .ok (.athrow, 1) := by decide +kernel
theorem dX16_job_122 : decode cX16_job 122 = .ok (.aload_n 0, 1) := by decide +kernel
theorem dX16_job_123 : decode cX16_job 123 = .ok (.invokevirtual 976, 3) := by decide +kernel
theorem dX16_job_126 : decode cX16_job 126 = .ok (.aload_n 0, 1) := by decide +kernel
theorem dX16_job_127 : decode cX16_job 127 = .ok (.invokevirtual 76, 3) := by decide +kernel
theorem dX16_job_130 : decode cX16_job 130 = .ok (.goto (-40), 3) := by decide +kernel
theorem dX16_job_133 : decode cX16_job 133 = .ok (.goto 11, 3) := by decide +kernel
theorem dX16_job_136 : decode cX16_job 136 = .ok (.astore_n 1, 1) := by decide +kernel
theorem dX16_job_137 : decode cX16_job 137 = .ok (.iconst (-1), 1) := by decide +kernel
theorem dX16_job_138 : decode cX16_job 138 = .ok (.aload_n 0, 1) := by decide +kernel
theorem dX16_job_139 : decode cX16_job 139 = .ok (.getfield 13, 3) := by decide +kernel
theorem dX16_job_142 : decode cX16_job 142 = .ok (.isub, 1) := by decide +kernel
theorem dX16_job_143 : decode cX16_job 143 = .ok (.ireturn, 1) := by decide +kernel
theorem dX16_job_144 : decode cX16_job 144 = .ok (.aload_n 0, 1) := by decide +kernel
theorem dX16_job_145 : decode cX16_job 145 = .ok (.aload_n 0, 1) := by decide +kernel
theorem dX16_job_146 : decode cX16_job 146 = .ok (.getfield 118, 3) := by decide +kernel
theorem dX16_job_149 : decode cX16_job 149 = .ok (.putfield 356, 3) := by decide +kernel
theorem dX16_job_152 : decode cX16_job 152 = .ok (.aload_n 0, 1) := by decide +kernel
theorem dX16_job_153 : decode cX16_job 153 = .ok (.invokevirtual 979, 3) := by decide +kernel
theorem dX16_job_156 : decode cX16_job 156 = .ok (.iconst 0, 1) := by decide +kernel
theorem dX16_job_157 : decode cX16_job 157 = .ok (.istore_n 1, 1) := by decide +kernel
theorem dX16_job_158 : decode cX16_job 158 = .ok (.iload_n 1, 1) := by decide +kernel
theorem dX16_job_159 : decode cX16_job 159 = .ok (.iconst 4, 1) := by decide +kernel
theorem dX16_job_160 : decode cX16_job 160 = .ok (.if_icmp .ge 23, 3) := by decide +kernel
theorem dX16_job_163 : decode cX16_job 163 = .ok (.aload_n 0, 1) := by decide +kernel
theorem dX16_job_164 : decode cX16_job 164 = .ok (.getfield 763, 3) := by decide +kernel
theorem dX16_job_167 : decode cX16_job 167 = .ok (.iload_n 1, 1) := by decide +kernel
theorem dX16_job_168 : decode cX16_job 168 = .ok (.iconst 0, 1) := by decide +kernel
theorem dX16_job_169 : decode cX16_job 169 = .ok (.iastore, 1) := by decide +kernel
theorem dX16_job_170 : decode cX16_job 170 = .ok (.aload_n 0, 1) := by decide +kernel
theorem dX16_job_171 : decode cX16_job 171 = .ok (.getfield 779, 3) := by decide +kernel
theorem dX16_job_174 : decode cX16_job 174 = .ok (.iload_n 1, 1) := by decide +kernel
theorem dX16_job_175 : decode cX16_job 175 = .ok (.iconst 0, 1) := by decide +kernel
theorem dX16_job_176 : decode cX16_job 176 = .ok (.bastore, 1) := by decide +kernel
theorem dX16_job_177 : decode cX16_job 177 = .ok (.iinc 1 1, 3) := by decide +kernel
theorem dX16_job_180 : decode cX16_job 180 = .ok (.goto (-22), 3) := by decide +kernel
theorem dX16_job_183 : decode cX16_job 183 = .ok (.aload_n 0, 1) := by decide +kernel
theorem dX16_job_184 : decode cX16_job 184 = .ok (.getfield 356, 3) := by decide +kernel
theorem dX16_job_187 : decode cX16_job 187 = .ok (.getfield 316, 3) := by decide +kernel
theorem dX16_job_190 : decode cX16_job 190 = .ok (.ireturn, 1) := by decide +kernel
set_option maxRecDepth 20000 in
theorem a_X16_job_136 {Q : Sg → Int → Prop} {X : Sg → String → Prop} (K : MC R p s m args c cX16_job 2 RX16 D cA tys A n0 s0 145 10113 [(86, 133, 136, 948)]) (hQ : HQI p l e R s m args below meth c cX16_job D cA A n0 s0 QM dm ra jx rm Q) (hX : HX p l e R s m args below meth c 2 D cA A n0 s0 QM dm ra jx rm X) : ∀ (σ : Sg) (u0 : Option Nat), w_X16_job_136 ra jx rm Q X σ u0 → RG σ → Shp dm ra jx rm σ → JJ p l e R s m args below meth c 2 D cA A n0 s0 QM σ 136 [(0, .ref rm)] [va_rf u0] := by
  intro σ u0 h hGσ hS H locs ls hH hl hc
  have B := K.1
  unfold w_X16_job_136 at h
  refine lv_astore_nQ (lv' := [(1, va_rf u0), (0, .ref rm)]) B.1 B.2.1 dX16_job_136 rfl hl (by decide) rfl (fun ls hl => ?_)
  refine lv_iconst (v := i32 (-1)) B.1 B.2.1 dX16_job_137 (by decide) ?_
  refine lv_aload_n B.1 B.2.1 dX16_job_138 rfl (lv_at hl 1 rfl) ?_
  refine r_geti B hH hS 5 (by decide) wf_X16_13 rfl rfl dX16_job_139 ?_
  obtain ⟨q1, h⟩ := h
  refine lv_isub B.1 B.2.1 dX16_job_142 ?_
  rw [i32_sub]
  exact hQ _ _ _ _ _ _ q1 dX16_job_143 hH hc h hGσ hS
set_option maxRecDepth 20000 in
theorem a_X16_job_122 {Q : Sg → Int → Prop} {X : Sg → String → Prop} (K : MC R p s m args c cX16_job 2 RX16 D cA tys A n0 s0 145 10113 [(86, 133, 136, 948)]) (hQ : HQI p l e R s m args below meth c cX16_job D cA A n0 s0 QM dm ra jx rm Q) (hX : HX p l e R s m args below meth c 2 D cA A n0 s0 QM dm ra jx rm X) {K90 : Sg → Prop} (hK90 : ∀ (σ : Sg), K90 σ → RG σ → Shp dm ra jx rm σ → JJ p l e R s m args below meth c 2 D cA A n0 s0 QM σ 90 [(0, .ref rm)] []) : ∀ (σ : Sg), w_X16_job_122 ra jx rm K90 Q X σ → RG σ → Shp dm ra jx rm σ → JJ p l e R s m args below meth c 2 D cA A n0 s0 QM σ 122 [(0, .ref rm)] [] := by
  intro σ h hGσ hS H locs ls hH hl hc
  have B := K.1
  unfold w_X16_job_122 at h
  refine lv_aload_n B.1 B.2.1 dX16_job_122 rfl (lv_at hl 0 rfl) ?_
  refine c_V B hH hl hc K.2.2.1 (C := RX16) (T := TX16) (N := 123) (ci := 16) (As := []) (ok_X16_statement K.2.1 σ hGσ hS h) wc_X16_976 0 hd_X16_statement ⟨Nat.le_trans (Nat.le_of_ble_eq_true rfl) K.2.2.2.1, Nat.le_trans (Nat.le_of_ble_eq_true rfl) K.2.2.2.2.1⟩ hS.1.1 hS.1.2 (by decide) rfl rfl (rest := []) rfl (Nat.le_of_ble_eq_true rfl) dX16_job_123 (fun σ41 w hq => ?_) (fun σ9 E9 hx9 => (by obtain ⟨⟨rfl, h⟩, hG9, hS9⟩ := hx9; exact h_catchP B [] (K.2.2.2.2.2.trans rfl) rfl rfl (by decide) wl_X16_948 (by decide) (fun q9 H locs ls hH hl hc => a_X16_job_136 K hQ hX σ9 (some q9) (h (some q9)) hG9 hS9 H locs ls hH (lv_sub (l' := [(0, .ref rm)]) hl [0] rfl) hc)))
  obtain ⟨rfl, h, hGσ41, hS⟩ := hq
  intro H locs ls hH hl hc
  refine W.eq (g2 := F0 m 126 ls []) (rfl) ?_
  try dsimp only at h
  refine lv_aload_n B.1 B.2.1 dX16_job_126 rfl (lv_at hl 0 rfl) ?_
  refine c_V B hH hl hc K.2.2.1 (C := RX16) (T := TX16) (N := 123) (ci := 16) (As := []) (ok_X16_see K.2.1 σ41 hGσ41 hS h) wc_X16_76 0 hd_X16_see ⟨Nat.le_trans (Nat.le_of_ble_eq_true rfl) K.2.2.2.1, Nat.le_trans (Nat.le_of_ble_eq_true rfl) K.2.2.2.2.1⟩ hS.1.1 hS.1.2 (by decide) rfl rfl (rest := []) rfl (Nat.le_of_ble_eq_true rfl) dX16_job_127 (fun σ42 w hq => ?_) (fun σ9 E9 hx9 => (by obtain ⟨⟨rfl, h⟩, hG9, hS9⟩ := hx9; exact h_catchP B [] (K.2.2.2.2.2.trans rfl) rfl rfl (by decide) wl_X16_948 (by decide) (fun q9 H locs ls hH hl hc => a_X16_job_136 K hQ hX σ9 (some q9) (h (some q9)) hG9 hS9 H locs ls hH (lv_sub (l' := [(0, .ref rm)]) hl [0] rfl) hc)))
  obtain ⟨rfl, h, hGσ42, hS⟩ := hq
  intro H locs ls hH hl hc
  refine W.eq (g2 := F0 m 130 ls []) (rfl) ?_
  try dsimp only at h
  refine lv_goto (tgt := 90) B.1 B.2.1 dX16_job_130 (by decide) ?_
  exact hK90 _ h hGσ42 hS _ _ _ hH (lv_sub (l' := [(0, .ref rm)]) hl [0] rfl) hc
set_option maxRecDepth 20000 in
theorem a_X16_job_116 {Q : Sg → Int → Prop} {X : Sg → String → Prop} (K : MC R p s m args c cX16_job 2 RX16 D cA tys A n0 s0 145 10113 [(86, 133, 136, 948)]) (hQ : HQI p l e R s m args below meth c cX16_job D cA A n0 s0 QM dm ra jx rm Q) (hX : HX p l e R s m args below meth c 2 D cA A n0 s0 QM dm ra jx rm X) : ∀ (σ : Sg), w_X16_job_116 ra jx rm Q X σ → RG σ → Shp dm ra jx rm σ → JJ p l e R s m args below meth c 2 D cA A n0 s0 QM σ 116 [(0, .ref rm)] [] := by
  intro σ h hGσ hS H locs ls hH hl hc
  have B := K.1
  unfold w_X16_job_116 at h
  refine lv_aload_n B.1 B.2.1 dX16_job_116 rfl (lv_at hl 0 rfl) ?_
  refine lv_iconst (v := i32 3) B.1 B.2.1 dX16_job_117 (by decide) ?_
  refine c_V B hH hl hc K.2.2.1 (C := RX16) (T := TX16) (N := 123) (ci := 16) (As := [.int (i32 3)]) (ok_X16_fail K.2.1 σ 3 (by unfold rng; omega) hGσ hS h) wc_X16_65 1 hd_X16_fail ⟨Nat.le_trans (Nat.le_of_ble_eq_true rfl) K.2.2.2.1, Nat.le_trans (Nat.le_of_ble_eq_true rfl) K.2.2.2.2.1⟩ hS.1.1 hS.1.2 (by decide) rfl rfl (rest := []) rfl (Nat.le_of_ble_eq_true rfl) dX16_job_118 (fun σ43 w hq => ?_) (fun σ9 E9 hx9 => (by obtain ⟨⟨rfl, h⟩, hG9, hS9⟩ := hx9; exact h_catchP B [] (K.2.2.2.2.2.trans rfl) rfl rfl (by decide) wl_X16_948 (by decide) (fun q9 H locs ls hH hl hc => a_X16_job_136 K hQ hX σ9 (some q9) (h (some q9)) hG9 hS9 H locs ls hH (lv_sub (l' := [(0, .ref rm)]) hl [0] rfl) hc)))
  obtain ⟨r44, rfl, h, hGσ43, hS⟩ := hq
  intro H locs ls hH hl hc
  refine W.eq (g2 := F0 m 121 ls [va_rf r44]) (rfl) ?_
  try dsimp only at h
  obtain ⟨qt, h⟩ := h
  refine W.eq (g2 := F0 m 121 ls [.ref (ra 1)]) (by rw [qt]; rfl) ?_
  have hx9 := And.intro h (And.intro hGσ43 hS)
  refine h_athrow B hH hl hc (ci := 14) (hS.ob (k := 1) (ci := 14) (by decide)).1 (hS.ob (k := 1) (ci := 14) (by decide)).2 (by decide) rfl dX16_job_121 ?_
  exact (by obtain ⟨⟨-, h⟩, hG9, hS9⟩ := hx9; exact h_catchP B [] (K.2.2.2.2.2.trans rfl) rfl rfl (by decide) wl_X16_948 (by decide) (fun q9 H locs ls hH hl hc => a_X16_job_136 K hQ hX σ43 (some q9) (h (some q9)) hG9 hS9 H locs ls hH (lv_sub (l' := [(0, .ref rm)]) hl [0] rfl) hc))
set_option maxRecDepth 20000 in
theorem a_X16_job_108 {Q : Sg → Int → Prop} {X : Sg → String → Prop} (K : MC R p s m args c cX16_job 2 RX16 D cA tys A n0 s0 145 10113 [(86, 133, 136, 948)]) (hQ : HQI p l e R s m args below meth c cX16_job D cA A n0 s0 QM dm ra jx rm Q) (hX : HX p l e R s m args below meth c 2 D cA A n0 s0 QM dm ra jx rm X) {K90 : Sg → Prop} (hK90 : ∀ (σ : Sg), K90 σ → RG σ → Shp dm ra jx rm σ → JJ p l e R s m args below meth c 2 D cA A n0 s0 QM σ 90 [(0, .ref rm)] []) : ∀ (σ : Sg), w_X16_job_108 ra jx rm K90 Q X σ → RG σ → Shp dm ra jx rm σ → JJ p l e R s m args below meth c 2 D cA A n0 s0 QM σ 108 [(0, .ref rm)] [] := by
  intro σ h hGσ hS H locs ls hH hl hc
  have B := K.1
  unfold w_X16_job_108 at h
  refine lv_aload_n B.1 B.2.1 dX16_job_108 rfl (lv_at hl 0 rfl) ?_
  refine r_geti B hH hS 9 (by decide) wf_X16_38 rfl rfl dX16_job_109 ?_
  refine lv_iconst (v := i32 3) B.1 B.2.1 dX16_job_112 (by decide) ?_
  refine lv_icmp_ne (tgt := 122) B.1 B.2.1 dX16_job_113 (by decide) (fun h9 => ?_) (fun h9 => ?_)
  · rw [if_pos (fun q => h9 ((i32_eq (hGσ _ _) (by unfold rng; omega)).mpr q))] at h
    exact a_X16_job_122 K hQ hX hK90 _ h hGσ hS _ _ _ hH (lv_sub (l' := [(0, .ref rm)]) hl [0] rfl) hc
  · rw [if_neg (fun q => q ((i32_eq (hGσ _ _) (by unfold rng; omega)).mp h9))] at h
    exact a_X16_job_116 K hQ hX _ h hGσ hS _ _ _ hH (lv_sub (l' := [(0, .ref rm)]) hl [0] rfl) hc
set_option maxRecDepth 20000 in
theorem a_X16_job_183 {Q : Sg → Int → Prop} {X : Sg → String → Prop} (K : MC R p s m args c cX16_job 2 RX16 D cA tys A n0 s0 145 10113 [(86, 133, 136, 948)]) (hQ : HQI p l e R s m args below meth c cX16_job D cA A n0 s0 QM dm ra jx rm Q) (hX : HX p l e R s m args below meth c 2 D cA A n0 s0 QM dm ra jx rm X) : ∀ (σ : Sg), w_X16_job_183 ra jx rm Q X σ → RG σ → Shp dm ra jx rm σ → JJ p l e R s m args below meth c 2 D cA A n0 s0 QM σ 183 [(0, .ref rm)] [] := by
  intro σ h hGσ hS H locs ls hH hl hc
  have B := K.1
  unfold w_X16_job_183 at h
  refine lv_aload_n B.1 B.2.1 dX16_job_183 rfl (lv_at hl 0 rfl) ?_
  refine r_getp B hH hS 17 (by decide) wf_X16_356 rfl rfl dX16_job_184 ?_
  obtain ⟨a45, ea45, ja45, h⟩ := h
  refine W.eq (g2 := F0 m 187 ls [.ref a45]) (by rw [ea45]; rfl) ?_
  refine n_geti B hH hS ja45 0 (by decide) (List.mem_of_getElem? (i := 0) rfl) rfl dX16_job_187 ?_
  exact hQ _ _ _ _ _ _ (hGσ _ _) dX16_job_190 hH hc h hGσ hS
set_option maxRecDepth 20000 in
theorem a_X16_job_163 {Q : Sg → Int → Prop} {X : Sg → String → Prop} (K : MC R p s m args c cX16_job 2 RX16 D cA tys A n0 s0 145 10113 [(86, 133, 136, 948)]) (hQ : HQI p l e R s m args below meth c cX16_job D cA A n0 s0 QM dm ra jx rm Q) (hX : HX p l e R s m args below meth c 2 D cA A n0 s0 QM dm ra jx rm X) {K158 : Sg → Int → Prop} (hK158 : ∀ (σ : Sg) (v1 : Int) (g1 : rng v1), K158 σ v1 → RG σ → Shp dm ra jx rm σ → JJ p l e R s m args below meth c 2 D cA A n0 s0 QM σ 158 [(0, .ref rm), (1, .int (i32 v1))] []) : ∀ (σ : Sg) (v1 : Int) (g1 : rng v1), w_X16_job_163 ra jx rm K158 Q X σ v1 → RG σ → Shp dm ra jx rm σ → JJ p l e R s m args below meth c 2 D cA A n0 s0 QM σ 163 [(0, .ref rm), (1, .int (i32 v1))] [] := by
  intro σ v1 g1 h hGσ hS H locs ls hH hl hc
  have B := K.1
  unfold w_X16_job_163 at h
  refine lv_aload_n B.1 B.2.1 dX16_job_163 rfl (lv_at hl 0 rfl) ?_
  refine r_arr B hH hS 22 (kd := 100) (n := 4) (by decide) (by decide) wf_X16_763 rfl rfl dX16_job_164 ?_
  refine lv_iload_n B.1 B.2.1 dX16_job_167 rfl (lv_at hl 1 rfl) ?_
  refine lv_iconst (v := i32 0) B.1 B.2.1 dX16_job_168 (by decide) ?_
  obtain ⟨q1, h⟩ := h
  obtain ⟨σ46, eσ46⟩ : ∃ z, z = pI σ (ra 22) v1.toNat 0 := ⟨_, rfl⟩
  have h := h σ46 eσ46
  refine x_iast B K.2.1 hH (hS.ar (k := 22) (kd := 100) (n := 4) (by decide)) (by decide) q1 dX16_job_169 (fun H locs hH => ?_)
  have hH : Hd D cA A s (pI σ (ra 22) v1.toNat 0) H locs := hH
  rw [← eσ46] at hH
  have hGσ46 : RG σ46 := by rw [eσ46]; exact hGσ.pI (by unfold rng; omega)
  have hS : Shp dm ra jx rm σ46 := by rw [eσ46]; exact hS
  have hc : CB n0 s0 σ46 := by rw [eσ46]; exact hc
  rw [show gc σ = gc σ46 by rw [eσ46], show gs σ = gs σ46 by rw [eσ46]]
  refine lv_aload_n B.1 B.2.1 dX16_job_170 rfl (lv_at hl 0 rfl) ?_
  refine r_arr B hH hS 25 (kd := 103) (n := 4) (by decide) (by decide) wf_X16_779 rfl rfl dX16_job_171 ?_
  refine lv_iload_n B.1 B.2.1 dX16_job_174 rfl (lv_at hl 1 rfl) ?_
  refine lv_iconst (v := i32 0) B.1 B.2.1 dX16_job_175 (by decide) ?_
  obtain ⟨q3, h⟩ := h
  obtain ⟨σ47, eσ47⟩ : ∃ z, z = pI σ46 (ra 25) v1.toNat (nZ 0) := ⟨_, rfl⟩
  have h := h σ47 eσ47
  refine x_zast B K.2.1 hH (hS.ar (k := 25) (kd := 103) (n := 4) (by decide)) (by decide) q3 dX16_job_176 (fun H locs hH => ?_)
  have hH : Hd D cA A s (pI σ46 (ra 25) v1.toNat (nZ 0)) H locs := hH
  rw [← eσ47] at hH
  have hGσ47 : RG σ47 := by rw [eσ47]; exact hGσ46.pI (rng_toInt _)
  have hS : Shp dm ra jx rm σ47 := by rw [eσ47]; exact hS
  have hc : CB n0 s0 σ47 := by rw [eσ47]; exact hc
  rw [show gc σ46 = gc σ47 by rw [eσ47], show gs σ46 = gs σ47 by rw [eσ47]]
  obtain ⟨q5, h⟩ := h
  refine lv_iinc (k := 1) (v := i32 (v1 + 1)) (lv' := [(1, .int (i32 (v1 + 1))), (0, .ref rm)]) B.1 B.2.1 dX16_job_177 hl rfl (i32_add _ _) (by decide) rfl (fun ls hl => ?_)
  refine lv_goto (tgt := 158) B.1 B.2.1 dX16_job_180 (by decide) ?_
  exact hK158 _ _ q5 h hGσ47 hS _ _ _ hH (lv_sub (l' := [(0, .ref rm), (1, .int (i32 (v1 + 1)))]) hl [1, 0] rfl) hc
set_option maxRecDepth 20000 in
theorem a_X16_job_158 {Q : Sg → Int → Prop} {X : Sg → String → Prop} (K : MC R p s m args c cX16_job 2 RX16 D cA tys A n0 s0 145 10113 [(86, 133, 136, 948)]) (hQ : HQI p l e R s m args below meth c cX16_job D cA A n0 s0 QM dm ra jx rm Q) (hX : HX p l e R s m args below meth c 2 D cA A n0 s0 QM dm ra jx rm X) {K158 : Sg → Int → Prop} (hK158 : ∀ (σ : Sg) (v1 : Int) (g1 : rng v1), K158 σ v1 → RG σ → Shp dm ra jx rm σ → JJ p l e R s m args below meth c 2 D cA A n0 s0 QM σ 158 [(0, .ref rm), (1, .int (i32 v1))] []) : ∀ (σ : Sg) (v1 : Int) (g1 : rng v1), w_X16_job_158 ra jx rm K158 Q X σ v1 → RG σ → Shp dm ra jx rm σ → JJ p l e R s m args below meth c 2 D cA A n0 s0 QM σ 158 [(0, .ref rm), (1, .int (i32 v1))] [] := by
  intro σ v1 g1 h hGσ hS H locs ls hH hl hc
  have B := K.1
  unfold w_X16_job_158 at h
  refine lv_iload_n B.1 B.2.1 dX16_job_158 rfl (lv_at hl 1 rfl) ?_
  refine lv_iconst (v := i32 4) B.1 B.2.1 dX16_job_159 (by decide) ?_
  refine lv_icmp_ge (tgt := 183) B.1 B.2.1 dX16_job_160 (by decide) (fun h9 => ?_) (fun h9 => ?_)
  · rw [if_pos ((i32_le (by unfold rng; omega) g1).mp h9)] at h
    exact a_X16_job_183 K hQ hX _ h hGσ hS _ _ _ hH (lv_sub (l' := [(0, .ref rm)]) hl [0] rfl) hc
  · rw [if_neg (fun q => h9 ((i32_le (by unfold rng; omega) g1).mpr q))] at h
    exact a_X16_job_163 K hQ hX hK158 _ _ g1 h hGσ hS _ _ _ hH (lv_sub (l' := [(0, .ref rm), (1, .int (i32 v1))]) hl [0, 1] rfl) hc
theorem al_X16_job_158 {Q : Sg → Int → Prop} {X : Sg → String → Prop} (K : MC R p s m args c cX16_job 2 RX16 D cA tys A n0 s0 145 10113 [(86, 133, 136, 948)]) (hQ : HQI p l e R s m args below meth c cX16_job D cA A n0 s0 QM dm ra jx rm Q) (hX : HX p l e R s m args below meth c 2 D cA A n0 s0 QM dm ra jx rm X) : ∀ (n : Nat), ∀ (σ : Sg) (v1 : Int) (g1 : rng v1), wl_X16_job_158 ra jx rm Q X n σ v1 → RG σ → Shp dm ra jx rm σ → JJ p l e R s m args below meth c 2 D cA A n0 s0 QM σ 158 [(0, .ref rm), (1, .int (i32 v1))] [] := by
  intro n
  induction n with
  | zero => intro σ v1 g1 h; exact h.elim
  | succ n ih => exact fun σ v1 g1 h => a_X16_job_158 K hQ hX ih σ v1 g1 h
set_option maxRecDepth 20000 in
theorem a_X16_job_144 {Q : Sg → Int → Prop} {X : Sg → String → Prop} (K : MC R p s m args c cX16_job 2 RX16 D cA tys A n0 s0 145 10113 [(86, 133, 136, 948)]) (hQ : HQI p l e R s m args below meth c cX16_job D cA A n0 s0 QM dm ra jx rm Q) (hX : HX p l e R s m args below meth c 2 D cA A n0 s0 QM dm ra jx rm X) : ∀ (σ : Sg), w_X16_job_144 ra jx rm Q X σ → RG σ → Shp dm ra jx rm σ → JJ p l e R s m args below meth c 2 D cA A n0 s0 QM σ 144 [(0, .ref rm)] [] := by
  intro σ h hGσ hS H locs ls hH hl hc
  have B := K.1
  unfold w_X16_job_144 at h
  refine lv_aload_n B.1 B.2.1 dX16_job_144 rfl (lv_at hl 0 rfl) ?_
  refine lv_aload_n B.1 B.2.1 dX16_job_145 rfl (lv_at hl 0 rfl) ?_
  refine r_getp B hH hS 18 (by decide) wf_X16_118 rfl rfl dX16_job_146 ?_
  obtain ⟨σ48, eσ48⟩ : ∃ z, z = pP σ rm 17 (gP σ rm 18) := ⟨_, rfl⟩
  have h := h σ48 eσ48
  refine r_putq B hH hS 17 (r := (gP σ rm 18)) (by decide) wf_X16_356 rfl rfl rfl rfl dX16_job_149 (fun H locs hH => ?_)
  have hH : Hd D cA A s (pP σ rm 17 (gP σ rm 18)) H locs := hH
  rw [← eσ48] at hH
  have hGσ48 : RG σ48 := by rw [eσ48]; exact hGσ.pP
  have hS : Shp dm ra jx rm σ48 := by rw [eσ48]; exact hS.pP (by decide)
  have hc : CB n0 s0 σ48 := by rw [eσ48]; exact hc
  rw [show gc σ = gc σ48 by rw [eσ48], show gs σ = gs σ48 by rw [eσ48]]
  refine lv_aload_n B.1 B.2.1 dX16_job_152 rfl (lv_at hl 0 rfl) ?_
  refine c_V B hH hl hc K.2.2.1 (C := RX16) (T := TX16) (N := 123) (ci := 16) (As := []) (ok_X16_noRun K.2.1 σ48 hGσ48 hS h) wc_X16_979 0 hd_X16_noRun ⟨Nat.le_trans (Nat.le_of_ble_eq_true rfl) K.2.2.2.1, Nat.le_trans (Nat.le_of_ble_eq_true rfl) K.2.2.2.2.1⟩ hS.1.1 hS.1.2 (by decide) rfl rfl (rest := []) rfl (Nat.le_of_ble_eq_true rfl) dX16_job_153 (fun σ49 w hq => ?_) (fun σ9 E9 hx9 => hX σ9 E9 _ _ _ (tb_out K.2.2.2.2.2 rfl) hx9.1 hx9.2.1 hx9.2.2)
  obtain ⟨rfl, h, hGσ49, hS⟩ := hq
  intro H locs ls hH hl hc
  refine W.eq (g2 := F0 m 156 ls []) (rfl) ?_
  try dsimp only at h
  refine lv_iconst (v := i32 0) B.1 B.2.1 dX16_job_156 (by decide) ?_
  refine lv_istore_n (lv' := [(1, .int (i32 0)), (0, .ref rm)]) B.1 B.2.1 dX16_job_157 rfl hl (by decide) rfl (fun ls hl => ?_)
  obtain ⟨n9, h⟩ := h
  exact al_X16_job_158 K hQ hX n9 _ _ (by unfold rng; omega) h hGσ49 hS _ _ _ hH (lv_sub (l' := [(0, .ref rm), (1, .int (i32 0))]) hl [1, 0] rfl) hc
set_option maxRecDepth 20000 in
theorem a_X16_job_133 {Q : Sg → Int → Prop} {X : Sg → String → Prop} (K : MC R p s m args c cX16_job 2 RX16 D cA tys A n0 s0 145 10113 [(86, 133, 136, 948)]) (hQ : HQI p l e R s m args below meth c cX16_job D cA A n0 s0 QM dm ra jx rm Q) (hX : HX p l e R s m args below meth c 2 D cA A n0 s0 QM dm ra jx rm X) : ∀ (σ : Sg), w_X16_job_133 ra jx rm Q X σ → RG σ → Shp dm ra jx rm σ → JJ p l e R s m args below meth c 2 D cA A n0 s0 QM σ 133 [(0, .ref rm)] [] := by
  intro σ h hGσ hS H locs ls hH hl hc
  have B := K.1
  unfold w_X16_job_133 at h
  refine lv_goto (tgt := 144) B.1 B.2.1 dX16_job_133 (by decide) ?_
  exact a_X16_job_144 K hQ hX _ h hGσ hS _ _ _ hH (lv_sub (l' := [(0, .ref rm)]) hl [0] rfl) hc
set_option maxRecDepth 20000 in
theorem a_X16_job_98 {Q : Sg → Int → Prop} {X : Sg → String → Prop} (K : MC R p s m args c cX16_job 2 RX16 D cA tys A n0 s0 145 10113 [(86, 133, 136, 948)]) (hQ : HQI p l e R s m args below meth c cX16_job D cA A n0 s0 QM dm ra jx rm Q) (hX : HX p l e R s m args below meth c 2 D cA A n0 s0 QM dm ra jx rm X) {K90 : Sg → Prop} (hK90 : ∀ (σ : Sg), K90 σ → RG σ → Shp dm ra jx rm σ → JJ p l e R s m args below meth c 2 D cA A n0 s0 QM σ 90 [(0, .ref rm)] []) : ∀ (σ : Sg), w_X16_job_98 ra jx rm K90 Q X σ → RG σ → Shp dm ra jx rm σ → JJ p l e R s m args below meth c 2 D cA A n0 s0 QM σ 98 [(0, .ref rm)] [] := by
  intro σ h hGσ hS H locs ls hH hl hc
  have B := K.1
  unfold w_X16_job_98 at h
  refine lv_aload_n B.1 B.2.1 dX16_job_98 rfl (lv_at hl 0 rfl) ?_
  refine r_getp B hH hS 18 (by decide) wf_X16_118 rfl rfl dX16_job_99 ?_
  obtain ⟨a50, ea50, ja50, h⟩ := h
  refine W.eq (g2 := F0 m 102 ls [.ref a50]) (by rw [ea50]; rfl) ?_
  refine n_geti B hH hS ja50 1 (by decide) (List.mem_of_getElem? (i := 1) rfl) rfl dX16_job_102 ?_
  refine lv_if_ne (tgt := 133) B.1 B.2.1 dX16_job_105 (by decide) (fun h9 => ?_) (fun h9 => ?_)
  · rw [if_pos (fun q => h9 ((z_eq (hGσ _ _)).mpr q))] at h
    exact a_X16_job_133 K hQ hX _ h hGσ hS _ _ _ hH (lv_sub (l' := [(0, .ref rm)]) hl [0] rfl) hc
  · rw [if_neg (fun q => q ((z_eq (hGσ _ _)).mp h9))] at h
    exact a_X16_job_108 K hQ hX hK90 _ h hGσ hS _ _ _ hH (lv_sub (l' := [(0, .ref rm)]) hl [0] rfl) hc
set_option maxRecDepth 20000 in
theorem a_X16_job_90 {Q : Sg → Int → Prop} {X : Sg → String → Prop} (K : MC R p s m args c cX16_job 2 RX16 D cA tys A n0 s0 145 10113 [(86, 133, 136, 948)]) (hQ : HQI p l e R s m args below meth c cX16_job D cA A n0 s0 QM dm ra jx rm Q) (hX : HX p l e R s m args below meth c 2 D cA A n0 s0 QM dm ra jx rm X) {K90 : Sg → Prop} (hK90 : ∀ (σ : Sg), K90 σ → RG σ → Shp dm ra jx rm σ → JJ p l e R s m args below meth c 2 D cA A n0 s0 QM σ 90 [(0, .ref rm)] []) : ∀ (σ : Sg), w_X16_job_90 ra jx rm K90 Q X σ → RG σ → Shp dm ra jx rm σ → JJ p l e R s m args below meth c 2 D cA A n0 s0 QM σ 90 [(0, .ref rm)] [] := by
  intro σ h hGσ hS H locs ls hH hl hc
  have B := K.1
  unfold w_X16_job_90 at h
  refine lv_aload_n B.1 B.2.1 dX16_job_90 rfl (lv_at hl 0 rfl) ?_
  refine r_geti B hH hS 9 (by decide) wf_X16_38 rfl rfl dX16_job_91 ?_
  refine lv_iconst (v := i32 3) B.1 B.2.1 dX16_job_94 (by decide) ?_
  refine lv_icmp_ne (tgt := 108) B.1 B.2.1 dX16_job_95 (by decide) (fun h9 => ?_) (fun h9 => ?_)
  · rw [if_pos (fun q => h9 ((i32_eq (hGσ _ _) (by unfold rng; omega)).mpr q))] at h
    exact a_X16_job_108 K hQ hX hK90 _ h hGσ hS _ _ _ hH (lv_sub (l' := [(0, .ref rm)]) hl [0] rfl) hc
  · rw [if_neg (fun q => q ((i32_eq (hGσ _ _) (by unfold rng; omega)).mp h9))] at h
    exact a_X16_job_98 K hQ hX hK90 _ h hGσ hS _ _ _ hH (lv_sub (l' := [(0, .ref rm)]) hl [0] rfl) hc
theorem al_X16_job_90 {Q : Sg → Int → Prop} {X : Sg → String → Prop} (K : MC R p s m args c cX16_job 2 RX16 D cA tys A n0 s0 145 10113 [(86, 133, 136, 948)]) (hQ : HQI p l e R s m args below meth c cX16_job D cA A n0 s0 QM dm ra jx rm Q) (hX : HX p l e R s m args below meth c 2 D cA A n0 s0 QM dm ra jx rm X) : ∀ (n : Nat), ∀ (σ : Sg), wl_X16_job_90 ra jx rm Q X n σ → RG σ → Shp dm ra jx rm σ → JJ p l e R s m args below meth c 2 D cA A n0 s0 QM σ 90 [(0, .ref rm)] [] := by
  intro n
  induction n with
  | zero => intro σ h; exact h.elim
  | succ n ih => exact fun σ h => a_X16_job_90 K hQ hX ih σ h
set_option maxRecDepth 20000 in
theorem a_X16_job_86 {Q : Sg → Int → Prop} {X : Sg → String → Prop} (K : MC R p s m args c cX16_job 2 RX16 D cA tys A n0 s0 145 10113 [(86, 133, 136, 948)]) (hQ : HQI p l e R s m args below meth c cX16_job D cA A n0 s0 QM dm ra jx rm Q) (hX : HX p l e R s m args below meth c 2 D cA A n0 s0 QM dm ra jx rm X) : ∀ (σ : Sg), w_X16_job_86 ra jx rm Q X σ → RG σ → Shp dm ra jx rm σ → JJ p l e R s m args below meth c 2 D cA A n0 s0 QM σ 86 [(0, .ref rm)] [] := by
  intro σ h hGσ hS H locs ls hH hl hc
  have B := K.1
  unfold w_X16_job_86 at h
  refine lv_aload_n B.1 B.2.1 dX16_job_86 rfl (lv_at hl 0 rfl) ?_
  refine c_V B hH hl hc K.2.2.1 (C := RX16) (T := TX16) (N := 123) (ci := 16) (As := []) (ok_X16_see K.2.1 σ hGσ hS h) wc_X16_76 0 hd_X16_see ⟨Nat.le_trans (Nat.le_of_ble_eq_true rfl) K.2.2.2.1, Nat.le_trans (Nat.le_of_ble_eq_true rfl) K.2.2.2.2.1⟩ hS.1.1 hS.1.2 (by decide) rfl rfl (rest := []) rfl (Nat.le_of_ble_eq_true rfl) dX16_job_87 (fun σ51 w hq => ?_) (fun σ9 E9 hx9 => (by obtain ⟨⟨rfl, h⟩, hG9, hS9⟩ := hx9; exact h_catchP B [] (K.2.2.2.2.2.trans rfl) rfl rfl (by decide) wl_X16_948 (by decide) (fun q9 H locs ls hH hl hc => a_X16_job_136 K hQ hX σ9 (some q9) (h (some q9)) hG9 hS9 H locs ls hH (lv_sub (l' := [(0, .ref rm)]) hl [0] rfl) hc)))
  obtain ⟨rfl, h, hGσ51, hS⟩ := hq
  intro H locs ls hH hl hc
  refine W.eq (g2 := F0 m 90 ls []) (rfl) ?_
  try dsimp only at h
  obtain ⟨n9, h⟩ := h
  exact al_X16_job_90 K hQ hX n9 _ h hGσ51 hS _ _ _ hH (lv_sub (l' := [(0, .ref rm)]) hl [0] rfl) hc
set_option maxRecDepth 20000 in
theorem a_X16_job_71 {Q : Sg → Int → Prop} {X : Sg → String → Prop} (K : MC R p s m args c cX16_job 2 RX16 D cA tys A n0 s0 145 10113 [(86, 133, 136, 948)]) (hQ : HQI p l e R s m args below meth c cX16_job D cA A n0 s0 QM dm ra jx rm Q) (hX : HX p l e R s m args below meth c 2 D cA A n0 s0 QM dm ra jx rm X) : ∀ (σ : Sg) (u0 : Option Nat), w_X16_job_71 ra jx rm Q X σ u0 → RG σ → Shp dm ra jx rm σ → JJ p l e R s m args below meth c 2 D cA A n0 s0 QM σ 71 [(0, .ref rm)] [va_rf u0, .ref rm] := by
  intro σ u0 h hGσ hS H locs ls hH hl hc
  have B := K.1
  unfold w_X16_job_71 at h
  obtain ⟨σ52, eσ52⟩ : ∃ z, z = pP σ rm 18 u0 := ⟨_, rfl⟩
  have h := h σ52 eσ52
  refine r_putq B hH hS 18 (r := u0) (by decide) wf_X16_118 rfl rfl rfl rfl dX16_job_71 (fun H locs hH => ?_)
  have hH : Hd D cA A s (pP σ rm 18 u0) H locs := hH
  rw [← eσ52] at hH
  have hGσ52 : RG σ52 := by rw [eσ52]; exact hGσ.pP
  have hS : Shp dm ra jx rm σ52 := by rw [eσ52]; exact hS.pP (by decide)
  have hc : CB n0 s0 σ52 := by rw [eσ52]; exact hc
  rw [show gc σ = gc σ52 by rw [eσ52], show gs σ = gs σ52 by rw [eσ52]]
  refine lv_aload_n B.1 B.2.1 dX16_job_74 rfl (lv_at hl 0 rfl) ?_
  refine r_getp B hH hS 18 (by decide) wf_X16_118 rfl rfl dX16_job_75 ?_
  obtain ⟨a53, ea53, ja53, h⟩ := h
  refine W.eq (g2 := F0 m 78 ls [.ref a53]) (by rw [ea53]; rfl) ?_
  refine c_V B hH hl hc K.2.2.1 (C := RX15) (T := TX15) (N := 20) (ci := 15) (As := []) (ok_X15_clear ja53 K.2.1 σ52 hGσ52 hS h) wc_X16_975 0 hd_X15_clear ⟨Nat.le_trans (Nat.le_of_ble_eq_true rfl) K.2.2.2.1, Nat.le_trans (Nat.le_of_ble_eq_true rfl) K.2.2.2.2.1⟩ (hS.jb ja53).1 (hS.jb ja53).2 (by decide) rfl rfl (rest := []) rfl (Nat.le_of_ble_eq_true rfl) dX16_job_78 (fun σ54 w hq => ?_) (fun σ9 E9 hx9 => hX σ9 E9 _ _ _ (tb_out K.2.2.2.2.2 rfl) hx9.1 hx9.2.1 hx9.2.2)
  obtain ⟨rfl, h, hGσ54, hS⟩ := hq
  intro H locs ls hH hl hc
  refine W.eq (g2 := F0 m 81 ls []) (rfl) ?_
  try dsimp only at h
  refine lv_aload_n B.1 B.2.1 dX16_job_81 rfl (lv_at hl 0 rfl) ?_
  refine lv_iconst (v := i32 0) B.1 B.2.1 dX16_job_82 (by decide) ?_
  obtain ⟨σ55, eσ55⟩ : ∃ z, z = pI σ54 rm 4 0 := ⟨_, rfl⟩
  have h := h σ55 eσ55
  refine r_puti B hH hS 4 (ty := .int) (by decide) wf_X16_7 rfl rfl rfl rfl rfl rfl dX16_job_83 (fun H locs hH => ?_)
  have hH : Hd D cA A s (pI σ54 rm 4 0) H locs := hH
  rw [← eσ55] at hH
  have hGσ55 : RG σ55 := by rw [eσ55]; exact hGσ54.pI (by unfold rng; omega)
  have hS : Shp dm ra jx rm σ55 := by rw [eσ55]; exact hS
  have hc : CB n0 s0 σ55 := by rw [eσ55]; exact hc
  rw [show gc σ54 = gc σ55 by rw [eσ55], show gs σ54 = gs σ55 by rw [eσ55]]
  exact a_X16_job_86 K hQ hX _ h hGσ55 hS _ _ _ hH (lv_sub (l' := [(0, .ref rm)]) hl [0] rfl) hc
set_option maxRecDepth 20000 in
theorem a_X16_job_67 {Q : Sg → Int → Prop} {X : Sg → String → Prop} (K : MC R p s m args c cX16_job 2 RX16 D cA tys A n0 s0 145 10113 [(86, 133, 136, 948)]) (hQ : HQI p l e R s m args below meth c cX16_job D cA A n0 s0 QM dm ra jx rm Q) (hX : HX p l e R s m args below meth c 2 D cA A n0 s0 QM dm ra jx rm X) : ∀ (σ : Sg), w_X16_job_67 ra jx rm Q X σ → RG σ → Shp dm ra jx rm σ → JJ p l e R s m args below meth c 2 D cA A n0 s0 QM σ 67 [(0, .ref rm)] [.ref rm] := by
  intro σ h hGσ hS H locs ls hH hl hc
  have B := K.1
  unfold w_X16_job_67 at h
  refine lv_aload_n B.1 B.2.1 dX16_job_67 rfl (lv_at hl 0 rfl) ?_
  refine r_obj B hH hS 15 (ci := 15) (by decide) (by decide) wf_X16_954 rfl rfl dX16_job_68 ?_
  refine W.eq (g2 := F0 m 71 ls [va_rf (some (ra 15)), .ref rm]) (rfl) ?_
  exact a_X16_job_71 K hQ hX _ _ h hGσ hS _ _ _ hH (lv_sub (l' := [(0, .ref rm)]) hl [0] rfl) hc
set_option maxRecDepth 20000 in
theorem a_X16_job_60 {Q : Sg → Int → Prop} {X : Sg → String → Prop} (K : MC R p s m args c cX16_job 2 RX16 D cA tys A n0 s0 145 10113 [(86, 133, 136, 948)]) (hQ : HQI p l e R s m args below meth c cX16_job D cA A n0 s0 QM dm ra jx rm Q) (hX : HX p l e R s m args below meth c 2 D cA A n0 s0 QM dm ra jx rm X) : ∀ (σ : Sg), w_X16_job_60 ra jx rm Q X σ → RG σ → Shp dm ra jx rm σ → JJ p l e R s m args below meth c 2 D cA A n0 s0 QM σ 60 [(0, .ref rm)] [.ref rm] := by
  intro σ h hGσ hS H locs ls hH hl hc
  have B := K.1
  unfold w_X16_job_60 at h
  refine lv_aload_n B.1 B.2.1 dX16_job_60 rfl (lv_at hl 0 rfl) ?_
  refine r_obj B hH hS 16 (ci := 15) (by decide) (by decide) wf_X16_957 rfl rfl dX16_job_61 ?_
  refine W.eq (g2 := F0 m 64 ls [va_rf (some (ra 16)), .ref rm]) (rfl) ?_
  refine lv_goto (tgt := 71) B.1 B.2.1 dX16_job_64 (by decide) ?_
  exact a_X16_job_71 K hQ hX _ _ h hGσ hS _ _ _ hH (lv_sub (l' := [(0, .ref rm)]) hl [0] rfl) hc
set_option maxRecDepth 20000 in
theorem a_X16_job_38 {Q : Sg → Int → Prop} {X : Sg → String → Prop} (K : MC R p s m args c cX16_job 2 RX16 D cA tys A n0 s0 145 10113 [(86, 133, 136, 948)]) (hQ : HQI p l e R s m args below meth c cX16_job D cA A n0 s0 QM dm ra jx rm Q) (hX : HX p l e R s m args below meth c 2 D cA A n0 s0 QM dm ra jx rm X) : ∀ (σ : Sg), w_X16_job_38 ra jx rm Q X σ → RG σ → Shp dm ra jx rm σ → JJ p l e R s m args below meth c 2 D cA A n0 s0 QM σ 38 [(0, .ref rm)] [] := by
  intro σ h hGσ hS H locs ls hH hl hc
  have B := K.1
  unfold w_X16_job_38 at h
  refine lv_aload_n B.1 B.2.1 dX16_job_38 rfl (lv_at hl 0 rfl) ?_
  refine lv_iconst (v := i32 0) B.1 B.2.1 dX16_job_39 (by decide) ?_
  obtain ⟨σ56, eσ56⟩ : ∃ z, z = pI σ rm 7 0 := ⟨_, rfl⟩
  have h := h σ56 eσ56
  refine r_puti B hH hS 7 (ty := .int) (by decide) wf_X16_28 rfl rfl rfl rfl rfl rfl dX16_job_40 (fun H locs hH => ?_)
  have hH : Hd D cA A s (pI σ rm 7 0) H locs := hH
  rw [← eσ56] at hH
  have hGσ56 : RG σ56 := by rw [eσ56]; exact hGσ.pI (by unfold rng; omega)
  have hS : Shp dm ra jx rm σ56 := by rw [eσ56]; exact hS
  have hc : CB n0 s0 σ56 := by rw [eσ56]; exact hc
  rw [show gc σ = gc σ56 by rw [eσ56], show gs σ = gs σ56 by rw [eσ56]]
  refine lv_aload_n B.1 B.2.1 dX16_job_43 rfl (lv_at hl 0 rfl) ?_
  refine lv_iconst (v := i32 0) B.1 B.2.1 dX16_job_44 (by decide) ?_
  obtain ⟨σ57, eσ57⟩ : ∃ z, z = pI σ56 rm 8 0 := ⟨_, rfl⟩
  have h := h σ57 eσ57
  refine r_puti B hH hS 8 (ty := .boolean) (by decide) wf_X16_24 rfl rfl rfl rfl rfl rfl dX16_job_45 (fun H locs hH => ?_)
  have hH : Hd D cA A s (pI σ56 rm 8 0) H locs := hH
  rw [← eσ57] at hH
  have hGσ57 : RG σ57 := by rw [eσ57]; exact hGσ56.pI (by unfold rng; omega)
  have hS : Shp dm ra jx rm σ57 := by rw [eσ57]; exact hS
  have hc : CB n0 s0 σ57 := by rw [eσ57]; exact hc
  rw [show gc σ56 = gc σ57 by rw [eσ57], show gs σ56 = gs σ57 by rw [eσ57]]
  refine lv_aload_n B.1 B.2.1 dX16_job_48 rfl (lv_at hl 0 rfl) ?_
  refine lv_aload_n B.1 B.2.1 dX16_job_49 rfl (lv_at hl 0 rfl) ?_
  refine r_getp B hH hS 17 (by decide) wf_X16_356 rfl rfl dX16_job_50 ?_
  refine lv_aload_n B.1 B.2.1 dX16_job_53 rfl (lv_at hl 0 rfl) ?_
  refine r_obj B hH hS 15 (ci := 15) (by decide) (by decide) wf_X16_954 rfl rfl dX16_job_54 ?_
  refine W.eq (g2 := F0 m 57 ls [va_rf (some (ra 15)), va_rf (gP σ57 rm 17), .ref rm]) (rfl) ?_
  refine W.eq (g2 := F0 m 57 ls [va_rf (some (ra 15)), va_rf (gP σ57 rm 17), .ref rm]) (rfl) ?_
  refine lv_acmp_ne (tgt := 67) B.1 B.2.1 dX16_job_57 (by decide) (fun h9 => ?_) (fun h9 => ?_)
  · rw [if_pos (h9)] at h
    exact a_X16_job_67 K hQ hX _ h hGσ57 hS _ _ _ hH (lv_sub (l' := [(0, .ref rm)]) hl [0] rfl) hc
  · rw [if_neg (fun q => q h9)] at h
    exact a_X16_job_60 K hQ hX _ h hGσ57 hS _ _ _ hH (lv_sub (l' := [(0, .ref rm)]) hl [0] rfl) hc
set_option maxRecDepth 20000 in
theorem a_X16_job_36 {Q : Sg → Int → Prop} {X : Sg → String → Prop} (K : MC R p s m args c cX16_job 2 RX16 D cA tys A n0 s0 145 10113 [(86, 133, 136, 948)]) (hQ : HQI p l e R s m args below meth c cX16_job D cA A n0 s0 QM dm ra jx rm Q) (hX : HX p l e R s m args below meth c 2 D cA A n0 s0 QM dm ra jx rm X) : ∀ (σ : Sg), w_X16_job_36 ra jx rm Q X σ → RG σ → Shp dm ra jx rm σ → JJ p l e R s m args below meth c 2 D cA A n0 s0 QM σ 36 [(0, .ref rm)] [] := by
  intro σ h hGσ hS H locs ls hH hl hc
  have B := K.1
  unfold w_X16_job_36 at h
  refine lv_iconst (v := i32 0) B.1 B.2.1 dX16_job_36 (by decide) ?_
  exact hQ _ _ _ _ _ _ (by unfold rng; omega) dX16_job_37 hH hc h hGσ hS
set_option maxRecDepth 20000 in
theorem a_X16_job_26 {Q : Sg → Int → Prop} {X : Sg → String → Prop} (K : MC R p s m args c cX16_job 2 RX16 D cA tys A n0 s0 145 10113 [(86, 133, 136, 948)]) (hQ : HQI p l e R s m args below meth c cX16_job D cA A n0 s0 QM dm ra jx rm Q) (hX : HX p l e R s m args below meth c 2 D cA A n0 s0 QM dm ra jx rm X) : ∀ (σ : Sg) (u0 : Int) (gu0 : rng u0), w_X16_job_26 ra jx rm Q X σ u0 → RG σ → Shp dm ra jx rm σ → JJ p l e R s m args below meth c 2 D cA A n0 s0 QM σ 26 [(0, .ref rm)] [.int (i32 u0), .ref rm] := by
  intro σ u0 gu0 h hGσ hS H locs ls hH hl hc
  have B := K.1
  unfold w_X16_job_26 at h
  obtain ⟨σ58, eσ58⟩ : ∃ z, z = pI σ rm 0 u0 := ⟨_, rfl⟩
  have h := h σ58 eσ58
  refine r_puti B hH hS 0 (ty := .int) (by decide) wf_X16_1 rfl rfl rfl rfl rfl rfl dX16_job_26 (fun H locs hH => ?_)
  have hH : Hd D cA A s (pI σ rm 0 u0) H locs := hH
  rw [← eσ58] at hH
  have hGσ58 : RG σ58 := by rw [eσ58]; exact hGσ.pI gu0
  have hS : Shp dm ra jx rm σ58 := by rw [eσ58]; exact hS
  have hc : CB n0 s0 σ58 := by rw [eσ58]; exact hc
  rw [show gc σ = gc σ58 by rw [eσ58], show gs σ = gs σ58 by rw [eσ58]]
  refine lv_aload_n B.1 B.2.1 dX16_job_29 rfl (lv_at hl 0 rfl) ?_
  refine r_geti B hH hS 0 (by decide) wf_X16_1 rfl rfl dX16_job_30 ?_
  refine lv_if_le (tgt := 38) B.1 B.2.1 dX16_job_33 (by decide) (fun h9 => ?_) (fun h9 => ?_)
  · rw [if_pos ((z_le (hGσ58 _ _)).mp h9)] at h
    exact a_X16_job_38 K hQ hX _ h hGσ58 hS _ _ _ hH (lv_sub (l' := [(0, .ref rm)]) hl [0] rfl) hc
  · rw [if_neg (fun q => h9 ((z_le (hGσ58 _ _)).mpr q))] at h
    exact a_X16_job_36 K hQ hX _ h hGσ58 hS _ _ _ hH (lv_sub (l' := [(0, .ref rm)]) hl [0] rfl) hc
set_option maxRecDepth 20000 in
theorem a_X16_job_25 {Q : Sg → Int → Prop} {X : Sg → String → Prop} (K : MC R p s m args c cX16_job 2 RX16 D cA tys A n0 s0 145 10113 [(86, 133, 136, 948)]) (hQ : HQI p l e R s m args below meth c cX16_job D cA A n0 s0 QM dm ra jx rm Q) (hX : HX p l e R s m args below meth c 2 D cA A n0 s0 QM dm ra jx rm X) : ∀ (σ : Sg), w_X16_job_25 ra jx rm Q X σ → RG σ → Shp dm ra jx rm σ → JJ p l e R s m args below meth c 2 D cA A n0 s0 QM σ 25 [(0, .ref rm)] [.ref rm] := by
  intro σ h hGσ hS H locs ls hH hl hc
  have B := K.1
  unfold w_X16_job_25 at h
  refine lv_iconst (v := i32 0) B.1 B.2.1 dX16_job_25 (by decide) ?_
  exact a_X16_job_26 K hQ hX _ _ (by unfold rng; omega) h hGσ hS _ _ _ hH (lv_sub (l' := [(0, .ref rm)]) hl [0] rfl) hc
set_option maxRecDepth 20000 in
theorem a_X16_job_21 {Q : Sg → Int → Prop} {X : Sg → String → Prop} (K : MC R p s m args c cX16_job 2 RX16 D cA tys A n0 s0 145 10113 [(86, 133, 136, 948)]) (hQ : HQI p l e R s m args below meth c cX16_job D cA A n0 s0 QM dm ra jx rm Q) (hX : HX p l e R s m args below meth c 2 D cA A n0 s0 QM dm ra jx rm X) : ∀ (σ : Sg), w_X16_job_21 ra jx rm Q X σ → RG σ → Shp dm ra jx rm σ → JJ p l e R s m args below meth c 2 D cA A n0 s0 QM σ 21 [(0, .ref rm)] [.ref rm] := by
  intro σ h hGσ hS H locs ls hH hl hc
  have B := K.1
  unfold w_X16_job_21 at h
  refine lv_iconst (v := i32 1) B.1 B.2.1 dX16_job_21 (by decide) ?_
  refine lv_goto (tgt := 26) B.1 B.2.1 dX16_job_22 (by decide) ?_
  exact a_X16_job_26 K hQ hX _ _ (by unfold rng; omega) h hGσ hS _ _ _ hH (lv_sub (l' := [(0, .ref rm)]) hl [0] rfl) hc
set_option maxRecDepth 20000 in
theorem a_X16_job_0 {Q : Sg → Int → Prop} {X : Sg → String → Prop} (K : MC R p s m args c cX16_job 2 RX16 D cA tys A n0 s0 145 10113 [(86, 133, 136, 948)]) (hQ : HQI p l e R s m args below meth c cX16_job D cA A n0 s0 QM dm ra jx rm Q) (hX : HX p l e R s m args below meth c 2 D cA A n0 s0 QM dm ra jx rm X) : ∀ (σ : Sg), w_X16_job_0 ra jx rm Q X σ → RG σ → Shp dm ra jx rm σ → JJ p l e R s m args below meth c 2 D cA A n0 s0 QM σ 0 [(0, .ref rm)] [] := by
  intro σ h hGσ hS H locs ls hH hl hc
  have B := K.1
  unfold w_X16_job_0 at h
  refine lv_aload_n B.1 B.2.1 dX16_job_0 rfl (lv_at hl 0 rfl) ?_
  refine lv_aload_n B.1 B.2.1 dX16_job_1 rfl (lv_at hl 0 rfl) ?_
  refine r_geti B hH hS 3 (by decide) wf_X16_972 rfl rfl dX16_job_2 ?_
  obtain ⟨σ59, eσ59⟩ : ∃ z, z = pI σ rm 6 (gI σ rm 3) := ⟨_, rfl⟩
  have h := h σ59 eσ59
  refine r_puti B hH hS 6 (ty := .int) (by decide) wf_X16_31 rfl rfl rfl rfl rfl rfl dX16_job_5 (fun H locs hH => ?_)
  have hH : Hd D cA A s (pI σ rm 6 (gI σ rm 3)) H locs := hH
  rw [← eσ59] at hH
  have hGσ59 : RG σ59 := by rw [eσ59]; exact hGσ.pI (hGσ _ _)
  have hS : Shp dm ra jx rm σ59 := by rw [eσ59]; exact hS
  have hc : CB n0 s0 σ59 := by rw [eσ59]; exact hc
  rw [show gc σ = gc σ59 by rw [eσ59], show gs σ = gs σ59 by rw [eσ59]]
  refine lv_aload_n B.1 B.2.1 dX16_job_8 rfl (lv_at hl 0 rfl) ?_
  refine lv_iconst (v := i32 0) B.1 B.2.1 dX16_job_9 (by decide) ?_
  obtain ⟨σ60, eσ60⟩ : ∃ z, z = pI σ59 rm 3 0 := ⟨_, rfl⟩
  have h := h σ60 eσ60
  refine r_puti B hH hS 3 (ty := .int) (by decide) wf_X16_972 rfl rfl rfl rfl rfl rfl dX16_job_10 (fun H locs hH => ?_)
  have hH : Hd D cA A s (pI σ59 rm 3 0) H locs := hH
  rw [← eσ60] at hH
  have hGσ60 : RG σ60 := by rw [eσ60]; exact hGσ59.pI (by unfold rng; omega)
  have hS : Shp dm ra jx rm σ60 := by rw [eσ60]; exact hS
  have hc : CB n0 s0 σ60 := by rw [eσ60]; exact hc
  rw [show gc σ59 = gc σ60 by rw [eσ60], show gs σ59 = gs σ60 by rw [eσ60]]
  refine lv_aload_n B.1 B.2.1 dX16_job_13 rfl (lv_at hl 0 rfl) ?_
  refine lv_aload_n B.1 B.2.1 dX16_job_14 rfl (lv_at hl 0 rfl) ?_
  refine r_geti B hH hS 32 (by decide) wf_X16_688 rfl rfl dX16_job_15 ?_
  refine lv_if_eq (tgt := 25) B.1 B.2.1 dX16_job_18 (by decide) (fun h9 => ?_) (fun h9 => ?_)
  · rw [if_pos ((z_eq (hGσ60 _ _)).mp h9)] at h
    exact a_X16_job_25 K hQ hX _ h hGσ60 hS _ _ _ hH (lv_sub (l' := [(0, .ref rm)]) hl [0] rfl) hc
  · rw [if_neg (fun q => h9 ((z_eq (hGσ60 _ _)).mpr q))] at h
    exact a_X16_job_21 K hQ hX _ h hGσ60 hS _ _ _ hH (lv_sub (l' := [(0, .ref rm)]) hl [0] rfl) hc
theorem ok_X16_job (hT : Tys cA tys) {Q : Sg → Int → Prop} {X : Sg → String → Prop} (σ : Sg) (hG : RG σ) (hS : Shp dm ra jx rm σ) (h : wp_X16_job ra jx rm σ Q X) : Ok l D cA tys A yX16_job (.codeWith yX16_job cX16_job 2 (some .int) [(86, 133, 136, 948)]) 145 10113 [.ref rm] σ (QnI dm ra jx rm Q) (QxR dm ra jx rm X) := by
  unfold wp_X16_job at h
  exact ok_IH (by decide) (plainFor_of_name (by decide)) (by exact Nat.le_of_ble_eq_true rfl) hT (fun p e R s m args below meth c K hQ hX H locs ls hH hl hc => a_X16_job_0 K hQ hX σ h hG hS H locs ls hH (lv_sub (l' := [(0, .ref rm)]) hl [0] rfl) hc)
theorem dX16_keepPart_0 : decode cX16_keepPart 0 = .ok (.aload_n 0, 1) := by decide +kernel
theorem dX16_keepPart_1 : decode cX16_keepPart 1 = .ok (.getfield 380, 3) := by decide +kernel
theorem dX16_keepPart_4 : decode cX16_keepPart 4 = .ok (.iload_n 1, 1) := by decide +kernel
theorem dX16_keepPart_5 : decode cX16_keepPart 5 = .ok (.iaload, 1) := by decide +kernel
theorem dX16_keepPart_6 : decode cX16_keepPart 6 = .ok (.istore_n 2, 1) := by decide +kernel
theorem dX16_keepPart_7 : decode cX16_keepPart 7 = .ok (.bipush 64, 2) := by decide +kernel
theorem dX16_keepPart_9 : decode cX16_keepPart 9 = .ok (.iconst 4, 1) := by decide +kernel
theorem dX16_keepPart_10 : decode cX16_keepPart 10 = .ok (.iload_n 2, 1) := by decide +kernel
theorem dX16_keepPart_11 : decode cX16_keepPart 11 = .ok (.imul, 1) := by decide +kernel
theorem dX16_keepPart_12 : decode cX16_keepPart 12 = .ok (.iadd, 1) := by decide +kernel
theorem dX16_keepPart_13 : decode cX16_keepPart 13 = .ok (.aload_n 0, 1) := by decide +kernel
theorem dX16_keepPart_14 : decode cX16_keepPart 14 = .ok (.getfield 396, 3) := by decide +kernel
theorem dX16_keepPart_17 : decode cX16_keepPart 17 = .ok (.iload_n 1, 1) := by decide +kernel
theorem dX16_keepPart_18 : decode cX16_keepPart 18 = .ok (.iaload, 1) := by decide +kernel
theorem dX16_keepPart_19 : decode cX16_keepPart 19 = .ok (.iadd, 1) := by decide +kernel
theorem dX16_keepPart_20 : decode cX16_keepPart 20 = .ok (.istore_n 3, 1) := by decide +kernel
theorem dX16_keepPart_21 : decode cX16_keepPart 21 = .ok (.aload_n 0, 1) := by decide +kernel
theorem dX16_keepPart_22 : decode cX16_keepPart 22 = .ok (.getfield 694, 3) := by decide +kernel
theorem dX16_keepPart_25 : decode cX16_keepPart 25 = .ok (.iload_n 3, 1) := by decide +kernel
theorem dX16_keepPart_26 : decode cX16_keepPart 26 = .ok (.aload_n 0, 1) := by decide +kernel
theorem dX16_keepPart_27 : decode cX16_keepPart 27 = .ok (.getfield 422, 3) := by decide +kernel
theorem dX16_keepPart_30 : decode cX16_keepPart 30 = .ok (.iload_n 1, 1) := by decide +kernel
theorem dX16_keepPart_31 : decode cX16_keepPart 31 = .ok (.iaload, 1) := by decide +kernel
theorem dX16_keepPart_32 : decode cX16_keepPart 32 = .ok (.iastore, 1) := by decide +kernel
theorem dX16_keepPart_33 : decode cX16_keepPart 33 = .ok (.aload_n 0, 1) := by decide +kernel
theorem dX16_keepPart_34 : decode cX16_keepPart 34 = .ok (.getfield 697, 3) := by decide +kernel
theorem dX16_keepPart_37 : decode cX16_keepPart 37 = .ok (.iload_n 3, 1) := by decide +kernel
theorem dX16_keepPart_38 : decode cX16_keepPart 38 = .ok (.aload_n 0, 1) := by decide +kernel
theorem dX16_keepPart_39 : decode cX16_keepPart 39 = .ok (.getfield 425, 3) := by decide +kernel
theorem dX16_keepPart_42 : decode cX16_keepPart 42 = .ok (.iload_n 1, 1) := by decide +kernel
theorem dX16_keepPart_43 : decode cX16_keepPart 43 = .ok (.iaload, 1) := by decide +kernel
theorem dX16_keepPart_44 : decode cX16_keepPart 44 = .ok (.iastore, 1) := by decide +kernel
theorem dX16_keepPart_45 : decode cX16_keepPart 45 = .ok (.aload_n 0, 1) := by decide +kernel
theorem dX16_keepPart_46 : decode cX16_keepPart 46 = .ok (.getfield 700, 3) := by decide +kernel
theorem dX16_keepPart_49 : decode cX16_keepPart 49 = .ok (.iload_n 3, 1) := by decide +kernel
theorem dX16_keepPart_50 : decode cX16_keepPart 50 = .ok (.aload_n 0, 1) := by decide +kernel
theorem dX16_keepPart_51 : decode cX16_keepPart 51 = .ok (.getfield 414, 3) := by decide +kernel
theorem dX16_keepPart_54 : decode cX16_keepPart 54 = .ok (.iload_n 1, 1) := by decide +kernel
theorem dX16_keepPart_55 : decode cX16_keepPart 55 = .ok (.laload, 1) := by decide +kernel
theorem dX16_keepPart_56 : decode cX16_keepPart 56 = .ok (.lastore, 1) := by decide +kernel
theorem dX16_keepPart_57 : decode cX16_keepPart 57 = .ok (.aload_n 0, 1) := by decide +kernel
theorem dX16_keepPart_58 : decode cX16_keepPart 58 = .ok (.getfield 504, 3) := by decide +kernel
theorem dX16_keepPart_61 : decode cX16_keepPart 61 = .ok (.iload_n 1, 1) := by decide +kernel
theorem dX16_keepPart_62 : decode cX16_keepPart 62 = .ok (.iaload, 1) := by decide +kernel
theorem dX16_keepPart_63 : decode cX16_keepPart 63 = .ok (.istore 4, 2) := by decide +kernel
theorem dX16_keepPart_65 : decode cX16_keepPart 65 = .ok (.iload 4, 2) := by decide +kernel
theorem dX16_keepPart_67 : decode cX16_keepPart 67 = .ok (.iconst (-1), 1) := by decide +kernel
theorem dX16_keepPart_68 : decode cX16_keepPart 68 = .ok (.if_icmp .eq 170, 3) := by decide +kernel
theorem dX16_keepPart_71 : decode cX16_keepPart 71 = .ok (.sipush 4000, 3) := by decide +kernel
theorem dX16_keepPart_74 : decode cX16_keepPart 74 = .ok (.aload_n 0, 1) := by decide +kernel
theorem dX16_keepPart_75 : decode cX16_keepPart 75 = .ok (.getfield 703, 3) := by decide +kernel
theorem dX16_keepPart_78 : decode cX16_keepPart 78 = .ok (.iconst 1, 1) := by decide +kernel
theorem dX16_keepPart_79 : decode cX16_keepPart 79 = .ok (.iaload, 1) := by decide +kernel
theorem dX16_keepPart_80 : decode cX16_keepPart 80 = .ok (.iadd, 1) := by decide +kernel
theorem dX16_keepPart_81 : decode cX16_keepPart 81 = .ok (.istore 5, 2) := by decide +kernel
theorem dX16_keepPart_83 : decode cX16_keepPart 83 = .ok (.aload_n 0, 1) := by decide +kernel
theorem dX16_keepPart_84 : decode cX16_keepPart 84 = .ok (.getfield 703, 3) := by decide +kernel
theorem dX16_keepPart_87 : decode cX16_keepPart 87 = .ok (.iconst 1, 1) := by decide +kernel
theorem dX16_keepPart_88 : decode cX16_keepPart 88 = .ok (.dup2, 1) := by decide +kernel
theorem dX16_keepPart_89 : decode cX16_keepPart 89 = .ok (.iaload, 1) := by decide +kernel
theorem dX16_keepPart_90 : decode cX16_keepPart 90 = .ok (.iconst 1, 1) := by decide +kernel
theorem dX16_keepPart_91 : decode cX16_keepPart 91 = .ok (.iadd, 1) := by decide +kernel
theorem dX16_keepPart_92 : decode cX16_keepPart 92 = .ok (.iastore, 1) := by decide +kernel
theorem dX16_keepPart_93 : decode cX16_keepPart 93 = .ok (.aload_n 0, 1) := by decide +kernel
theorem dX16_keepPart_94 : decode cX16_keepPart 94 = .ok (.getfield 706, 3) := by decide +kernel
theorem dX16_keepPart_97 : decode cX16_keepPart 97 = .ok (.iload 5, 2) := by decide +kernel
theorem dX16_keepPart_99 : decode cX16_keepPart 99 = .ok (.aload_n 0, 1) := by decide +kernel
theorem dX16_keepPart_100 : decode cX16_keepPart 100 = .ok (.getfield 513, 3) := by decide +kernel
theorem dX16_keepPart_103 : decode cX16_keepPart 103 = .ok (.iload 4, 2) := by decide +kernel
theorem dX16_keepPart_105 : decode cX16_keepPart 105 = .ok (.iaload, 1) := by decide +kernel
theorem dX16_keepPart_106 : decode cX16_keepPart 106 = .ok (.iastore, 1) := by decide +kernel
theorem dX16_keepPart_107 : decode cX16_keepPart 107 = .ok (.aload_n 0, 1) := by decide +kernel
theorem dX16_keepPart_108 : decode cX16_keepPart 108 = .ok (.getfield 709, 3) := by decide +kernel
theorem dX16_keepPart_111 : decode cX16_keepPart 111 = .ok (.iload 5, 2) := by decide +kernel
theorem dX16_keepPart_113 : decode cX16_keepPart 113 = .ok (.iload_n 2, 1) := by decide +kernel
theorem dX16_keepPart_114 : decode cX16_keepPart 114 = .ok (.iastore, 1) := by decide +kernel
theorem dX16_keepPart_115 : decode cX16_keepPart 115 = .ok (.aload_n 0, 1) := by decide +kernel
theorem dX16_keepPart_116 : decode cX16_keepPart 116 = .ok (.getfield 712, 3) := by decide +kernel
theorem dX16_keepPart_119 : decode cX16_keepPart 119 = .ok (.iload 5, 2) := by decide +kernel
theorem dX16_keepPart_121 : decode cX16_keepPart 121 = .ok (.aload_n 0, 1) := by decide +kernel
theorem dX16_keepPart_122 : decode cX16_keepPart 122 = .ok (.getfield 396, 3) := by decide +kernel
theorem dX16_keepPart_125 : decode cX16_keepPart 125 = .ok (.iload_n 1, 1) := by decide +kernel
theorem dX16_keepPart_126 : decode cX16_keepPart 126 = .ok (.iaload, 1) := by decide +kernel
theorem dX16_keepPart_127 : decode cX16_keepPart 127 = .ok (.iastore, 1) := by decide +kernel
theorem dX16_keepPart_128 : decode cX16_keepPart 128 = .ok (.aload_n 0, 1) := by decide +kernel
theorem dX16_keepPart_129 : decode cX16_keepPart 129 = .ok (.getfield 715, 3) := by decide +kernel
theorem dX16_keepPart_132 : decode cX16_keepPart 132 = .ok (.iload 5, 2) := by decide +kernel
theorem dX16_keepPart_134 : decode cX16_keepPart 134 = .ok (.aload_n 0, 1) := by decide +kernel
theorem dX16_keepPart_135 : decode cX16_keepPart 135 = .ok (.getfield 519, 3) := by decide +kernel
theorem dX16_keepPart_138 : decode cX16_keepPart 138 = .ok (.iload 4, 2) := by decide +kernel
theorem dX16_keepPart_140 : decode cX16_keepPart 140 = .ok (.laload, 1) := by decide +kernel
theorem dX16_keepPart_141 : decode cX16_keepPart 141 = .ok (.lastore, 1) := by decide +kernel
theorem dX16_keepPart_142 : decode cX16_keepPart 142 = .ok (.aload_n 0, 1) := by decide +kernel
theorem dX16_keepPart_143 : decode cX16_keepPart 143 = .ok (.getfield 718, 3) := by decide +kernel
theorem dX16_keepPart_146 : decode cX16_keepPart 146 = .ok (.iload 5, 2) := by decide +kernel
theorem dX16_keepPart_148 : decode cX16_keepPart 148 = .ok (.aload_n 0, 1) := by decide +kernel
theorem dX16_keepPart_149 : decode cX16_keepPart 149 = .ok (.getfield 522, 3) := by decide +kernel
theorem dX16_keepPart_152 : decode cX16_keepPart 152 = .ok (.iload 4, 2) := by decide +kernel
theorem dX16_keepPart_154 : decode cX16_keepPart 154 = .ok (.laload, 1) := by decide +kernel
theorem dX16_keepPart_155 : decode cX16_keepPart 155 = .ok (.lastore, 1) := by decide +kernel
theorem dX16_keepPart_156 : decode cX16_keepPart 156 = .ok (.aload_n 0, 1) := by decide +kernel
theorem dX16_keepPart_157 : decode cX16_keepPart 157 = .ok (.getfield 721, 3) := by decide +kernel
theorem dX16_keepPart_160 : decode cX16_keepPart 160 = .ok (.iload 5, 2) := by decide +kernel
theorem dX16_keepPart_162 : decode cX16_keepPart 162 = .ok (.aload_n 0, 1) := by decide +kernel
theorem dX16_keepPart_163 : decode cX16_keepPart 163 = .ok (.getfield 525, 3) := by decide +kernel
theorem dX16_keepPart_166 : decode cX16_keepPart 166 = .ok (.iload 4, 2) := by decide +kernel
theorem dX16_keepPart_168 : decode cX16_keepPart 168 = .ok (.laload, 1) := by decide +kernel
theorem dX16_keepPart_169 : decode cX16_keepPart 169 = .ok (.lastore, 1) := by decide +kernel
theorem dX16_keepPart_170 : decode cX16_keepPart 170 = .ok (.aload_n 0, 1) := by decide +kernel
theorem dX16_keepPart_171 : decode cX16_keepPart 171 = .ok (.getfield 724, 3) := by decide +kernel
theorem dX16_keepPart_174 : decode cX16_keepPart 174 = .ok (.iload 5, 2) := by decide +kernel
theorem dX16_keepPart_176 : decode cX16_keepPart 176 = .ok (.aload_n 0, 1) := by decide +kernel
theorem dX16_keepPart_177 : decode cX16_keepPart 177 = .ok (.getfield 531, 3) := by decide +kernel
theorem dX16_keepPart_180 : decode cX16_keepPart 180 = .ok (.iload 4, 2) := by decide +kernel
theorem dX16_keepPart_182 : decode cX16_keepPart 182 = .ok (.iaload, 1) := by decide +kernel
theorem dX16_keepPart_183 : decode cX16_keepPart 183 = .ok (.iastore, 1) := by decide +kernel
theorem dX16_keepPart_184 : decode cX16_keepPart 184 = .ok (.iconst 0, 1) := by decide +kernel
theorem dX16_keepPart_185 : decode cX16_keepPart 185 = .ok (.istore 6, 2) := by decide +kernel
theorem dX16_keepPart_187 : decode cX16_keepPart 187 = .ok (.iload 6, 2) := by decide +kernel
theorem dX16_keepPart_189 : decode cX16_keepPart 189 = .ok (.bipush 8, 2) := by decide +kernel
theorem dX16_keepPart_191 : decode cX16_keepPart 191 = .ok (.if_icmp .ge 35, 3) := by decide +kernel
theorem dX16_keepPart_194 : decode cX16_keepPart 194 = .ok (.aload_n 0, 1) := by decide +kernel
theorem dX16_keepPart_195 : decode cX16_keepPart 195 = .ok (.getfield 727, 3) := by decide +kernel
theorem dX16_keepPart_198 : decode cX16_keepPart 198 = .ok (.bipush 8, 2) := by decide +kernel
theorem dX16_keepPart_200 : decode cX16_keepPart 200 = .ok (.iload 5, 2) := by decide +kernel
theorem dX16_keepPart_202 : decode cX16_keepPart 202 = .ok (.imul, 1) := by decide +kernel
theorem dX16_keepPart_203 : decode cX16_keepPart 203 = .ok (.iload 6, 2) := by decide +kernel
theorem dX16_keepPart_205 : decode cX16_keepPart 205 = .ok (.iadd, 1) := by decide +kernel
theorem dX16_keepPart_206 : decode cX16_keepPart 206 = .ok (.aload_n 0, 1) := by decide +kernel
theorem dX16_keepPart_207 : decode cX16_keepPart 207 = .ok (.getfield 528, 3) := by decide +kernel
theorem dX16_keepPart_210 : decode cX16_keepPart 210 = .ok (.bipush 8, 2) := by decide +kernel
theorem dX16_keepPart_212 : decode cX16_keepPart 212 = .ok (.iload 4, 2) := by decide +kernel
theorem dX16_keepPart_214 : decode cX16_keepPart 214 = .ok (.imul, 1) := by decide +kernel
theorem dX16_keepPart_215 : decode cX16_keepPart 215 = .ok (.iload 6, 2) := by decide +kernel
theorem dX16_keepPart_217 : decode cX16_keepPart 217 = .ok (.iadd, 1) := by decide +kernel
theorem dX16_keepPart_218 : decode cX16_keepPart 218 = .ok (.laload, 1) := by decide +kernel
theorem dX16_keepPart_219 : decode cX16_keepPart 219 = .ok (.lastore, 1) := by decide +kernel
theorem dX16_keepPart_220 : decode cX16_keepPart 220 = .ok (.iinc 6 1, 3) := by decide +kernel
theorem dX16_keepPart_223 : decode cX16_keepPart 223 = .ok (.goto (-36), 3) := by decide +kernel
theorem dX16_keepPart_226 : decode cX16_keepPart 226 = .ok (.aload_n 0, 1) := by decide +kernel
theorem dX16_keepPart_227 : decode cX16_keepPart 227 = .ok (.getfield 495, 3) := by decide +kernel
theorem dX16_keepPart_230 : decode cX16_keepPart 230 = .ok (.iload 4, 2) := by decide +kernel
theorem dX16_keepPart_232 : decode cX16_keepPart 232 = .ok (.iaload, 1) := by decide +kernel
theorem dX16_keepPart_233 : decode cX16_keepPart 233 = .ok (.istore 4, 2) := by decide +kernel
theorem dX16_keepPart_235 : decode cX16_keepPart 235 = .ok (.goto (-170), 3) := by decide +kernel
theorem dX16_keepPart_238 : decode cX16_keepPart 238 = .ok (.aload_n 0, 1) := by decide +kernel
theorem dX16_keepPart_239 : decode cX16_keepPart 239 = .ok (.getfield 428, 3) := by decide +kernel
theorem dX16_keepPart_242 : decode cX16_keepPart 242 = .ok (.iload_n 1, 1) := by decide +kernel
theorem dX16_keepPart_243 : decode cX16_keepPart 243 = .ok (.iconst 1, 1) := by decide +kernel
theorem dX16_keepPart_244 : decode cX16_keepPart 244 = .ok (.bastore, 1) := by decide +kernel
theorem dX16_keepPart_245 : decode cX16_keepPart 245 = .ok (.return_, 1) := by decide +kernel
set_option maxRecDepth 20000 in
theorem a_X16_keepPart_238 {Q : Sg → Unit → Prop} {X : Sg → String → Prop} (K : MC R p s m args c cX16_keepPart 7 RX16 D cA tys A n0 s0 0 0 []) (hQ : HQV p l e R s m args below meth c cX16_keepPart D cA A n0 s0 QM dm ra jx rm Q) (hX : HX p l e R s m args below meth c 7 D cA A n0 s0 QM dm ra jx rm X) : ∀ (σ : Sg) (v1 : Int) (g1 : rng v1), w_X16_keepPart_238 ra jx rm Q X σ v1 → RG σ → Shp dm ra jx rm σ → JJ p l e R s m args below meth c 7 D cA A n0 s0 QM σ 238 [(0, .ref rm), (1, .int (i32 v1))] [] := by
  intro σ v1 g1 h hGσ hS H locs ls hH hl hc
  have B := K.1
  unfold w_X16_keepPart_238 at h
  refine lv_aload_n B.1 B.2.1 dX16_keepPart_238 rfl (lv_at hl 0 rfl) ?_
  refine r_arr B hH hS 44 (kd := 103) (n := 64) (by decide) (by decide) wf_X16_428 rfl rfl dX16_keepPart_239 ?_
  refine lv_iload_n B.1 B.2.1 dX16_keepPart_242 rfl (lv_at hl 1 rfl) ?_
  refine lv_iconst (v := i32 1) B.1 B.2.1 dX16_keepPart_243 (by decide) ?_
  obtain ⟨q1, h⟩ := h
  obtain ⟨σ27, eσ27⟩ : ∃ z, z = pI σ (ra 44) v1.toNat (nZ 1) := ⟨_, rfl⟩
  have h := h σ27 eσ27
  refine x_zast B K.2.1 hH (hS.ar (k := 44) (kd := 103) (n := 64) (by decide)) (by decide) q1 dX16_keepPart_244 (fun H locs hH => ?_)
  have hH : Hd D cA A s (pI σ (ra 44) v1.toNat (nZ 1)) H locs := hH
  rw [← eσ27] at hH
  have hGσ27 : RG σ27 := by rw [eσ27]; exact hGσ.pI (rng_toInt _)
  have hS : Shp dm ra jx rm σ27 := by rw [eσ27]; exact hS
  have hc : CB n0 s0 σ27 := by rw [eσ27]; exact hc
  rw [show gc σ = gc σ27 by rw [eσ27], show gs σ = gs σ27 by rw [eσ27]]
  exact hQ _ _ _ _ _ dX16_keepPart_245 hH hc h hGσ27 hS
set_option maxRecDepth 20000 in
theorem a_X16_keepPart_226 {Q : Sg → Unit → Prop} {X : Sg → String → Prop} (K : MC R p s m args c cX16_keepPart 7 RX16 D cA tys A n0 s0 0 0 []) (hQ : HQV p l e R s m args below meth c cX16_keepPart D cA A n0 s0 QM dm ra jx rm Q) (hX : HX p l e R s m args below meth c 7 D cA A n0 s0 QM dm ra jx rm X) {K65 : Sg → Int → Int → Int → Prop} (hK65 : ∀ (σ : Sg) (v1 : Int) (v2 : Int) (v4 : Int) (g1 : rng v1) (g2 : rng v2) (g4 : rng v4), K65 σ v1 v2 v4 → RG σ → Shp dm ra jx rm σ → JJ p l e R s m args below meth c 7 D cA A n0 s0 QM σ 65 [(0, .ref rm), (1, .int (i32 v1)), (2, .int (i32 v2)), (4, .int (i32 v4))] []) : ∀ (σ : Sg) (v1 : Int) (v2 : Int) (v4 : Int) (g1 : rng v1) (g2 : rng v2) (g4 : rng v4), w_X16_keepPart_226 ra jx rm K65 Q X σ v1 v2 v4 → RG σ → Shp dm ra jx rm σ → JJ p l e R s m args below meth c 7 D cA A n0 s0 QM σ 226 [(0, .ref rm), (1, .int (i32 v1)), (2, .int (i32 v2)), (4, .int (i32 v4))] [] := by
  intro σ v1 v2 v4 g1 g2 g4 h hGσ hS H locs ls hH hl hc
  have B := K.1
  unfold w_X16_keepPart_226 at h
  refine lv_aload_n B.1 B.2.1 dX16_keepPart_226 rfl (lv_at hl 0 rfl) ?_
  refine r_arr B hH hS 75 (kd := 100) (n := 4000) (by decide) (by decide) wf_X16_495 rfl rfl dX16_keepPart_227 ?_
  refine lv_iload B.1 B.2.1 dX16_keepPart_230 (lv_at hl 3 rfl) ?_
  obtain ⟨q1, h⟩ := h
  refine x_iald B K.2.1 hH (hS.ar (k := 75) (kd := 100) (n := 4000) (by decide)) (by decide) q1 dX16_keepPart_232 ?_
  refine lv_istore (lv' := [(4, .int (i32 (gI σ (ra 75) v4.toNat))), (0, .ref rm), (1, .int (i32 v1)), (2, .int (i32 v2))]) B.1 B.2.1 dX16_keepPart_233 hl (by decide) rfl (fun ls hl => ?_)
  refine lv_goto (tgt := 65) B.1 B.2.1 dX16_keepPart_235 (by decide) ?_
  exact hK65 _ _ _ _ g1 g2 (hGσ _ _) h hGσ hS _ _ _ hH (lv_sub (l' := [(0, .ref rm), (1, .int (i32 v1)), (2, .int (i32 v2)), (4, .int (i32 (gI σ (ra 75) v4.toNat)))]) hl [1, 2, 3, 0] rfl) hc
set_option maxRecDepth 20000 in
theorem a_X16_keepPart_194 {Q : Sg → Unit → Prop} {X : Sg → String → Prop} (K : MC R p s m args c cX16_keepPart 7 RX16 D cA tys A n0 s0 0 0 []) (hQ : HQV p l e R s m args below meth c cX16_keepPart D cA A n0 s0 QM dm ra jx rm Q) (hX : HX p l e R s m args below meth c 7 D cA A n0 s0 QM dm ra jx rm X) {K65 : Sg → Int → Int → Int → Prop} (hK65 : ∀ (σ : Sg) (v1 : Int) (v2 : Int) (v4 : Int) (g1 : rng v1) (g2 : rng v2) (g4 : rng v4), K65 σ v1 v2 v4 → RG σ → Shp dm ra jx rm σ → JJ p l e R s m args below meth c 7 D cA A n0 s0 QM σ 65 [(0, .ref rm), (1, .int (i32 v1)), (2, .int (i32 v2)), (4, .int (i32 v4))] []) {K187 : Sg → Int → Int → Int → Int → Int → Prop} (hK187 : ∀ (σ : Sg) (v1 : Int) (v2 : Int) (v4 : Int) (v5 : Int) (v6 : Int) (g1 : rng v1) (g2 : rng v2) (g4 : rng v4) (g5 : rng v5) (g6 : rng v6), K187 σ v1 v2 v4 v5 v6 → RG σ → Shp dm ra jx rm σ → JJ p l e R s m args below meth c 7 D cA A n0 s0 QM σ 187 [(0, .ref rm), (1, .int (i32 v1)), (2, .int (i32 v2)), (4, .int (i32 v4)), (5, .int (i32 v5)), (6, .int (i32 v6))] []) : ∀ (σ : Sg) (v1 : Int) (v2 : Int) (v4 : Int) (v5 : Int) (v6 : Int) (g1 : rng v1) (g2 : rng v2) (g4 : rng v4) (g5 : rng v5) (g6 : rng v6), w_X16_keepPart_194 ra jx rm K65 K187 Q X σ v1 v2 v4 v5 v6 → RG σ → Shp dm ra jx rm σ → JJ p l e R s m args below meth c 7 D cA A n0 s0 QM σ 194 [(0, .ref rm), (1, .int (i32 v1)), (2, .int (i32 v2)), (4, .int (i32 v4)), (5, .int (i32 v5)), (6, .int (i32 v6))] [] := by
  intro σ v1 v2 v4 v5 v6 g1 g2 g4 g5 g6 h hGσ hS H locs ls hH hl hc
  have B := K.1
  unfold w_X16_keepPart_194 at h
  refine lv_aload_n B.1 B.2.1 dX16_keepPart_194 rfl (lv_at hl 0 rfl) ?_
  refine r_arr B hH hS 105 (kd := 101) (n := 64000) (by decide) (by decide) wf_X16_727 rfl rfl dX16_keepPart_195 ?_
  refine lv_bipush (v := i32 8) B.1 B.2.1 dX16_keepPart_198 (by decide) ?_
  refine lv_iload B.1 B.2.1 dX16_keepPart_200 (lv_at hl 4 rfl) ?_
  obtain ⟨q1, h⟩ := h
  refine lv_imul B.1 B.2.1 dX16_keepPart_202 ?_
  rw [i32_mul]
  refine lv_iload B.1 B.2.1 dX16_keepPart_203 (lv_at hl 5 rfl) ?_
  obtain ⟨q2, h⟩ := h
  refine lv_iadd B.1 B.2.1 dX16_keepPart_205 ?_
  rw [i32_add]
  refine lv_aload_n B.1 B.2.1 dX16_keepPart_206 rfl (lv_at hl 0 rfl) ?_
  refine r_arr B hH hS 73 (kd := 101) (n := 32000) (by decide) (by decide) wf_X16_528 rfl rfl dX16_keepPart_207 ?_
  refine lv_bipush (v := i32 8) B.1 B.2.1 dX16_keepPart_210 (by decide) ?_
  refine lv_iload B.1 B.2.1 dX16_keepPart_212 (lv_at hl 3 rfl) ?_
  obtain ⟨q3, h⟩ := h
  refine lv_imul B.1 B.2.1 dX16_keepPart_214 ?_
  rw [i32_mul]
  refine lv_iload B.1 B.2.1 dX16_keepPart_215 (lv_at hl 5 rfl) ?_
  obtain ⟨q4, h⟩ := h
  refine lv_iadd B.1 B.2.1 dX16_keepPart_217 ?_
  rw [i32_add]
  obtain ⟨q5, h⟩ := h
  refine x_lald B K.2.1 hH (hS.ar (k := 73) (kd := 101) (n := 32000) (by decide)) (by decide) q5 dX16_keepPart_218 ?_
  obtain ⟨q6, h⟩ := h
  obtain ⟨σ28, eσ28⟩ : ∃ z, z = pJ σ (ra 105) ((8 * v5) + v6).toNat (gJ σ (ra 73) ((8 * v4) + v6).toNat) := ⟨_, rfl⟩
  have h := h σ28 eσ28
  refine x_last B K.2.1 hH (hS.ar (k := 105) (kd := 101) (n := 64000) (by decide)) (by decide) q6 dX16_keepPart_219 (fun H locs hH => ?_)
  have hH : Hd D cA A s (pJ σ (ra 105) ((8 * v5) + v6).toNat (gJ σ (ra 73) ((8 * v4) + v6).toNat)) H locs := hH
  rw [← eσ28] at hH
  have hGσ28 : RG σ28 := by rw [eσ28]; exact hGσ.pJ
  have hS : Shp dm ra jx rm σ28 := by rw [eσ28]; exact hS
  have hc : CB n0 s0 σ28 := by rw [eσ28]; exact hc
  rw [show gc σ = gc σ28 by rw [eσ28], show gs σ = gs σ28 by rw [eσ28]]
  obtain ⟨q8, h⟩ := h
  refine lv_iinc (k := 5) (v := i32 (v6 + 1)) (lv' := [(6, .int (i32 (v6 + 1))), (0, .ref rm), (1, .int (i32 v1)), (2, .int (i32 v2)), (4, .int (i32 v4)), (5, .int (i32 v5))]) B.1 B.2.1 dX16_keepPart_220 hl rfl (i32_add _ _) (by decide) rfl (fun ls hl => ?_)
  refine lv_goto (tgt := 187) B.1 B.2.1 dX16_keepPart_223 (by decide) ?_
  exact hK187 _ _ _ _ _ _ g1 g2 g4 g5 q8 h hGσ28 hS _ _ _ hH (lv_sub (l' := [(0, .ref rm), (1, .int (i32 v1)), (2, .int (i32 v2)), (4, .int (i32 v4)), (5, .int (i32 v5)), (6, .int (i32 (v6 + 1)))]) hl [1, 2, 3, 4, 5, 0] rfl) hc
set_option maxRecDepth 20000 in
theorem a_X16_keepPart_187 {Q : Sg → Unit → Prop} {X : Sg → String → Prop} (K : MC R p s m args c cX16_keepPart 7 RX16 D cA tys A n0 s0 0 0 []) (hQ : HQV p l e R s m args below meth c cX16_keepPart D cA A n0 s0 QM dm ra jx rm Q) (hX : HX p l e R s m args below meth c 7 D cA A n0 s0 QM dm ra jx rm X) {K65 : Sg → Int → Int → Int → Prop} (hK65 : ∀ (σ : Sg) (v1 : Int) (v2 : Int) (v4 : Int) (g1 : rng v1) (g2 : rng v2) (g4 : rng v4), K65 σ v1 v2 v4 → RG σ → Shp dm ra jx rm σ → JJ p l e R s m args below meth c 7 D cA A n0 s0 QM σ 65 [(0, .ref rm), (1, .int (i32 v1)), (2, .int (i32 v2)), (4, .int (i32 v4))] []) {K187 : Sg → Int → Int → Int → Int → Int → Prop} (hK187 : ∀ (σ : Sg) (v1 : Int) (v2 : Int) (v4 : Int) (v5 : Int) (v6 : Int) (g1 : rng v1) (g2 : rng v2) (g4 : rng v4) (g5 : rng v5) (g6 : rng v6), K187 σ v1 v2 v4 v5 v6 → RG σ → Shp dm ra jx rm σ → JJ p l e R s m args below meth c 7 D cA A n0 s0 QM σ 187 [(0, .ref rm), (1, .int (i32 v1)), (2, .int (i32 v2)), (4, .int (i32 v4)), (5, .int (i32 v5)), (6, .int (i32 v6))] []) : ∀ (σ : Sg) (v1 : Int) (v2 : Int) (v4 : Int) (v5 : Int) (v6 : Int) (g1 : rng v1) (g2 : rng v2) (g4 : rng v4) (g5 : rng v5) (g6 : rng v6), w_X16_keepPart_187 ra jx rm K65 K187 Q X σ v1 v2 v4 v5 v6 → RG σ → Shp dm ra jx rm σ → JJ p l e R s m args below meth c 7 D cA A n0 s0 QM σ 187 [(0, .ref rm), (1, .int (i32 v1)), (2, .int (i32 v2)), (4, .int (i32 v4)), (5, .int (i32 v5)), (6, .int (i32 v6))] [] := by
  intro σ v1 v2 v4 v5 v6 g1 g2 g4 g5 g6 h hGσ hS H locs ls hH hl hc
  have B := K.1
  unfold w_X16_keepPart_187 at h
  refine lv_iload B.1 B.2.1 dX16_keepPart_187 (lv_at hl 5 rfl) ?_
  refine lv_bipush (v := i32 8) B.1 B.2.1 dX16_keepPart_189 (by decide) ?_
  refine lv_icmp_ge (tgt := 226) B.1 B.2.1 dX16_keepPart_191 (by decide) (fun h9 => ?_) (fun h9 => ?_)
  · rw [if_pos ((i32_le (by unfold rng; omega) g6).mp h9)] at h
    exact a_X16_keepPart_226 K hQ hX hK65 _ _ _ _ g1 g2 g4 h hGσ hS _ _ _ hH (lv_sub (l' := [(0, .ref rm), (1, .int (i32 v1)), (2, .int (i32 v2)), (4, .int (i32 v4))]) hl [0, 1, 2, 3] rfl) hc
  · rw [if_neg (fun q => h9 ((i32_le (by unfold rng; omega) g6).mpr q))] at h
    exact a_X16_keepPart_194 K hQ hX hK65 hK187 _ _ _ _ _ _ g1 g2 g4 g5 g6 h hGσ hS _ _ _ hH (lv_sub (l' := [(0, .ref rm), (1, .int (i32 v1)), (2, .int (i32 v2)), (4, .int (i32 v4)), (5, .int (i32 v5)), (6, .int (i32 v6))]) hl [0, 1, 2, 3, 4, 5] rfl) hc
theorem al_X16_keepPart_187 {Q : Sg → Unit → Prop} {X : Sg → String → Prop} (K : MC R p s m args c cX16_keepPart 7 RX16 D cA tys A n0 s0 0 0 []) (hQ : HQV p l e R s m args below meth c cX16_keepPart D cA A n0 s0 QM dm ra jx rm Q) (hX : HX p l e R s m args below meth c 7 D cA A n0 s0 QM dm ra jx rm X) {K65 : Sg → Int → Int → Int → Prop} (hK65 : ∀ (σ : Sg) (v1 : Int) (v2 : Int) (v4 : Int) (g1 : rng v1) (g2 : rng v2) (g4 : rng v4), K65 σ v1 v2 v4 → RG σ → Shp dm ra jx rm σ → JJ p l e R s m args below meth c 7 D cA A n0 s0 QM σ 65 [(0, .ref rm), (1, .int (i32 v1)), (2, .int (i32 v2)), (4, .int (i32 v4))] []) : ∀ (n : Nat), ∀ (σ : Sg) (v1 : Int) (v2 : Int) (v4 : Int) (v5 : Int) (v6 : Int) (g1 : rng v1) (g2 : rng v2) (g4 : rng v4) (g5 : rng v5) (g6 : rng v6), wl_X16_keepPart_187 ra jx rm K65 Q X n σ v1 v2 v4 v5 v6 → RG σ → Shp dm ra jx rm σ → JJ p l e R s m args below meth c 7 D cA A n0 s0 QM σ 187 [(0, .ref rm), (1, .int (i32 v1)), (2, .int (i32 v2)), (4, .int (i32 v4)), (5, .int (i32 v5)), (6, .int (i32 v6))] [] := by
  intro n
  induction n with
  | zero => intro σ v1 v2 v4 v5 v6 g1 g2 g4 g5 g6 h; exact h.elim
  | succ n ih => exact fun σ v1 v2 v4 v5 v6 g1 g2 g4 g5 g6 h => a_X16_keepPart_187 K hQ hX hK65 ih σ v1 v2 v4 v5 v6 g1 g2 g4 g5 g6 h
set_option maxRecDepth 20000 in
theorem a_X16_keepPart_71 {Q : Sg → Unit → Prop} {X : Sg → String → Prop} (K : MC R p s m args c cX16_keepPart 7 RX16 D cA tys A n0 s0 0 0 []) (hQ : HQV p l e R s m args below meth c cX16_keepPart D cA A n0 s0 QM dm ra jx rm Q) (hX : HX p l e R s m args below meth c 7 D cA A n0 s0 QM dm ra jx rm X) {K65 : Sg → Int → Int → Int → Prop} (hK65 : ∀ (σ : Sg) (v1 : Int) (v2 : Int) (v4 : Int) (g1 : rng v1) (g2 : rng v2) (g4 : rng v4), K65 σ v1 v2 v4 → RG σ → Shp dm ra jx rm σ → JJ p l e R s m args below meth c 7 D cA A n0 s0 QM σ 65 [(0, .ref rm), (1, .int (i32 v1)), (2, .int (i32 v2)), (4, .int (i32 v4))] []) : ∀ (σ : Sg) (v1 : Int) (v2 : Int) (v4 : Int) (g1 : rng v1) (g2 : rng v2) (g4 : rng v4), w_X16_keepPart_71 ra jx rm K65 Q X σ v1 v2 v4 → RG σ → Shp dm ra jx rm σ → JJ p l e R s m args below meth c 7 D cA A n0 s0 QM σ 71 [(0, .ref rm), (1, .int (i32 v1)), (2, .int (i32 v2)), (4, .int (i32 v4))] [] := by
  intro σ v1 v2 v4 g1 g2 g4 h hGσ hS H locs ls hH hl hc
  have B := K.1
  unfold w_X16_keepPart_71 at h
  refine lv_sipush (v := i32 4000) B.1 B.2.1 dX16_keepPart_71 (by decide) ?_
  refine lv_aload_n B.1 B.2.1 dX16_keepPart_74 rfl (lv_at hl 0 rfl) ?_
  refine r_arr B hH hS 98 (kd := 100) (n := 2) (by decide) (by decide) wf_X16_703 rfl rfl dX16_keepPart_75 ?_
  refine lv_iconst (v := i32 1) B.1 B.2.1 dX16_keepPart_78 (by decide) ?_
  refine x_iald B K.2.1 hH (hS.ar (k := 98) (kd := 100) (n := 2) (by decide)) (by decide) (by decide) dX16_keepPart_79 ?_
  refine W.eq (g2 := F0 m 80 ls [.int (i32 (gI σ (ra 98) 1)), .int (i32 4000)]) (rfl) ?_
  obtain ⟨q1, h⟩ := h
  refine lv_iadd B.1 B.2.1 dX16_keepPart_80 ?_
  rw [i32_add]
  refine lv_istore (lv' := [(5, .int (i32 (4000 + (gI σ (ra 98) 1)))), (0, .ref rm), (1, .int (i32 v1)), (2, .int (i32 v2)), (4, .int (i32 v4))]) B.1 B.2.1 dX16_keepPart_81 hl (by decide) rfl (fun ls hl => ?_)
  refine lv_aload_n B.1 B.2.1 dX16_keepPart_83 rfl (lv_at hl 1 rfl) ?_
  refine r_arr B hH hS 98 (kd := 100) (n := 2) (by decide) (by decide) wf_X16_703 rfl rfl dX16_keepPart_84 ?_
  refine lv_iconst (v := i32 1) B.1 B.2.1 dX16_keepPart_87 (by decide) ?_
  refine lv_dup2_11 B.1 B.2.1 dX16_keepPart_88 rfl rfl ?_
  refine x_iald B K.2.1 hH (hS.ar (k := 98) (kd := 100) (n := 2) (by decide)) (by decide) (by decide) dX16_keepPart_89 ?_
  refine W.eq (g2 := F0 m 90 ls [.int (i32 (gI σ (ra 98) 1)), .int (i32 1), .ref (ra 98)]) (rfl) ?_
  refine lv_iconst (v := i32 1) B.1 B.2.1 dX16_keepPart_90 (by decide) ?_
  obtain ⟨q2, h⟩ := h
  refine lv_iadd B.1 B.2.1 dX16_keepPart_91 ?_
  rw [i32_add]
  obtain ⟨σ29, eσ29⟩ : ∃ z, z = pI σ (ra 98) 1 ((gI σ (ra 98) 1) + 1) := ⟨_, rfl⟩
  have h := h σ29 eσ29
  refine x_iast B K.2.1 hH (hS.ar (k := 98) (kd := 100) (n := 2) (by decide)) (by decide) (by decide) dX16_keepPart_92 (fun H locs hH => ?_)
  have hH : Hd D cA A s (pI σ (ra 98) 1 ((gI σ (ra 98) 1) + 1)) H locs := hH
  rw [← eσ29] at hH
  have hGσ29 : RG σ29 := by rw [eσ29]; exact hGσ.pI q2
  have hS : Shp dm ra jx rm σ29 := by rw [eσ29]; exact hS
  have hc : CB n0 s0 σ29 := by rw [eσ29]; exact hc
  rw [show gc σ = gc σ29 by rw [eσ29], show gs σ = gs σ29 by rw [eσ29]]
  refine lv_aload_n B.1 B.2.1 dX16_keepPart_93 rfl (lv_at hl 1 rfl) ?_
  refine r_arr B hH hS 99 (kd := 100) (n := 8000) (by decide) (by decide) wf_X16_706 rfl rfl dX16_keepPart_94 ?_
  refine lv_iload B.1 B.2.1 dX16_keepPart_97 (lv_at hl 0 rfl) ?_
  refine lv_aload_n B.1 B.2.1 dX16_keepPart_99 rfl (lv_at hl 1 rfl) ?_
  refine r_arr B hH hS 68 (kd := 100) (n := 4000) (by decide) (by decide) wf_X16_513 rfl rfl dX16_keepPart_100 ?_
  refine lv_iload B.1 B.2.1 dX16_keepPart_103 (lv_at hl 4 rfl) ?_
  obtain ⟨q4, h⟩ := h
  refine x_iald B K.2.1 hH (hS.ar (k := 68) (kd := 100) (n := 4000) (by decide)) (by decide) q4 dX16_keepPart_105 ?_
  obtain ⟨q5, h⟩ := h
  obtain ⟨σ30, eσ30⟩ : ∃ z, z = pI σ29 (ra 99) (4000 + (gI σ (ra 98) 1)).toNat (gI σ29 (ra 68) v4.toNat) := ⟨_, rfl⟩
  have h := h σ30 eσ30
  refine x_iast B K.2.1 hH (hS.ar (k := 99) (kd := 100) (n := 8000) (by decide)) (by decide) q5 dX16_keepPart_106 (fun H locs hH => ?_)
  have hH : Hd D cA A s (pI σ29 (ra 99) (4000 + (gI σ (ra 98) 1)).toNat (gI σ29 (ra 68) v4.toNat)) H locs := hH
  rw [← eσ30] at hH
  have hGσ30 : RG σ30 := by rw [eσ30]; exact hGσ29.pI (hGσ29 _ _)
  have hS : Shp dm ra jx rm σ30 := by rw [eσ30]; exact hS
  have hc : CB n0 s0 σ30 := by rw [eσ30]; exact hc
  rw [show gc σ29 = gc σ30 by rw [eσ30], show gs σ29 = gs σ30 by rw [eσ30]]
  refine lv_aload_n B.1 B.2.1 dX16_keepPart_107 rfl (lv_at hl 1 rfl) ?_
  refine r_arr B hH hS 100 (kd := 100) (n := 8000) (by decide) (by decide) wf_X16_709 rfl rfl dX16_keepPart_108 ?_
  refine lv_iload B.1 B.2.1 dX16_keepPart_111 (lv_at hl 0 rfl) ?_
  refine lv_iload_n B.1 B.2.1 dX16_keepPart_113 rfl (lv_at hl 3 rfl) ?_
  obtain ⟨q7, h⟩ := h
  obtain ⟨σ31, eσ31⟩ : ∃ z, z = pI σ30 (ra 100) (4000 + (gI σ (ra 98) 1)).toNat v2 := ⟨_, rfl⟩
  have h := h σ31 eσ31
  refine x_iast B K.2.1 hH (hS.ar (k := 100) (kd := 100) (n := 8000) (by decide)) (by decide) q7 dX16_keepPart_114 (fun H locs hH => ?_)
  have hH : Hd D cA A s (pI σ30 (ra 100) (4000 + (gI σ (ra 98) 1)).toNat v2) H locs := hH
  rw [← eσ31] at hH
  have hGσ31 : RG σ31 := by rw [eσ31]; exact hGσ30.pI g2
  have hS : Shp dm ra jx rm σ31 := by rw [eσ31]; exact hS
  have hc : CB n0 s0 σ31 := by rw [eσ31]; exact hc
  rw [show gc σ30 = gc σ31 by rw [eσ31], show gs σ30 = gs σ31 by rw [eσ31]]
  refine lv_aload_n B.1 B.2.1 dX16_keepPart_115 rfl (lv_at hl 1 rfl) ?_
  refine r_arr B hH hS 101 (kd := 100) (n := 8000) (by decide) (by decide) wf_X16_712 rfl rfl dX16_keepPart_116 ?_
  refine lv_iload B.1 B.2.1 dX16_keepPart_119 (lv_at hl 0 rfl) ?_
  refine lv_aload_n B.1 B.2.1 dX16_keepPart_121 rfl (lv_at hl 1 rfl) ?_
  refine r_arr B hH hS 39 (kd := 100) (n := 64) (by decide) (by decide) wf_X16_396 rfl rfl dX16_keepPart_122 ?_
  refine lv_iload_n B.1 B.2.1 dX16_keepPart_125 rfl (lv_at hl 2 rfl) ?_
  obtain ⟨q9, h⟩ := h
  refine x_iald B K.2.1 hH (hS.ar (k := 39) (kd := 100) (n := 64) (by decide)) (by decide) q9 dX16_keepPart_126 ?_
  obtain ⟨q10, h⟩ := h
  obtain ⟨σ32, eσ32⟩ : ∃ z, z = pI σ31 (ra 101) (4000 + (gI σ (ra 98) 1)).toNat (gI σ31 (ra 39) v1.toNat) := ⟨_, rfl⟩
  have h := h σ32 eσ32
  refine x_iast B K.2.1 hH (hS.ar (k := 101) (kd := 100) (n := 8000) (by decide)) (by decide) q10 dX16_keepPart_127 (fun H locs hH => ?_)
  have hH : Hd D cA A s (pI σ31 (ra 101) (4000 + (gI σ (ra 98) 1)).toNat (gI σ31 (ra 39) v1.toNat)) H locs := hH
  rw [← eσ32] at hH
  have hGσ32 : RG σ32 := by rw [eσ32]; exact hGσ31.pI (hGσ31 _ _)
  have hS : Shp dm ra jx rm σ32 := by rw [eσ32]; exact hS
  have hc : CB n0 s0 σ32 := by rw [eσ32]; exact hc
  rw [show gc σ31 = gc σ32 by rw [eσ32], show gs σ31 = gs σ32 by rw [eσ32]]
  refine lv_aload_n B.1 B.2.1 dX16_keepPart_128 rfl (lv_at hl 1 rfl) ?_
  refine r_arr B hH hS 102 (kd := 101) (n := 8000) (by decide) (by decide) wf_X16_715 rfl rfl dX16_keepPart_129 ?_
  refine lv_iload B.1 B.2.1 dX16_keepPart_132 (lv_at hl 0 rfl) ?_
  refine lv_aload_n B.1 B.2.1 dX16_keepPart_134 rfl (lv_at hl 1 rfl) ?_
  refine r_arr B hH hS 70 (kd := 101) (n := 4000) (by decide) (by decide) wf_X16_519 rfl rfl dX16_keepPart_135 ?_
  refine lv_iload B.1 B.2.1 dX16_keepPart_138 (lv_at hl 4 rfl) ?_
  obtain ⟨q12, h⟩ := h
  refine x_lald B K.2.1 hH (hS.ar (k := 70) (kd := 101) (n := 4000) (by decide)) (by decide) q12 dX16_keepPart_140 ?_
  obtain ⟨q13, h⟩ := h
  obtain ⟨σ33, eσ33⟩ : ∃ z, z = pJ σ32 (ra 102) (4000 + (gI σ (ra 98) 1)).toNat (gJ σ32 (ra 70) v4.toNat) := ⟨_, rfl⟩
  have h := h σ33 eσ33
  refine x_last B K.2.1 hH (hS.ar (k := 102) (kd := 101) (n := 8000) (by decide)) (by decide) q13 dX16_keepPart_141 (fun H locs hH => ?_)
  have hH : Hd D cA A s (pJ σ32 (ra 102) (4000 + (gI σ (ra 98) 1)).toNat (gJ σ32 (ra 70) v4.toNat)) H locs := hH
  rw [← eσ33] at hH
  have hGσ33 : RG σ33 := by rw [eσ33]; exact hGσ32.pJ
  have hS : Shp dm ra jx rm σ33 := by rw [eσ33]; exact hS
  have hc : CB n0 s0 σ33 := by rw [eσ33]; exact hc
  rw [show gc σ32 = gc σ33 by rw [eσ33], show gs σ32 = gs σ33 by rw [eσ33]]
  refine lv_aload_n B.1 B.2.1 dX16_keepPart_142 rfl (lv_at hl 1 rfl) ?_
  refine r_arr B hH hS 103 (kd := 101) (n := 8000) (by decide) (by decide) wf_X16_718 rfl rfl dX16_keepPart_143 ?_
  refine lv_iload B.1 B.2.1 dX16_keepPart_146 (lv_at hl 0 rfl) ?_
  refine lv_aload_n B.1 B.2.1 dX16_keepPart_148 rfl (lv_at hl 1 rfl) ?_
  refine r_arr B hH hS 71 (kd := 101) (n := 4000) (by decide) (by decide) wf_X16_522 rfl rfl dX16_keepPart_149 ?_
  refine lv_iload B.1 B.2.1 dX16_keepPart_152 (lv_at hl 4 rfl) ?_
  obtain ⟨q15, h⟩ := h
  refine x_lald B K.2.1 hH (hS.ar (k := 71) (kd := 101) (n := 4000) (by decide)) (by decide) q15 dX16_keepPart_154 ?_
  obtain ⟨q16, h⟩ := h
  obtain ⟨σ34, eσ34⟩ : ∃ z, z = pJ σ33 (ra 103) (4000 + (gI σ (ra 98) 1)).toNat (gJ σ33 (ra 71) v4.toNat) := ⟨_, rfl⟩
  have h := h σ34 eσ34
  refine x_last B K.2.1 hH (hS.ar (k := 103) (kd := 101) (n := 8000) (by decide)) (by decide) q16 dX16_keepPart_155 (fun H locs hH => ?_)
  have hH : Hd D cA A s (pJ σ33 (ra 103) (4000 + (gI σ (ra 98) 1)).toNat (gJ σ33 (ra 71) v4.toNat)) H locs := hH
  rw [← eσ34] at hH
  have hGσ34 : RG σ34 := by rw [eσ34]; exact hGσ33.pJ
  have hS : Shp dm ra jx rm σ34 := by rw [eσ34]; exact hS
  have hc : CB n0 s0 σ34 := by rw [eσ34]; exact hc
  rw [show gc σ33 = gc σ34 by rw [eσ34], show gs σ33 = gs σ34 by rw [eσ34]]
  refine lv_aload_n B.1 B.2.1 dX16_keepPart_156 rfl (lv_at hl 1 rfl) ?_
  refine r_arr B hH hS 104 (kd := 101) (n := 8000) (by decide) (by decide) wf_X16_721 rfl rfl dX16_keepPart_157 ?_
  refine lv_iload B.1 B.2.1 dX16_keepPart_160 (lv_at hl 0 rfl) ?_
  refine lv_aload_n B.1 B.2.1 dX16_keepPart_162 rfl (lv_at hl 1 rfl) ?_
  refine r_arr B hH hS 72 (kd := 101) (n := 4000) (by decide) (by decide) wf_X16_525 rfl rfl dX16_keepPart_163 ?_
  refine lv_iload B.1 B.2.1 dX16_keepPart_166 (lv_at hl 4 rfl) ?_
  obtain ⟨q18, h⟩ := h
  refine x_lald B K.2.1 hH (hS.ar (k := 72) (kd := 101) (n := 4000) (by decide)) (by decide) q18 dX16_keepPart_168 ?_
  obtain ⟨q19, h⟩ := h
  obtain ⟨σ35, eσ35⟩ : ∃ z, z = pJ σ34 (ra 104) (4000 + (gI σ (ra 98) 1)).toNat (gJ σ34 (ra 72) v4.toNat) := ⟨_, rfl⟩
  have h := h σ35 eσ35
  refine x_last B K.2.1 hH (hS.ar (k := 104) (kd := 101) (n := 8000) (by decide)) (by decide) q19 dX16_keepPart_169 (fun H locs hH => ?_)
  have hH : Hd D cA A s (pJ σ34 (ra 104) (4000 + (gI σ (ra 98) 1)).toNat (gJ σ34 (ra 72) v4.toNat)) H locs := hH
  rw [← eσ35] at hH
  have hGσ35 : RG σ35 := by rw [eσ35]; exact hGσ34.pJ
  have hS : Shp dm ra jx rm σ35 := by rw [eσ35]; exact hS
  have hc : CB n0 s0 σ35 := by rw [eσ35]; exact hc
  rw [show gc σ34 = gc σ35 by rw [eσ35], show gs σ34 = gs σ35 by rw [eσ35]]
  refine lv_aload_n B.1 B.2.1 dX16_keepPart_170 rfl (lv_at hl 1 rfl) ?_
  refine r_arr B hH hS 106 (kd := 100) (n := 8000) (by decide) (by decide) wf_X16_724 rfl rfl dX16_keepPart_171 ?_
  refine lv_iload B.1 B.2.1 dX16_keepPart_174 (lv_at hl 0 rfl) ?_
  refine lv_aload_n B.1 B.2.1 dX16_keepPart_176 rfl (lv_at hl 1 rfl) ?_
  refine r_arr B hH hS 74 (kd := 100) (n := 4000) (by decide) (by decide) wf_X16_531 rfl rfl dX16_keepPart_177 ?_
  refine lv_iload B.1 B.2.1 dX16_keepPart_180 (lv_at hl 4 rfl) ?_
  obtain ⟨q21, h⟩ := h
  refine x_iald B K.2.1 hH (hS.ar (k := 74) (kd := 100) (n := 4000) (by decide)) (by decide) q21 dX16_keepPart_182 ?_
  obtain ⟨q22, h⟩ := h
  obtain ⟨σ36, eσ36⟩ : ∃ z, z = pI σ35 (ra 106) (4000 + (gI σ (ra 98) 1)).toNat (gI σ35 (ra 74) v4.toNat) := ⟨_, rfl⟩
  have h := h σ36 eσ36
  refine x_iast B K.2.1 hH (hS.ar (k := 106) (kd := 100) (n := 8000) (by decide)) (by decide) q22 dX16_keepPart_183 (fun H locs hH => ?_)
  have hH : Hd D cA A s (pI σ35 (ra 106) (4000 + (gI σ (ra 98) 1)).toNat (gI σ35 (ra 74) v4.toNat)) H locs := hH
  rw [← eσ36] at hH
  have hGσ36 : RG σ36 := by rw [eσ36]; exact hGσ35.pI (hGσ35 _ _)
  have hS : Shp dm ra jx rm σ36 := by rw [eσ36]; exact hS
  have hc : CB n0 s0 σ36 := by rw [eσ36]; exact hc
  rw [show gc σ35 = gc σ36 by rw [eσ36], show gs σ35 = gs σ36 by rw [eσ36]]
  refine lv_iconst (v := i32 0) B.1 B.2.1 dX16_keepPart_184 (by decide) ?_
  refine lv_istore (lv' := [(6, .int (i32 0)), (5, .int (i32 (4000 + (gI σ (ra 98) 1)))), (0, .ref rm), (1, .int (i32 v1)), (2, .int (i32 v2)), (4, .int (i32 v4))]) B.1 B.2.1 dX16_keepPart_185 hl (by decide) rfl (fun ls hl => ?_)
  obtain ⟨n9, h⟩ := h
  exact al_X16_keepPart_187 K hQ hX hK65 n9 _ _ _ _ _ _ g1 g2 g4 q1 (by unfold rng; omega) h hGσ36 hS _ _ _ hH (lv_sub (l' := [(0, .ref rm), (1, .int (i32 v1)), (2, .int (i32 v2)), (4, .int (i32 v4)), (5, .int (i32 (4000 + (gI σ (ra 98) 1)))), (6, .int (i32 0))]) hl [2, 3, 4, 5, 1, 0] rfl) hc
set_option maxRecDepth 20000 in
theorem a_X16_keepPart_65 {Q : Sg → Unit → Prop} {X : Sg → String → Prop} (K : MC R p s m args c cX16_keepPart 7 RX16 D cA tys A n0 s0 0 0 []) (hQ : HQV p l e R s m args below meth c cX16_keepPart D cA A n0 s0 QM dm ra jx rm Q) (hX : HX p l e R s m args below meth c 7 D cA A n0 s0 QM dm ra jx rm X) {K65 : Sg → Int → Int → Int → Prop} (hK65 : ∀ (σ : Sg) (v1 : Int) (v2 : Int) (v4 : Int) (g1 : rng v1) (g2 : rng v2) (g4 : rng v4), K65 σ v1 v2 v4 → RG σ → Shp dm ra jx rm σ → JJ p l e R s m args below meth c 7 D cA A n0 s0 QM σ 65 [(0, .ref rm), (1, .int (i32 v1)), (2, .int (i32 v2)), (4, .int (i32 v4))] []) : ∀ (σ : Sg) (v1 : Int) (v2 : Int) (v4 : Int) (g1 : rng v1) (g2 : rng v2) (g4 : rng v4), w_X16_keepPart_65 ra jx rm K65 Q X σ v1 v2 v4 → RG σ → Shp dm ra jx rm σ → JJ p l e R s m args below meth c 7 D cA A n0 s0 QM σ 65 [(0, .ref rm), (1, .int (i32 v1)), (2, .int (i32 v2)), (4, .int (i32 v4))] [] := by
  intro σ v1 v2 v4 g1 g2 g4 h hGσ hS H locs ls hH hl hc
  have B := K.1
  unfold w_X16_keepPart_65 at h
  refine lv_iload B.1 B.2.1 dX16_keepPart_65 (lv_at hl 3 rfl) ?_
  refine lv_iconst (v := i32 (-1)) B.1 B.2.1 dX16_keepPart_67 (by decide) ?_
  refine lv_icmp_eq (tgt := 238) B.1 B.2.1 dX16_keepPart_68 (by decide) (fun h9 => ?_) (fun h9 => ?_)
  · rw [if_pos ((i32_eq g4 (by unfold rng; omega)).mp h9)] at h
    exact a_X16_keepPart_238 K hQ hX _ _ g1 h hGσ hS _ _ _ hH (lv_sub (l' := [(0, .ref rm), (1, .int (i32 v1))]) hl [0, 1] rfl) hc
  · rw [if_neg (fun q => h9 ((i32_eq g4 (by unfold rng; omega)).mpr q))] at h
    exact a_X16_keepPart_71 K hQ hX hK65 _ _ _ _ g1 g2 g4 h hGσ hS _ _ _ hH (lv_sub (l' := [(0, .ref rm), (1, .int (i32 v1)), (2, .int (i32 v2)), (4, .int (i32 v4))]) hl [0, 1, 2, 3] rfl) hc
theorem al_X16_keepPart_65 {Q : Sg → Unit → Prop} {X : Sg → String → Prop} (K : MC R p s m args c cX16_keepPart 7 RX16 D cA tys A n0 s0 0 0 []) (hQ : HQV p l e R s m args below meth c cX16_keepPart D cA A n0 s0 QM dm ra jx rm Q) (hX : HX p l e R s m args below meth c 7 D cA A n0 s0 QM dm ra jx rm X) : ∀ (n : Nat), ∀ (σ : Sg) (v1 : Int) (v2 : Int) (v4 : Int) (g1 : rng v1) (g2 : rng v2) (g4 : rng v4), wl_X16_keepPart_65 ra jx rm Q X n σ v1 v2 v4 → RG σ → Shp dm ra jx rm σ → JJ p l e R s m args below meth c 7 D cA A n0 s0 QM σ 65 [(0, .ref rm), (1, .int (i32 v1)), (2, .int (i32 v2)), (4, .int (i32 v4))] [] := by
  intro n
  induction n with
  | zero => intro σ v1 v2 v4 g1 g2 g4 h; exact h.elim
  | succ n ih => exact fun σ v1 v2 v4 g1 g2 g4 h => a_X16_keepPart_65 K hQ hX ih σ v1 v2 v4 g1 g2 g4 h
set_option maxRecDepth 20000 in
theorem a_X16_keepPart_0 {Q : Sg → Unit → Prop} {X : Sg → String → Prop} (K : MC R p s m args c cX16_keepPart 7 RX16 D cA tys A n0 s0 0 0 []) (hQ : HQV p l e R s m args below meth c cX16_keepPart D cA A n0 s0 QM dm ra jx rm Q) (hX : HX p l e R s m args below meth c 7 D cA A n0 s0 QM dm ra jx rm X) : ∀ (σ : Sg) (v1 : Int) (g1 : rng v1), w_X16_keepPart_0 ra jx rm Q X σ v1 → RG σ → Shp dm ra jx rm σ → JJ p l e R s m args below meth c 7 D cA A n0 s0 QM σ 0 [(0, .ref rm), (1, .int (i32 v1))] [] := by
  intro σ v1 g1 h hGσ hS H locs ls hH hl hc
  have B := K.1
  unfold w_X16_keepPart_0 at h
  refine lv_aload_n B.1 B.2.1 dX16_keepPart_0 rfl (lv_at hl 0 rfl) ?_
  refine r_arr B hH hS 38 (kd := 100) (n := 64) (by decide) (by decide) wf_X16_380 rfl rfl dX16_keepPart_1 ?_
  refine lv_iload_n B.1 B.2.1 dX16_keepPart_4 rfl (lv_at hl 1 rfl) ?_
  obtain ⟨q1, h⟩ := h
  refine x_iald B K.2.1 hH (hS.ar (k := 38) (kd := 100) (n := 64) (by decide)) (by decide) q1 dX16_keepPart_5 ?_
  refine lv_istore_n (lv' := [(2, .int (i32 (gI σ (ra 38) v1.toNat))), (0, .ref rm), (1, .int (i32 v1))]) B.1 B.2.1 dX16_keepPart_6 rfl hl (by decide) rfl (fun ls hl => ?_)
  refine lv_bipush (v := i32 64) B.1 B.2.1 dX16_keepPart_7 (by decide) ?_
  refine lv_iconst (v := i32 4) B.1 B.2.1 dX16_keepPart_9 (by decide) ?_
  refine lv_iload_n B.1 B.2.1 dX16_keepPart_10 rfl (lv_at hl 0 rfl) ?_
  obtain ⟨q2, h⟩ := h
  refine lv_imul B.1 B.2.1 dX16_keepPart_11 ?_
  rw [i32_mul]
  obtain ⟨q3, h⟩ := h
  refine lv_iadd B.1 B.2.1 dX16_keepPart_12 ?_
  rw [i32_add]
  refine lv_aload_n B.1 B.2.1 dX16_keepPart_13 rfl (lv_at hl 1 rfl) ?_
  refine r_arr B hH hS 39 (kd := 100) (n := 64) (by decide) (by decide) wf_X16_396 rfl rfl dX16_keepPart_14 ?_
  refine lv_iload_n B.1 B.2.1 dX16_keepPart_17 rfl (lv_at hl 2 rfl) ?_
  obtain ⟨q4, h⟩ := h
  refine x_iald B K.2.1 hH (hS.ar (k := 39) (kd := 100) (n := 64) (by decide)) (by decide) q4 dX16_keepPart_18 ?_
  obtain ⟨q5, h⟩ := h
  refine lv_iadd B.1 B.2.1 dX16_keepPart_19 ?_
  rw [i32_add]
  refine lv_istore_n (lv' := [(3, .int (i32 ((64 + (4 * (gI σ (ra 38) v1.toNat))) + (gI σ (ra 39) v1.toNat)))), (2, .int (i32 (gI σ (ra 38) v1.toNat))), (0, .ref rm), (1, .int (i32 v1))]) B.1 B.2.1 dX16_keepPart_20 rfl hl (by decide) rfl (fun ls hl => ?_)
  refine lv_aload_n B.1 B.2.1 dX16_keepPart_21 rfl (lv_at hl 2 rfl) ?_
  refine r_arr B hH hS 107 (kd := 100) (n := 128) (by decide) (by decide) wf_X16_694 rfl rfl dX16_keepPart_22 ?_
  refine lv_iload_n B.1 B.2.1 dX16_keepPart_25 rfl (lv_at hl 0 rfl) ?_
  refine lv_aload_n B.1 B.2.1 dX16_keepPart_26 rfl (lv_at hl 2 rfl) ?_
  refine r_arr B hH hS 42 (kd := 100) (n := 64) (by decide) (by decide) wf_X16_422 rfl rfl dX16_keepPart_27 ?_
  refine lv_iload_n B.1 B.2.1 dX16_keepPart_30 rfl (lv_at hl 3 rfl) ?_
  obtain ⟨q6, h⟩ := h
  refine x_iald B K.2.1 hH (hS.ar (k := 42) (kd := 100) (n := 64) (by decide)) (by decide) q6 dX16_keepPart_31 ?_
  obtain ⟨q7, h⟩ := h
  obtain ⟨σ37, eσ37⟩ : ∃ z, z = pI σ (ra 107) ((64 + (4 * (gI σ (ra 38) v1.toNat))) + (gI σ (ra 39) v1.toNat)).toNat (gI σ (ra 42) v1.toNat) := ⟨_, rfl⟩
  have h := h σ37 eσ37
  refine x_iast B K.2.1 hH (hS.ar (k := 107) (kd := 100) (n := 128) (by decide)) (by decide) q7 dX16_keepPart_32 (fun H locs hH => ?_)
  have hH : Hd D cA A s (pI σ (ra 107) ((64 + (4 * (gI σ (ra 38) v1.toNat))) + (gI σ (ra 39) v1.toNat)).toNat (gI σ (ra 42) v1.toNat)) H locs := hH
  rw [← eσ37] at hH
  have hGσ37 : RG σ37 := by rw [eσ37]; exact hGσ.pI (hGσ _ _)
  have hS : Shp dm ra jx rm σ37 := by rw [eσ37]; exact hS
  have hc : CB n0 s0 σ37 := by rw [eσ37]; exact hc
  rw [show gc σ = gc σ37 by rw [eσ37], show gs σ = gs σ37 by rw [eσ37]]
  refine lv_aload_n B.1 B.2.1 dX16_keepPart_33 rfl (lv_at hl 2 rfl) ?_
  refine r_arr B hH hS 108 (kd := 100) (n := 128) (by decide) (by decide) wf_X16_697 rfl rfl dX16_keepPart_34 ?_
  refine lv_iload_n B.1 B.2.1 dX16_keepPart_37 rfl (lv_at hl 0 rfl) ?_
  refine lv_aload_n B.1 B.2.1 dX16_keepPart_38 rfl (lv_at hl 2 rfl) ?_
  refine r_arr B hH hS 43 (kd := 100) (n := 64) (by decide) (by decide) wf_X16_425 rfl rfl dX16_keepPart_39 ?_
  refine lv_iload_n B.1 B.2.1 dX16_keepPart_42 rfl (lv_at hl 3 rfl) ?_
  obtain ⟨q9, h⟩ := h
  refine x_iald B K.2.1 hH (hS.ar (k := 43) (kd := 100) (n := 64) (by decide)) (by decide) q9 dX16_keepPart_43 ?_
  obtain ⟨q10, h⟩ := h
  obtain ⟨σ38, eσ38⟩ : ∃ z, z = pI σ37 (ra 108) ((64 + (4 * (gI σ (ra 38) v1.toNat))) + (gI σ (ra 39) v1.toNat)).toNat (gI σ37 (ra 43) v1.toNat) := ⟨_, rfl⟩
  have h := h σ38 eσ38
  refine x_iast B K.2.1 hH (hS.ar (k := 108) (kd := 100) (n := 128) (by decide)) (by decide) q10 dX16_keepPart_44 (fun H locs hH => ?_)
  have hH : Hd D cA A s (pI σ37 (ra 108) ((64 + (4 * (gI σ (ra 38) v1.toNat))) + (gI σ (ra 39) v1.toNat)).toNat (gI σ37 (ra 43) v1.toNat)) H locs := hH
  rw [← eσ38] at hH
  have hGσ38 : RG σ38 := by rw [eσ38]; exact hGσ37.pI (hGσ37 _ _)
  have hS : Shp dm ra jx rm σ38 := by rw [eσ38]; exact hS
  have hc : CB n0 s0 σ38 := by rw [eσ38]; exact hc
  rw [show gc σ37 = gc σ38 by rw [eσ38], show gs σ37 = gs σ38 by rw [eσ38]]
  refine lv_aload_n B.1 B.2.1 dX16_keepPart_45 rfl (lv_at hl 2 rfl) ?_
  refine r_arr B hH hS 109 (kd := 101) (n := 128) (by decide) (by decide) wf_X16_700 rfl rfl dX16_keepPart_46 ?_
  refine lv_iload_n B.1 B.2.1 dX16_keepPart_49 rfl (lv_at hl 0 rfl) ?_
  refine lv_aload_n B.1 B.2.1 dX16_keepPart_50 rfl (lv_at hl 2 rfl) ?_
  refine r_arr B hH hS 40 (kd := 101) (n := 64) (by decide) (by decide) wf_X16_414 rfl rfl dX16_keepPart_51 ?_
  refine lv_iload_n B.1 B.2.1 dX16_keepPart_54 rfl (lv_at hl 3 rfl) ?_
  obtain ⟨q12, h⟩ := h
  refine x_lald B K.2.1 hH (hS.ar (k := 40) (kd := 101) (n := 64) (by decide)) (by decide) q12 dX16_keepPart_55 ?_
  obtain ⟨q13, h⟩ := h
  obtain ⟨σ39, eσ39⟩ : ∃ z, z = pJ σ38 (ra 109) ((64 + (4 * (gI σ (ra 38) v1.toNat))) + (gI σ (ra 39) v1.toNat)).toNat (gJ σ38 (ra 40) v1.toNat) := ⟨_, rfl⟩
  have h := h σ39 eσ39
  refine x_last B K.2.1 hH (hS.ar (k := 109) (kd := 101) (n := 128) (by decide)) (by decide) q13 dX16_keepPart_56 (fun H locs hH => ?_)
  have hH : Hd D cA A s (pJ σ38 (ra 109) ((64 + (4 * (gI σ (ra 38) v1.toNat))) + (gI σ (ra 39) v1.toNat)).toNat (gJ σ38 (ra 40) v1.toNat)) H locs := hH
  rw [← eσ39] at hH
  have hGσ39 : RG σ39 := by rw [eσ39]; exact hGσ38.pJ
  have hS : Shp dm ra jx rm σ39 := by rw [eσ39]; exact hS
  have hc : CB n0 s0 σ39 := by rw [eσ39]; exact hc
  rw [show gc σ38 = gc σ39 by rw [eσ39], show gs σ38 = gs σ39 by rw [eσ39]]
  refine lv_aload_n B.1 B.2.1 dX16_keepPart_57 rfl (lv_at hl 2 rfl) ?_
  refine r_arr B hH hS 76 (kd := 100) (n := 64) (by decide) (by decide) wf_X16_504 rfl rfl dX16_keepPart_58 ?_
  refine lv_iload_n B.1 B.2.1 dX16_keepPart_61 rfl (lv_at hl 3 rfl) ?_
  obtain ⟨q15, h⟩ := h
  refine x_iald B K.2.1 hH (hS.ar (k := 76) (kd := 100) (n := 64) (by decide)) (by decide) q15 dX16_keepPart_62 ?_
  refine lv_istore (lv' := [(4, .int (i32 (gI σ39 (ra 76) v1.toNat))), (3, .int (i32 ((64 + (4 * (gI σ (ra 38) v1.toNat))) + (gI σ (ra 39) v1.toNat)))), (2, .int (i32 (gI σ (ra 38) v1.toNat))), (0, .ref rm), (1, .int (i32 v1))]) B.1 B.2.1 dX16_keepPart_63 hl (by decide) rfl (fun ls hl => ?_)
  obtain ⟨n9, h⟩ := h
  exact al_X16_keepPart_65 K hQ hX n9 _ _ _ _ g1 (hGσ _ _) (hGσ39 _ _) h hGσ39 hS _ _ _ hH (lv_sub (l' := [(0, .ref rm), (1, .int (i32 v1)), (2, .int (i32 (gI σ (ra 38) v1.toNat))), (4, .int (i32 (gI σ39 (ra 76) v1.toNat)))]) hl [3, 4, 2, 0] rfl) hc
theorem ok_X16_keepPart (hT : Tys cA tys) {Q : Sg → Unit → Prop} {X : Sg → String → Prop} (σ : Sg) (v1 : Int) (g1 : rng v1) (hG : RG σ) (hS : Shp dm ra jx rm σ) (h : wp_X16_keepPart ra jx rm v1 σ Q X) : Ok l D cA tys A yX16_keepPart (.code yX16_keepPart cX16_keepPart 7 none) 0 0 [.ref rm, .int (i32 v1)] σ (QnV dm ra jx rm Q) (QxR dm ra jx rm X) := by
  unfold wp_X16_keepPart at h
  exact ok_V (plainFor_of_name (by decide)) (by exact Nat.le_of_ble_eq_true rfl) hT (fun p e R s m args below meth c K hQ hX H locs ls hH hl hc => a_X16_keepPart_0 K hQ hX σ v1 g1 h hG hS H locs ls hH (lv_sub (l' := [(0, .ref rm), (1, .int (i32 v1))]) hl [0, 1] rfl) hc)
theorem dX16_visibleAt_0 : decode cX16_visibleAt 0 = .ok (.aload_n 0, 1) := by decide +kernel
theorem dX16_visibleAt_1 : decode cX16_visibleAt 1 = .ok (.getfield 661, 3) := by decide +kernel
theorem dX16_visibleAt_4 : decode cX16_visibleAt 4 = .ok (.iconst 3, 1) := by decide +kernel
theorem dX16_visibleAt_5 : decode cX16_visibleAt 5 = .ok (.iload_n 1, 1) := by decide +kernel
theorem dX16_visibleAt_6 : decode cX16_visibleAt 6 = .ok (.imul, 1) := by decide +kernel
theorem dX16_visibleAt_7 : decode cX16_visibleAt 7 = .ok (.iconst 2, 1) := by decide +kernel
theorem dX16_visibleAt_8 : decode cX16_visibleAt 8 = .ok (.iadd, 1) := by decide +kernel
theorem dX16_visibleAt_9 : decode cX16_visibleAt 9 = .ok (.iaload, 1) := by decide +kernel
theorem dX16_visibleAt_10 : decode cX16_visibleAt 10 = .ok (.istore_n 3, 1) := by decide +kernel
theorem dX16_visibleAt_11 : decode cX16_visibleAt 11 = .ok (.iconst 0, 1) := by decide +kernel
theorem dX16_visibleAt_12 : decode cX16_visibleAt 12 = .ok (.istore 4, 2) := by decide +kernel
theorem dX16_visibleAt_14 : decode cX16_visibleAt 14 = .ok (.iload 4, 2) := by decide +kernel
theorem dX16_visibleAt_16 : decode cX16_visibleAt 16 = .ok (.iload_n 2, 1) := by decide +kernel
theorem dX16_visibleAt_17 : decode cX16_visibleAt 17 = .ok (.if_icmp .ge 16, 3) := by decide +kernel
theorem dX16_visibleAt_20 : decode cX16_visibleAt 20 = .ok (.aload_n 0, 1) := by decide +kernel
theorem dX16_visibleAt_21 : decode cX16_visibleAt 21 = .ok (.getfield 652, 3) := by decide +kernel
theorem dX16_visibleAt_24 : decode cX16_visibleAt 24 = .ok (.iload_n 3, 1) := by decide +kernel
theorem dX16_visibleAt_25 : decode cX16_visibleAt 25 = .ok (.iaload, 1) := by decide +kernel
theorem dX16_visibleAt_26 : decode cX16_visibleAt 26 = .ok (.istore_n 3, 1) := by decide +kernel
theorem dX16_visibleAt_27 : decode cX16_visibleAt 27 = .ok (.iinc 4 1, 3) := by decide +kernel
theorem dX16_visibleAt_30 : decode cX16_visibleAt 30 = .ok (.goto (-16), 3) := by decide +kernel
theorem dX16_visibleAt_33 : decode cX16_visibleAt 33 = .ok (.iload_n 3, 1) := by decide +kernel
theorem dX16_visibleAt_34 : decode cX16_visibleAt 34 = .ok (.ireturn, 1) := by decide +kernel
set_option maxRecDepth 20000 in
theorem a_X16_visibleAt_33 {Q : Sg → Int → Prop} {X : Sg → String → Prop} (K : MC R p s m args c cX16_visibleAt 5 RX16 D cA tys A n0 s0 0 0 []) (hQ : HQI p l e R s m args below meth c cX16_visibleAt D cA A n0 s0 QM dm ra jx rm Q) (hX : HX p l e R s m args below meth c 5 D cA A n0 s0 QM dm ra jx rm X) : ∀ (σ : Sg) (v3 : Int) (g3 : rng v3), w_X16_visibleAt_33 ra jx rm Q X σ v3 → RG σ → Shp dm ra jx rm σ → JJ p l e R s m args below meth c 5 D cA A n0 s0 QM σ 33 [(0, .ref rm), (3, .int (i32 v3))] [] := by
  intro σ v3 g3 h hGσ hS H locs ls hH hl hc
  have B := K.1
  unfold w_X16_visibleAt_33 at h
  refine lv_iload_n B.1 B.2.1 dX16_visibleAt_33 rfl (lv_at hl 1 rfl) ?_
  exact hQ _ _ _ _ _ _ g3 dX16_visibleAt_34 hH hc h hGσ hS
set_option maxRecDepth 20000 in
theorem a_X16_visibleAt_20 {Q : Sg → Int → Prop} {X : Sg → String → Prop} (K : MC R p s m args c cX16_visibleAt 5 RX16 D cA tys A n0 s0 0 0 []) (hQ : HQI p l e R s m args below meth c cX16_visibleAt D cA A n0 s0 QM dm ra jx rm Q) (hX : HX p l e R s m args below meth c 5 D cA A n0 s0 QM dm ra jx rm X) {K14 : Sg → Int → Int → Int → Prop} (hK14 : ∀ (σ : Sg) (v2 : Int) (v3 : Int) (v4 : Int) (g2 : rng v2) (g3 : rng v3) (g4 : rng v4), K14 σ v2 v3 v4 → RG σ → Shp dm ra jx rm σ → JJ p l e R s m args below meth c 5 D cA A n0 s0 QM σ 14 [(0, .ref rm), (2, .int (i32 v2)), (3, .int (i32 v3)), (4, .int (i32 v4))] []) : ∀ (σ : Sg) (v2 : Int) (v3 : Int) (v4 : Int) (g2 : rng v2) (g3 : rng v3) (g4 : rng v4), w_X16_visibleAt_20 ra jx rm K14 Q X σ v2 v3 v4 → RG σ → Shp dm ra jx rm σ → JJ p l e R s m args below meth c 5 D cA A n0 s0 QM σ 20 [(0, .ref rm), (2, .int (i32 v2)), (3, .int (i32 v3)), (4, .int (i32 v4))] [] := by
  intro σ v2 v3 v4 g2 g3 g4 h hGσ hS H locs ls hH hl hc
  have B := K.1
  unfold w_X16_visibleAt_20 at h
  refine lv_aload_n B.1 B.2.1 dX16_visibleAt_20 rfl (lv_at hl 0 rfl) ?_
  refine r_arr B hH hS 86 (kd := 100) (n := 2000) (by decide) (by decide) wf_X16_652 rfl rfl dX16_visibleAt_21 ?_
  refine lv_iload_n B.1 B.2.1 dX16_visibleAt_24 rfl (lv_at hl 2 rfl) ?_
  obtain ⟨q1, h⟩ := h
  refine x_iald B K.2.1 hH (hS.ar (k := 86) (kd := 100) (n := 2000) (by decide)) (by decide) q1 dX16_visibleAt_25 ?_
  refine lv_istore_n (lv' := [(3, .int (i32 (gI σ (ra 86) v3.toNat))), (0, .ref rm), (2, .int (i32 v2)), (4, .int (i32 v4))]) B.1 B.2.1 dX16_visibleAt_26 rfl hl (by decide) rfl (fun ls hl => ?_)
  obtain ⟨q2, h⟩ := h
  refine lv_iinc (k := 3) (v := i32 (v4 + 1)) (lv' := [(4, .int (i32 (v4 + 1))), (3, .int (i32 (gI σ (ra 86) v3.toNat))), (0, .ref rm), (2, .int (i32 v2))]) B.1 B.2.1 dX16_visibleAt_27 hl rfl (i32_add _ _) (by decide) rfl (fun ls hl => ?_)
  refine lv_goto (tgt := 14) B.1 B.2.1 dX16_visibleAt_30 (by decide) ?_
  exact hK14 _ _ _ _ g2 (hGσ _ _) q2 h hGσ hS _ _ _ hH (lv_sub (l' := [(0, .ref rm), (2, .int (i32 v2)), (3, .int (i32 (gI σ (ra 86) v3.toNat))), (4, .int (i32 (v4 + 1)))]) hl [2, 3, 1, 0] rfl) hc
set_option maxRecDepth 20000 in
theorem a_X16_visibleAt_14 {Q : Sg → Int → Prop} {X : Sg → String → Prop} (K : MC R p s m args c cX16_visibleAt 5 RX16 D cA tys A n0 s0 0 0 []) (hQ : HQI p l e R s m args below meth c cX16_visibleAt D cA A n0 s0 QM dm ra jx rm Q) (hX : HX p l e R s m args below meth c 5 D cA A n0 s0 QM dm ra jx rm X) {K14 : Sg → Int → Int → Int → Prop} (hK14 : ∀ (σ : Sg) (v2 : Int) (v3 : Int) (v4 : Int) (g2 : rng v2) (g3 : rng v3) (g4 : rng v4), K14 σ v2 v3 v4 → RG σ → Shp dm ra jx rm σ → JJ p l e R s m args below meth c 5 D cA A n0 s0 QM σ 14 [(0, .ref rm), (2, .int (i32 v2)), (3, .int (i32 v3)), (4, .int (i32 v4))] []) : ∀ (σ : Sg) (v2 : Int) (v3 : Int) (v4 : Int) (g2 : rng v2) (g3 : rng v3) (g4 : rng v4), w_X16_visibleAt_14 ra jx rm K14 Q X σ v2 v3 v4 → RG σ → Shp dm ra jx rm σ → JJ p l e R s m args below meth c 5 D cA A n0 s0 QM σ 14 [(0, .ref rm), (2, .int (i32 v2)), (3, .int (i32 v3)), (4, .int (i32 v4))] [] := by
  intro σ v2 v3 v4 g2 g3 g4 h hGσ hS H locs ls hH hl hc
  have B := K.1
  unfold w_X16_visibleAt_14 at h
  refine lv_iload B.1 B.2.1 dX16_visibleAt_14 (lv_at hl 3 rfl) ?_
  refine lv_iload_n B.1 B.2.1 dX16_visibleAt_16 rfl (lv_at hl 1 rfl) ?_
  refine lv_icmp_ge (tgt := 33) B.1 B.2.1 dX16_visibleAt_17 (by decide) (fun h9 => ?_) (fun h9 => ?_)
  · rw [if_pos ((i32_le g2 g4).mp h9)] at h
    exact a_X16_visibleAt_33 K hQ hX _ _ g3 h hGσ hS _ _ _ hH (lv_sub (l' := [(0, .ref rm), (3, .int (i32 v3))]) hl [0, 2] rfl) hc
  · rw [if_neg (fun q => h9 ((i32_le g2 g4).mpr q))] at h
    exact a_X16_visibleAt_20 K hQ hX hK14 _ _ _ _ g2 g3 g4 h hGσ hS _ _ _ hH (lv_sub (l' := [(0, .ref rm), (2, .int (i32 v2)), (3, .int (i32 v3)), (4, .int (i32 v4))]) hl [0, 1, 2, 3] rfl) hc
theorem al_X16_visibleAt_14 {Q : Sg → Int → Prop} {X : Sg → String → Prop} (K : MC R p s m args c cX16_visibleAt 5 RX16 D cA tys A n0 s0 0 0 []) (hQ : HQI p l e R s m args below meth c cX16_visibleAt D cA A n0 s0 QM dm ra jx rm Q) (hX : HX p l e R s m args below meth c 5 D cA A n0 s0 QM dm ra jx rm X) : ∀ (n : Nat), ∀ (σ : Sg) (v2 : Int) (v3 : Int) (v4 : Int) (g2 : rng v2) (g3 : rng v3) (g4 : rng v4), wl_X16_visibleAt_14 ra jx rm Q X n σ v2 v3 v4 → RG σ → Shp dm ra jx rm σ → JJ p l e R s m args below meth c 5 D cA A n0 s0 QM σ 14 [(0, .ref rm), (2, .int (i32 v2)), (3, .int (i32 v3)), (4, .int (i32 v4))] [] := by
  intro n
  induction n with
  | zero => intro σ v2 v3 v4 g2 g3 g4 h; exact h.elim
  | succ n ih => exact fun σ v2 v3 v4 g2 g3 g4 h => a_X16_visibleAt_14 K hQ hX ih σ v2 v3 v4 g2 g3 g4 h
set_option maxRecDepth 20000 in
theorem a_X16_visibleAt_0 {Q : Sg → Int → Prop} {X : Sg → String → Prop} (K : MC R p s m args c cX16_visibleAt 5 RX16 D cA tys A n0 s0 0 0 []) (hQ : HQI p l e R s m args below meth c cX16_visibleAt D cA A n0 s0 QM dm ra jx rm Q) (hX : HX p l e R s m args below meth c 5 D cA A n0 s0 QM dm ra jx rm X) : ∀ (σ : Sg) (v1 : Int) (v2 : Int) (g1 : rng v1) (g2 : rng v2), w_X16_visibleAt_0 ra jx rm Q X σ v1 v2 → RG σ → Shp dm ra jx rm σ → JJ p l e R s m args below meth c 5 D cA A n0 s0 QM σ 0 [(0, .ref rm), (1, .int (i32 v1)), (2, .int (i32 v2))] [] := by
  intro σ v1 v2 g1 g2 h hGσ hS H locs ls hH hl hc
  have B := K.1
  unfold w_X16_visibleAt_0 at h
  refine lv_aload_n B.1 B.2.1 dX16_visibleAt_0 rfl (lv_at hl 0 rfl) ?_
  refine r_arr B hH hS 87 (kd := 100) (n := 12) (by decide) (by decide) wf_X16_661 rfl rfl dX16_visibleAt_1 ?_
  refine lv_iconst (v := i32 3) B.1 B.2.1 dX16_visibleAt_4 (by decide) ?_
  refine lv_iload_n B.1 B.2.1 dX16_visibleAt_5 rfl (lv_at hl 1 rfl) ?_
  obtain ⟨q1, h⟩ := h
  refine lv_imul B.1 B.2.1 dX16_visibleAt_6 ?_
  rw [i32_mul]
  refine lv_iconst (v := i32 2) B.1 B.2.1 dX16_visibleAt_7 (by decide) ?_
  obtain ⟨q2, h⟩ := h
  refine lv_iadd B.1 B.2.1 dX16_visibleAt_8 ?_
  rw [i32_add]
  obtain ⟨q3, h⟩ := h
  refine x_iald B K.2.1 hH (hS.ar (k := 87) (kd := 100) (n := 12) (by decide)) (by decide) q3 dX16_visibleAt_9 ?_
  refine lv_istore_n (lv' := [(3, .int (i32 (gI σ (ra 87) ((3 * v1) + 2).toNat))), (0, .ref rm), (1, .int (i32 v1)), (2, .int (i32 v2))]) B.1 B.2.1 dX16_visibleAt_10 rfl hl (by decide) rfl (fun ls hl => ?_)
  refine lv_iconst (v := i32 0) B.1 B.2.1 dX16_visibleAt_11 (by decide) ?_
  refine lv_istore (lv' := [(4, .int (i32 0)), (3, .int (i32 (gI σ (ra 87) ((3 * v1) + 2).toNat))), (0, .ref rm), (1, .int (i32 v1)), (2, .int (i32 v2))]) B.1 B.2.1 dX16_visibleAt_12 hl (by decide) rfl (fun ls hl => ?_)
  obtain ⟨n9, h⟩ := h
  exact al_X16_visibleAt_14 K hQ hX n9 _ _ _ _ g2 (hGσ _ _) (by unfold rng; omega) h hGσ hS _ _ _ hH (lv_sub (l' := [(0, .ref rm), (2, .int (i32 v2)), (3, .int (i32 (gI σ (ra 87) ((3 * v1) + 2).toNat))), (4, .int (i32 0))]) hl [2, 4, 1, 0] rfl) hc
theorem ok_X16_visibleAt (hT : Tys cA tys) {Q : Sg → Int → Prop} {X : Sg → String → Prop} (σ : Sg) (v1 : Int) (v2 : Int) (g1 : rng v1) (g2 : rng v2) (hG : RG σ) (hS : Shp dm ra jx rm σ) (h : wp_X16_visibleAt ra jx rm v1 v2 σ Q X) : Ok l D cA tys A yX16_visibleAt (.code yX16_visibleAt cX16_visibleAt 5 (some .int)) 0 0 [.ref rm, .int (i32 v1), .int (i32 v2)] σ (QnI dm ra jx rm Q) (QxR dm ra jx rm X) := by
  unfold wp_X16_visibleAt at h
  exact ok_I (plainFor_of_name (by decide)) (by exact Nat.le_of_ble_eq_true rfl) hT (fun p e R s m args below meth c K hQ hX H locs ls hH hl hc => a_X16_visibleAt_0 K hQ hX σ v1 v2 g1 g2 h hG hS H locs ls hH (lv_sub (l' := [(0, .ref rm), (1, .int (i32 v1)), (2, .int (i32 v2))]) hl [0, 1, 2] rfl) hc)
theorem dX16_lineage_0 : decode cX16_lineage 0 = .ok (.aload_n 0, 1) := by decide +kernel
theorem dX16_lineage_1 : decode cX16_lineage 1 = .ok (.aload_n 0, 1) := by decide +kernel
theorem dX16_lineage_2 : decode cX16_lineage 2 = .ok (.iload_n 1, 1) := by decide +kernel
theorem dX16_lineage_3 : decode cX16_lineage 3 = .ok (.invokevirtual 997, 3) := by decide +kernel
theorem dX16_lineage_6 : decode cX16_lineage 6 = .ok (.ifCond .eq 29, 3) := by decide +kernel
theorem dX16_lineage_9 : decode cX16_lineage 9 = .ok (.iload_n 2, 1) := by decide +kernel
theorem dX16_lineage_10 : decode cX16_lineage 10 = .ok (.i2l, 1) := by decide +kernel
theorem dX16_lineage_11 : decode cX16_lineage 11 = .ok (.lconst 0, 1) := by decide +kernel
theorem dX16_lineage_12 : decode cX16_lineage 12 = .ok (.aload_n 0, 1) := by decide +kernel
theorem dX16_lineage_13 : decode cX16_lineage 13 = .ok (.getfield 667, 3) := by decide +kernel
theorem dX16_lineage_16 : decode cX16_lineage 16 = .ok (.iconst 3, 1) := by decide +kernel
theorem dX16_lineage_17 : decode cX16_lineage 17 = .ok (.iload_n 1, 1) := by decide +kernel
theorem dX16_lineage_18 : decode cX16_lineage 18 = .ok (.imul, 1) := by decide +kernel
theorem dX16_lineage_19 : decode cX16_lineage 19 = .ok (.iconst 2, 1) := by decide +kernel
theorem dX16_lineage_20 : decode cX16_lineage 20 = .ok (.iadd, 1) := by decide +kernel
theorem dX16_lineage_21 : decode cX16_lineage 21 = .ok (.iaload, 1) := by decide +kernel
theorem dX16_lineage_22 : decode cX16_lineage 22 = .ok (.iconst 1, 1) := by decide +kernel
theorem dX16_lineage_23 : decode cX16_lineage 23 = .ok (.isub, 1) := by decide +kernel
theorem dX16_lineage_24 : decode cX16_lineage 24 = .ok (.i2l, 1) := by decide +kernel
theorem dX16_lineage_25 : decode cX16_lineage 25 = .ok (.invokestatic 45, 3) := by decide +kernel
theorem dX16_lineage_28 : decode cX16_lineage 28 = .ok (.ifCond .eq 7, 3) := by decide +kernel
theorem dX16_lineage_31 : decode cX16_lineage 31 = .ok (.iconst 0, 1) := by decide +kernel
theorem dX16_lineage_32 : decode cX16_lineage 32 = .ok (.goto 4, 3) := by decide +kernel
theorem dX16_lineage_35 : decode cX16_lineage 35 = .ok (.iconst 1, 1) := by decide +kernel
theorem dX16_lineage_36 : decode cX16_lineage 36 = .ok (.putfield 1, 3) := by decide +kernel
theorem dX16_lineage_39 : decode cX16_lineage 39 = .ok (.aload_n 0, 1) := by decide +kernel
theorem dX16_lineage_40 : decode cX16_lineage 40 = .ok (.getfield 1, 3) := by decide +kernel
theorem dX16_lineage_43 : decode cX16_lineage 43 = .ok (.ifCond .le 5, 3) := by decide +kernel
theorem dX16_lineage_46 : decode cX16_lineage 46 = .ok (.iconst 0, 1) := by decide +kernel
theorem dX16_lineage_47 : decode cX16_lineage 47 = .ok (.ireturn, 1) := by decide +kernel
theorem dX16_lineage_48 : decode cX16_lineage 48 = .ok (.aload_n 0, 1) := by decide +kernel
theorem dX16_lineage_49 : decode cX16_lineage 49 = .ok (.getfield 676, 3) := by decide +kernel
theorem dX16_lineage_52 : decode cX16_lineage 52 = .ok (.aload_n 0, 1) := by decide +kernel
theorem dX16_lineage_53 : decode cX16_lineage 53 = .ok (.iload_n 1, 1) := by decide +kernel
theorem dX16_lineage_54 : decode cX16_lineage 54 = .ok (.iload_n 2, 1) := by decide +kernel
theorem dX16_lineage_55 : decode cX16_lineage 55 = .ok (.invokevirtual 1000, 3) := by decide +kernel
theorem dX16_lineage_58 : decode cX16_lineage 58 = .ok (.iaload, 1) := by decide +kernel
theorem dX16_lineage_59 : decode cX16_lineage 59 = .ok (.istore 4, 2) := by decide +kernel
theorem dX16_lineage_61 : decode cX16_lineage 61 = .ok (.iconst 0, 1) := by decide +kernel
theorem dX16_lineage_62 : decode cX16_lineage 62 = .ok (.istore 5, 2) := by decide +kernel
theorem dX16_lineage_64 : decode cX16_lineage 64 = .ok (.iconst (-1), 1) := by decide +kernel
theorem dX16_lineage_65 : decode cX16_lineage 65 = .ok (.istore 6, 2) := by decide +kernel
theorem dX16_lineage_67 : decode cX16_lineage 67 = .ok (.iconst 0, 1) := by decide +kernel
theorem dX16_lineage_68 : decode cX16_lineage 68 = .ok (.istore 7, 2) := by decide +kernel
theorem dX16_lineage_70 : decode cX16_lineage 70 = .ok (.iload 7, 2) := by decide +kernel
theorem dX16_lineage_72 : decode cX16_lineage 72 = .ok (.sipush 256, 3) := by decide +kernel
theorem dX16_lineage_75 : decode cX16_lineage 75 = .ok (.if_icmp .ge 55, 3) := by decide +kernel
theorem dX16_lineage_78 : decode cX16_lineage 78 = .ok (.aload_n 0, 1) := by decide +kernel
theorem dX16_lineage_79 : decode cX16_lineage 79 = .ok (.getfield 350, 3) := by decide +kernel
theorem dX16_lineage_82 : decode cX16_lineage 82 = .ok (.iconst 4, 1) := by decide +kernel
theorem dX16_lineage_83 : decode cX16_lineage 83 = .ok (.iload 4, 2) := by decide +kernel
theorem dX16_lineage_85 : decode cX16_lineage 85 = .ok (.imul, 1) := by decide +kernel
theorem dX16_lineage_86 : decode cX16_lineage 86 = .ok (.iload 7, 2) := by decide +kernel
theorem dX16_lineage_88 : decode cX16_lineage 88 = .ok (.bipush 64, 2) := by decide +kernel
theorem dX16_lineage_90 : decode cX16_lineage 90 = .ok (.idiv, 1) := by decide +kernel
theorem dX16_lineage_91 : decode cX16_lineage 91 = .ok (.iadd, 1) := by decide +kernel
theorem dX16_lineage_92 : decode cX16_lineage 92 = .ok (.laload, 1) := by decide +kernel
theorem dX16_lineage_93 : decode cX16_lineage 93 = .ok (.iload 7, 2) := by decide +kernel
theorem dX16_lineage_95 : decode cX16_lineage 95 = .ok (.bipush 64, 2) := by decide +kernel
theorem dX16_lineage_97 : decode cX16_lineage 97 = .ok (.irem, 1) := by decide +kernel
theorem dX16_lineage_98 : decode cX16_lineage 98 = .ok (.lshr, 1) := by decide +kernel
theorem dX16_lineage_99 : decode cX16_lineage 99 = .ok (.lconst 1, 1) := by decide +kernel
theorem dX16_lineage_100 : decode cX16_lineage 100 = .ok (.land, 1) := by decide +kernel
theorem dX16_lineage_101 : decode cX16_lineage 101 = .ok (.lconst 1, 1) := by decide +kernel
theorem dX16_lineage_102 : decode cX16_lineage 102 = .ok (.lcmp, 1) := by decide +kernel
theorem dX16_lineage_103 : decode cX16_lineage 103 = .ok (.ifCond .ne 21, 3) := by decide +kernel
theorem dX16_lineage_106 : decode cX16_lineage 106 = .ok (.iload 5, 2) := by decide +kernel
theorem dX16_lineage_108 : decode cX16_lineage 108 = .ok (.iload_n 3, 1) := by decide +kernel
theorem dX16_lineage_109 : decode cX16_lineage 109 = .ok (.if_icmp .ne 8, 3) := by decide +kernel
theorem dX16_lineage_112 : decode cX16_lineage 112 = .ok (.iload 7, 2) := by decide +kernel
theorem dX16_lineage_114 : decode cX16_lineage 114 = .ok (.goto 5, 3) := by decide +kernel
theorem dX16_lineage_117 : decode cX16_lineage 117 = .ok (.iload 6, 2) := by decide +kernel
theorem dX16_lineage_119 : decode cX16_lineage 119 = .ok (.istore 6, 2) := by decide +kernel
theorem dX16_lineage_121 : decode cX16_lineage 121 = .ok (.iinc 5 1, 3) := by decide +kernel
theorem dX16_lineage_124 : decode cX16_lineage 124 = .ok (.iinc 7 1, 3) := by decide +kernel
theorem dX16_lineage_127 : decode cX16_lineage 127 = .ok (.goto (-57), 3) := by decide +kernel
theorem dX16_lineage_130 : decode cX16_lineage 130 = .ok (.iload_n 3, 1) := by decide +kernel
theorem dX16_lineage_131 : decode cX16_lineage 131 = .ok (.iconst (-1), 1) := by decide +kernel
theorem dX16_lineage_132 : decode cX16_lineage 132 = .ok (.if_icmp .ne 6, 3) := by decide +kernel
theorem dX16_lineage_135 : decode cX16_lineage 135 = .ok (.iload 5, 2) := by decide +kernel
theorem dX16_lineage_137 : decode cX16_lineage 137 = .ok (.ireturn, 1) := by decide +kernel
theorem dX16_lineage_138 : decode cX16_lineage 138 = .ok (.aload_n 0, 1) := by decide +kernel
theorem dX16_lineage_139 : decode cX16_lineage 139 = .ok (.iload 6, 2) := by decide +kernel
theorem dX16_lineage_141 : decode cX16_lineage 141 = .ok (.iconst (-1), 1) := by decide +kernel
theorem dX16_lineage_142 : decode cX16_lineage 142 = .ok (.if_icmp .ne 7, 3) := by decide +kernel
theorem dX16_lineage_145 : decode cX16_lineage 145 = .ok (.iconst 1, 1) := by decide +kernel
theorem dX16_lineage_146 : decode cX16_lineage 146 = .ok (.goto 4, 3) := by decide +kernel
theorem dX16_lineage_149 : decode cX16_lineage 149 = .ok (.iconst 0, 1) := by decide +kernel
theorem dX16_lineage_150 : decode cX16_lineage 150 = .ok (.putfield 1, 3) := by decide +kernel
theorem dX16_lineage_153 : decode cX16_lineage 153 = .ok (.aload_n 0, 1) := by decide +kernel
theorem dX16_lineage_154 : decode cX16_lineage 154 = .ok (.getfield 1, 3) := by decide +kernel
theorem dX16_lineage_157 : decode cX16_lineage 157 = .ok (.ifCond .le 7, 3) := by decide +kernel
theorem dX16_lineage_160 : decode cX16_lineage 160 = .ok (.iconst 0, 1) := by decide +kernel
theorem dX16_lineage_161 : decode cX16_lineage 161 = .ok (.goto 5, 3) := by decide +kernel
theorem dX16_lineage_164 : decode cX16_lineage 164 = .ok (.iload 6, 2) := by decide +kernel
theorem dX16_lineage_166 : decode cX16_lineage 166 = .ok (.ireturn, 1) := by decide +kernel
set_option maxRecDepth 20000 in
theorem a_X16_lineage_166 {Q : Sg → Int → Prop} {X : Sg → String → Prop} (K : MC R p s m args c cX16_lineage 8 RX16 D cA tys A n0 s0 2 46 []) (hQ : HQI p l e R s m args below meth c cX16_lineage D cA A n0 s0 QM dm ra jx rm Q) (hX : HX p l e R s m args below meth c 8 D cA A n0 s0 QM dm ra jx rm X) : ∀ (σ : Sg) (u0 : Int) (gu0 : rng u0), w_X16_lineage_166 ra jx rm Q X σ u0 → RG σ → Shp dm ra jx rm σ → JJ p l e R s m args below meth c 8 D cA A n0 s0 QM σ 166 [(0, .ref rm)] [.int (i32 u0)] := by
  intro σ u0 gu0 h hGσ hS H locs ls hH hl hc
  have B := K.1
  unfold w_X16_lineage_166 at h
  exact hQ _ _ _ _ _ _ gu0 dX16_lineage_166 hH hc h hGσ hS
set_option maxRecDepth 20000 in
theorem a_X16_lineage_164 {Q : Sg → Int → Prop} {X : Sg → String → Prop} (K : MC R p s m args c cX16_lineage 8 RX16 D cA tys A n0 s0 2 46 []) (hQ : HQI p l e R s m args below meth c cX16_lineage D cA A n0 s0 QM dm ra jx rm Q) (hX : HX p l e R s m args below meth c 8 D cA A n0 s0 QM dm ra jx rm X) : ∀ (σ : Sg) (v6 : Int) (g6 : rng v6), w_X16_lineage_164 ra jx rm Q X σ v6 → RG σ → Shp dm ra jx rm σ → JJ p l e R s m args below meth c 8 D cA A n0 s0 QM σ 164 [(0, .ref rm), (6, .int (i32 v6))] [] := by
  intro σ v6 g6 h hGσ hS H locs ls hH hl hc
  have B := K.1
  unfold w_X16_lineage_164 at h
  refine lv_iload B.1 B.2.1 dX16_lineage_164 (lv_at hl 1 rfl) ?_
  exact a_X16_lineage_166 K hQ hX _ _ g6 h hGσ hS _ _ _ hH (lv_sub (l' := [(0, .ref rm)]) hl [0] rfl) hc
set_option maxRecDepth 20000 in
theorem a_X16_lineage_160 {Q : Sg → Int → Prop} {X : Sg → String → Prop} (K : MC R p s m args c cX16_lineage 8 RX16 D cA tys A n0 s0 2 46 []) (hQ : HQI p l e R s m args below meth c cX16_lineage D cA A n0 s0 QM dm ra jx rm Q) (hX : HX p l e R s m args below meth c 8 D cA A n0 s0 QM dm ra jx rm X) : ∀ (σ : Sg), w_X16_lineage_160 ra jx rm Q X σ → RG σ → Shp dm ra jx rm σ → JJ p l e R s m args below meth c 8 D cA A n0 s0 QM σ 160 [(0, .ref rm)] [] := by
  intro σ h hGσ hS H locs ls hH hl hc
  have B := K.1
  unfold w_X16_lineage_160 at h
  refine lv_iconst (v := i32 0) B.1 B.2.1 dX16_lineage_160 (by decide) ?_
  refine lv_goto (tgt := 166) B.1 B.2.1 dX16_lineage_161 (by decide) ?_
  exact a_X16_lineage_166 K hQ hX _ _ (by unfold rng; omega) h hGσ hS _ _ _ hH (lv_sub (l' := [(0, .ref rm)]) hl [0] rfl) hc
set_option maxRecDepth 20000 in
theorem a_X16_lineage_150 {Q : Sg → Int → Prop} {X : Sg → String → Prop} (K : MC R p s m args c cX16_lineage 8 RX16 D cA tys A n0 s0 2 46 []) (hQ : HQI p l e R s m args below meth c cX16_lineage D cA A n0 s0 QM dm ra jx rm Q) (hX : HX p l e R s m args below meth c 8 D cA A n0 s0 QM dm ra jx rm X) : ∀ (σ : Sg) (v6 : Int) (u0 : Int) (g6 : rng v6) (gu0 : rng u0), w_X16_lineage_150 ra jx rm Q X σ v6 u0 → RG σ → Shp dm ra jx rm σ → JJ p l e R s m args below meth c 8 D cA A n0 s0 QM σ 150 [(0, .ref rm), (6, .int (i32 v6))] [.int (i32 u0), .ref rm] := by
  intro σ v6 u0 g6 gu0 h hGσ hS H locs ls hH hl hc
  have B := K.1
  unfold w_X16_lineage_150 at h
  obtain ⟨σ17, eσ17⟩ : ∃ z, z = pI σ rm 0 u0 := ⟨_, rfl⟩
  have h := h σ17 eσ17
  refine r_puti B hH hS 0 (ty := .int) (by decide) wf_X16_1 rfl rfl rfl rfl rfl rfl dX16_lineage_150 (fun H locs hH => ?_)
  have hH : Hd D cA A s (pI σ rm 0 u0) H locs := hH
  rw [← eσ17] at hH
  have hGσ17 : RG σ17 := by rw [eσ17]; exact hGσ.pI gu0
  have hS : Shp dm ra jx rm σ17 := by rw [eσ17]; exact hS
  have hc : CB n0 s0 σ17 := by rw [eσ17]; exact hc
  rw [show gc σ = gc σ17 by rw [eσ17], show gs σ = gs σ17 by rw [eσ17]]
  refine lv_aload_n B.1 B.2.1 dX16_lineage_153 rfl (lv_at hl 0 rfl) ?_
  refine r_geti B hH hS 0 (by decide) wf_X16_1 rfl rfl dX16_lineage_154 ?_
  refine lv_if_le (tgt := 164) B.1 B.2.1 dX16_lineage_157 (by decide) (fun h9 => ?_) (fun h9 => ?_)
  · rw [if_pos ((z_le (hGσ17 _ _)).mp h9)] at h
    exact a_X16_lineage_164 K hQ hX _ _ g6 h hGσ17 hS _ _ _ hH (lv_sub (l' := [(0, .ref rm), (6, .int (i32 v6))]) hl [0, 1] rfl) hc
  · rw [if_neg (fun q => h9 ((z_le (hGσ17 _ _)).mpr q))] at h
    exact a_X16_lineage_160 K hQ hX _ h hGσ17 hS _ _ _ hH (lv_sub (l' := [(0, .ref rm)]) hl [0] rfl) hc
set_option maxRecDepth 20000 in
theorem a_X16_lineage_149 {Q : Sg → Int → Prop} {X : Sg → String → Prop} (K : MC R p s m args c cX16_lineage 8 RX16 D cA tys A n0 s0 2 46 []) (hQ : HQI p l e R s m args below meth c cX16_lineage D cA A n0 s0 QM dm ra jx rm Q) (hX : HX p l e R s m args below meth c 8 D cA A n0 s0 QM dm ra jx rm X) : ∀ (σ : Sg) (v6 : Int) (g6 : rng v6), w_X16_lineage_149 ra jx rm Q X σ v6 → RG σ → Shp dm ra jx rm σ → JJ p l e R s m args below meth c 8 D cA A n0 s0 QM σ 149 [(0, .ref rm), (6, .int (i32 v6))] [.ref rm] := by
  intro σ v6 g6 h hGσ hS H locs ls hH hl hc
  have B := K.1
  unfold w_X16_lineage_149 at h
  refine lv_iconst (v := i32 0) B.1 B.2.1 dX16_lineage_149 (by decide) ?_
  exact a_X16_lineage_150 K hQ hX _ _ _ g6 (by unfold rng; omega) h hGσ hS _ _ _ hH (lv_sub (l' := [(0, .ref rm), (6, .int (i32 v6))]) hl [0, 1] rfl) hc
set_option maxRecDepth 20000 in
theorem a_X16_lineage_145 {Q : Sg → Int → Prop} {X : Sg → String → Prop} (K : MC R p s m args c cX16_lineage 8 RX16 D cA tys A n0 s0 2 46 []) (hQ : HQI p l e R s m args below meth c cX16_lineage D cA A n0 s0 QM dm ra jx rm Q) (hX : HX p l e R s m args below meth c 8 D cA A n0 s0 QM dm ra jx rm X) : ∀ (σ : Sg) (v6 : Int) (g6 : rng v6), w_X16_lineage_145 ra jx rm Q X σ v6 → RG σ → Shp dm ra jx rm σ → JJ p l e R s m args below meth c 8 D cA A n0 s0 QM σ 145 [(0, .ref rm), (6, .int (i32 v6))] [.ref rm] := by
  intro σ v6 g6 h hGσ hS H locs ls hH hl hc
  have B := K.1
  unfold w_X16_lineage_145 at h
  refine lv_iconst (v := i32 1) B.1 B.2.1 dX16_lineage_145 (by decide) ?_
  refine lv_goto (tgt := 150) B.1 B.2.1 dX16_lineage_146 (by decide) ?_
  exact a_X16_lineage_150 K hQ hX _ _ _ g6 (by unfold rng; omega) h hGσ hS _ _ _ hH (lv_sub (l' := [(0, .ref rm), (6, .int (i32 v6))]) hl [0, 1] rfl) hc
set_option maxRecDepth 20000 in
theorem a_X16_lineage_138 {Q : Sg → Int → Prop} {X : Sg → String → Prop} (K : MC R p s m args c cX16_lineage 8 RX16 D cA tys A n0 s0 2 46 []) (hQ : HQI p l e R s m args below meth c cX16_lineage D cA A n0 s0 QM dm ra jx rm Q) (hX : HX p l e R s m args below meth c 8 D cA A n0 s0 QM dm ra jx rm X) : ∀ (σ : Sg) (v6 : Int) (g6 : rng v6), w_X16_lineage_138 ra jx rm Q X σ v6 → RG σ → Shp dm ra jx rm σ → JJ p l e R s m args below meth c 8 D cA A n0 s0 QM σ 138 [(0, .ref rm), (6, .int (i32 v6))] [] := by
  intro σ v6 g6 h hGσ hS H locs ls hH hl hc
  have B := K.1
  unfold w_X16_lineage_138 at h
  refine lv_aload_n B.1 B.2.1 dX16_lineage_138 rfl (lv_at hl 0 rfl) ?_
  refine lv_iload B.1 B.2.1 dX16_lineage_139 (lv_at hl 1 rfl) ?_
  refine lv_iconst (v := i32 (-1)) B.1 B.2.1 dX16_lineage_141 (by decide) ?_
  refine lv_icmp_ne (tgt := 149) B.1 B.2.1 dX16_lineage_142 (by decide) (fun h9 => ?_) (fun h9 => ?_)
  · rw [if_pos (fun q => h9 ((i32_eq g6 (by unfold rng; omega)).mpr q))] at h
    exact a_X16_lineage_149 K hQ hX _ _ g6 h hGσ hS _ _ _ hH (lv_sub (l' := [(0, .ref rm), (6, .int (i32 v6))]) hl [0, 1] rfl) hc
  · rw [if_neg (fun q => q ((i32_eq g6 (by unfold rng; omega)).mp h9))] at h
    exact a_X16_lineage_145 K hQ hX _ _ g6 h hGσ hS _ _ _ hH (lv_sub (l' := [(0, .ref rm), (6, .int (i32 v6))]) hl [0, 1] rfl) hc
set_option maxRecDepth 20000 in
theorem a_X16_lineage_135 {Q : Sg → Int → Prop} {X : Sg → String → Prop} (K : MC R p s m args c cX16_lineage 8 RX16 D cA tys A n0 s0 2 46 []) (hQ : HQI p l e R s m args below meth c cX16_lineage D cA A n0 s0 QM dm ra jx rm Q) (hX : HX p l e R s m args below meth c 8 D cA A n0 s0 QM dm ra jx rm X) : ∀ (σ : Sg) (v5 : Int) (g5 : rng v5), w_X16_lineage_135 ra jx rm Q X σ v5 → RG σ → Shp dm ra jx rm σ → JJ p l e R s m args below meth c 8 D cA A n0 s0 QM σ 135 [(0, .ref rm), (5, .int (i32 v5))] [] := by
  intro σ v5 g5 h hGσ hS H locs ls hH hl hc
  have B := K.1
  unfold w_X16_lineage_135 at h
  refine lv_iload B.1 B.2.1 dX16_lineage_135 (lv_at hl 1 rfl) ?_
  exact hQ _ _ _ _ _ _ g5 dX16_lineage_137 hH hc h hGσ hS
set_option maxRecDepth 20000 in
theorem a_X16_lineage_130 {Q : Sg → Int → Prop} {X : Sg → String → Prop} (K : MC R p s m args c cX16_lineage 8 RX16 D cA tys A n0 s0 2 46 []) (hQ : HQI p l e R s m args below meth c cX16_lineage D cA A n0 s0 QM dm ra jx rm Q) (hX : HX p l e R s m args below meth c 8 D cA A n0 s0 QM dm ra jx rm X) : ∀ (σ : Sg) (v3 : Int) (v5 : Int) (v6 : Int) (g3 : rng v3) (g5 : rng v5) (g6 : rng v6), w_X16_lineage_130 ra jx rm Q X σ v3 v5 v6 → RG σ → Shp dm ra jx rm σ → JJ p l e R s m args below meth c 8 D cA A n0 s0 QM σ 130 [(0, .ref rm), (3, .int (i32 v3)), (5, .int (i32 v5)), (6, .int (i32 v6))] [] := by
  intro σ v3 v5 v6 g3 g5 g6 h hGσ hS H locs ls hH hl hc
  have B := K.1
  unfold w_X16_lineage_130 at h
  refine lv_iload_n B.1 B.2.1 dX16_lineage_130 rfl (lv_at hl 1 rfl) ?_
  refine lv_iconst (v := i32 (-1)) B.1 B.2.1 dX16_lineage_131 (by decide) ?_
  refine lv_icmp_ne (tgt := 138) B.1 B.2.1 dX16_lineage_132 (by decide) (fun h9 => ?_) (fun h9 => ?_)
  · rw [if_pos (fun q => h9 ((i32_eq g3 (by unfold rng; omega)).mpr q))] at h
    exact a_X16_lineage_138 K hQ hX _ _ g6 h hGσ hS _ _ _ hH (lv_sub (l' := [(0, .ref rm), (6, .int (i32 v6))]) hl [0, 3] rfl) hc
  · rw [if_neg (fun q => q ((i32_eq g3 (by unfold rng; omega)).mp h9))] at h
    exact a_X16_lineage_135 K hQ hX _ _ g5 h hGσ hS _ _ _ hH (lv_sub (l' := [(0, .ref rm), (5, .int (i32 v5))]) hl [0, 2] rfl) hc
set_option maxRecDepth 20000 in
theorem a_X16_lineage_124 {Q : Sg → Int → Prop} {X : Sg → String → Prop} (K : MC R p s m args c cX16_lineage 8 RX16 D cA tys A n0 s0 2 46 []) (hQ : HQI p l e R s m args below meth c cX16_lineage D cA A n0 s0 QM dm ra jx rm Q) (hX : HX p l e R s m args below meth c 8 D cA A n0 s0 QM dm ra jx rm X) {K70 : Sg → Int → Int → Int → Int → Int → Prop} (hK70 : ∀ (σ : Sg) (v3 : Int) (v4 : Int) (v5 : Int) (v6 : Int) (v7 : Int) (g3 : rng v3) (g4 : rng v4) (g5 : rng v5) (g6 : rng v6) (g7 : rng v7), K70 σ v3 v4 v5 v6 v7 → RG σ → Shp dm ra jx rm σ → JJ p l e R s m args below meth c 8 D cA A n0 s0 QM σ 70 [(0, .ref rm), (3, .int (i32 v3)), (4, .int (i32 v4)), (5, .int (i32 v5)), (6, .int (i32 v6)), (7, .int (i32 v7))] []) : ∀ (σ : Sg) (v3 : Int) (v4 : Int) (v5 : Int) (v6 : Int) (v7 : Int) (g3 : rng v3) (g4 : rng v4) (g5 : rng v5) (g6 : rng v6) (g7 : rng v7), w_X16_lineage_124 ra jx rm K70 Q X σ v3 v4 v5 v6 v7 → RG σ → Shp dm ra jx rm σ → JJ p l e R s m args below meth c 8 D cA A n0 s0 QM σ 124 [(0, .ref rm), (3, .int (i32 v3)), (4, .int (i32 v4)), (5, .int (i32 v5)), (6, .int (i32 v6)), (7, .int (i32 v7))] [] := by
  intro σ v3 v4 v5 v6 v7 g3 g4 g5 g6 g7 h hGσ hS H locs ls hH hl hc
  have B := K.1
  unfold w_X16_lineage_124 at h
  obtain ⟨q1, h⟩ := h
  refine lv_iinc (k := 5) (v := i32 (v7 + 1)) (lv' := [(7, .int (i32 (v7 + 1))), (0, .ref rm), (3, .int (i32 v3)), (4, .int (i32 v4)), (5, .int (i32 v5)), (6, .int (i32 v6))]) B.1 B.2.1 dX16_lineage_124 hl rfl (i32_add _ _) (by decide) rfl (fun ls hl => ?_)
  refine lv_goto (tgt := 70) B.1 B.2.1 dX16_lineage_127 (by decide) ?_
  exact hK70 _ _ _ _ _ _ g3 g4 g5 g6 q1 h hGσ hS _ _ _ hH (lv_sub (l' := [(0, .ref rm), (3, .int (i32 v3)), (4, .int (i32 v4)), (5, .int (i32 v5)), (6, .int (i32 v6)), (7, .int (i32 (v7 + 1)))]) hl [1, 2, 3, 4, 5, 0] rfl) hc
set_option maxRecDepth 20000 in
theorem a_X16_lineage_119 {Q : Sg → Int → Prop} {X : Sg → String → Prop} (K : MC R p s m args c cX16_lineage 8 RX16 D cA tys A n0 s0 2 46 []) (hQ : HQI p l e R s m args below meth c cX16_lineage D cA A n0 s0 QM dm ra jx rm Q) (hX : HX p l e R s m args below meth c 8 D cA A n0 s0 QM dm ra jx rm X) {K70 : Sg → Int → Int → Int → Int → Int → Prop} (hK70 : ∀ (σ : Sg) (v3 : Int) (v4 : Int) (v5 : Int) (v6 : Int) (v7 : Int) (g3 : rng v3) (g4 : rng v4) (g5 : rng v5) (g6 : rng v6) (g7 : rng v7), K70 σ v3 v4 v5 v6 v7 → RG σ → Shp dm ra jx rm σ → JJ p l e R s m args below meth c 8 D cA A n0 s0 QM σ 70 [(0, .ref rm), (3, .int (i32 v3)), (4, .int (i32 v4)), (5, .int (i32 v5)), (6, .int (i32 v6)), (7, .int (i32 v7))] []) : ∀ (σ : Sg) (v3 : Int) (v4 : Int) (v5 : Int) (v7 : Int) (u0 : Int) (g3 : rng v3) (g4 : rng v4) (g5 : rng v5) (g7 : rng v7) (gu0 : rng u0), w_X16_lineage_119 ra jx rm K70 Q X σ v3 v4 v5 v7 u0 → RG σ → Shp dm ra jx rm σ → JJ p l e R s m args below meth c 8 D cA A n0 s0 QM σ 119 [(0, .ref rm), (3, .int (i32 v3)), (4, .int (i32 v4)), (5, .int (i32 v5)), (7, .int (i32 v7))] [.int (i32 u0)] := by
  intro σ v3 v4 v5 v7 u0 g3 g4 g5 g7 gu0 h hGσ hS H locs ls hH hl hc
  have B := K.1
  unfold w_X16_lineage_119 at h
  refine lv_istore (lv' := [(6, .int (i32 u0)), (0, .ref rm), (3, .int (i32 v3)), (4, .int (i32 v4)), (5, .int (i32 v5)), (7, .int (i32 v7))]) B.1 B.2.1 dX16_lineage_119 hl (by decide) rfl (fun ls hl => ?_)
  obtain ⟨q1, h⟩ := h
  refine lv_iinc (k := 4) (v := i32 (v5 + 1)) (lv' := [(5, .int (i32 (v5 + 1))), (6, .int (i32 u0)), (0, .ref rm), (3, .int (i32 v3)), (4, .int (i32 v4)), (7, .int (i32 v7))]) B.1 B.2.1 dX16_lineage_121 hl rfl (i32_add _ _) (by decide) rfl (fun ls hl => ?_)
  exact a_X16_lineage_124 K hQ hX hK70 _ _ _ _ _ _ g3 g4 q1 gu0 g7 h hGσ hS _ _ _ hH (lv_sub (l' := [(0, .ref rm), (3, .int (i32 v3)), (4, .int (i32 v4)), (5, .int (i32 (v5 + 1))), (6, .int (i32 u0)), (7, .int (i32 v7))]) hl [2, 3, 4, 0, 1, 5] rfl) hc
set_option maxRecDepth 20000 in
theorem a_X16_lineage_117 {Q : Sg → Int → Prop} {X : Sg → String → Prop} (K : MC R p s m args c cX16_lineage 8 RX16 D cA tys A n0 s0 2 46 []) (hQ : HQI p l e R s m args below meth c cX16_lineage D cA A n0 s0 QM dm ra jx rm Q) (hX : HX p l e R s m args below meth c 8 D cA A n0 s0 QM dm ra jx rm X) {K70 : Sg → Int → Int → Int → Int → Int → Prop} (hK70 : ∀ (σ : Sg) (v3 : Int) (v4 : Int) (v5 : Int) (v6 : Int) (v7 : Int) (g3 : rng v3) (g4 : rng v4) (g5 : rng v5) (g6 : rng v6) (g7 : rng v7), K70 σ v3 v4 v5 v6 v7 → RG σ → Shp dm ra jx rm σ → JJ p l e R s m args below meth c 8 D cA A n0 s0 QM σ 70 [(0, .ref rm), (3, .int (i32 v3)), (4, .int (i32 v4)), (5, .int (i32 v5)), (6, .int (i32 v6)), (7, .int (i32 v7))] []) : ∀ (σ : Sg) (v3 : Int) (v4 : Int) (v5 : Int) (v6 : Int) (v7 : Int) (g3 : rng v3) (g4 : rng v4) (g5 : rng v5) (g6 : rng v6) (g7 : rng v7), w_X16_lineage_117 ra jx rm K70 Q X σ v3 v4 v5 v6 v7 → RG σ → Shp dm ra jx rm σ → JJ p l e R s m args below meth c 8 D cA A n0 s0 QM σ 117 [(0, .ref rm), (3, .int (i32 v3)), (4, .int (i32 v4)), (5, .int (i32 v5)), (6, .int (i32 v6)), (7, .int (i32 v7))] [] := by
  intro σ v3 v4 v5 v6 v7 g3 g4 g5 g6 g7 h hGσ hS H locs ls hH hl hc
  have B := K.1
  unfold w_X16_lineage_117 at h
  refine lv_iload B.1 B.2.1 dX16_lineage_117 (lv_at hl 4 rfl) ?_
  exact a_X16_lineage_119 K hQ hX hK70 _ _ _ _ _ _ g3 g4 g5 g7 g6 h hGσ hS _ _ _ hH (lv_sub (l' := [(0, .ref rm), (3, .int (i32 v3)), (4, .int (i32 v4)), (5, .int (i32 v5)), (7, .int (i32 v7))]) hl [0, 1, 2, 3, 5] rfl) hc
set_option maxRecDepth 20000 in
theorem a_X16_lineage_112 {Q : Sg → Int → Prop} {X : Sg → String → Prop} (K : MC R p s m args c cX16_lineage 8 RX16 D cA tys A n0 s0 2 46 []) (hQ : HQI p l e R s m args below meth c cX16_lineage D cA A n0 s0 QM dm ra jx rm Q) (hX : HX p l e R s m args below meth c 8 D cA A n0 s0 QM dm ra jx rm X) {K70 : Sg → Int → Int → Int → Int → Int → Prop} (hK70 : ∀ (σ : Sg) (v3 : Int) (v4 : Int) (v5 : Int) (v6 : Int) (v7 : Int) (g3 : rng v3) (g4 : rng v4) (g5 : rng v5) (g6 : rng v6) (g7 : rng v7), K70 σ v3 v4 v5 v6 v7 → RG σ → Shp dm ra jx rm σ → JJ p l e R s m args below meth c 8 D cA A n0 s0 QM σ 70 [(0, .ref rm), (3, .int (i32 v3)), (4, .int (i32 v4)), (5, .int (i32 v5)), (6, .int (i32 v6)), (7, .int (i32 v7))] []) : ∀ (σ : Sg) (v3 : Int) (v4 : Int) (v5 : Int) (v7 : Int) (g3 : rng v3) (g4 : rng v4) (g5 : rng v5) (g7 : rng v7), w_X16_lineage_112 ra jx rm K70 Q X σ v3 v4 v5 v7 → RG σ → Shp dm ra jx rm σ → JJ p l e R s m args below meth c 8 D cA A n0 s0 QM σ 112 [(0, .ref rm), (3, .int (i32 v3)), (4, .int (i32 v4)), (5, .int (i32 v5)), (7, .int (i32 v7))] [] := by
  intro σ v3 v4 v5 v7 g3 g4 g5 g7 h hGσ hS H locs ls hH hl hc
  have B := K.1
  unfold w_X16_lineage_112 at h
  refine lv_iload B.1 B.2.1 dX16_lineage_112 (lv_at hl 4 rfl) ?_
  refine lv_goto (tgt := 119) B.1 B.2.1 dX16_lineage_114 (by decide) ?_
  exact a_X16_lineage_119 K hQ hX hK70 _ _ _ _ _ _ g3 g4 g5 g7 g7 h hGσ hS _ _ _ hH (lv_sub (l' := [(0, .ref rm), (3, .int (i32 v3)), (4, .int (i32 v4)), (5, .int (i32 v5)), (7, .int (i32 v7))]) hl [0, 1, 2, 3, 4] rfl) hc
set_option maxRecDepth 20000 in
theorem a_X16_lineage_106 {Q : Sg → Int → Prop} {X : Sg → String → Prop} (K : MC R p s m args c cX16_lineage 8 RX16 D cA tys A n0 s0 2 46 []) (hQ : HQI p l e R s m args below meth c cX16_lineage D cA A n0 s0 QM dm ra jx rm Q) (hX : HX p l e R s m args below meth c 8 D cA A n0 s0 QM dm ra jx rm X) {K70 : Sg → Int → Int → Int → Int → Int → Prop} (hK70 : ∀ (σ : Sg) (v3 : Int) (v4 : Int) (v5 : Int) (v6 : Int) (v7 : Int) (g3 : rng v3) (g4 : rng v4) (g5 : rng v5) (g6 : rng v6) (g7 : rng v7), K70 σ v3 v4 v5 v6 v7 → RG σ → Shp dm ra jx rm σ → JJ p l e R s m args below meth c 8 D cA A n0 s0 QM σ 70 [(0, .ref rm), (3, .int (i32 v3)), (4, .int (i32 v4)), (5, .int (i32 v5)), (6, .int (i32 v6)), (7, .int (i32 v7))] []) : ∀ (σ : Sg) (v3 : Int) (v4 : Int) (v5 : Int) (v6 : Int) (v7 : Int) (g3 : rng v3) (g4 : rng v4) (g5 : rng v5) (g6 : rng v6) (g7 : rng v7), w_X16_lineage_106 ra jx rm K70 Q X σ v3 v4 v5 v6 v7 → RG σ → Shp dm ra jx rm σ → JJ p l e R s m args below meth c 8 D cA A n0 s0 QM σ 106 [(0, .ref rm), (3, .int (i32 v3)), (4, .int (i32 v4)), (5, .int (i32 v5)), (6, .int (i32 v6)), (7, .int (i32 v7))] [] := by
  intro σ v3 v4 v5 v6 v7 g3 g4 g5 g6 g7 h hGσ hS H locs ls hH hl hc
  have B := K.1
  unfold w_X16_lineage_106 at h
  refine lv_iload B.1 B.2.1 dX16_lineage_106 (lv_at hl 3 rfl) ?_
  refine lv_iload_n B.1 B.2.1 dX16_lineage_108 rfl (lv_at hl 1 rfl) ?_
  refine lv_icmp_ne (tgt := 117) B.1 B.2.1 dX16_lineage_109 (by decide) (fun h9 => ?_) (fun h9 => ?_)
  · rw [if_pos (fun q => h9 ((i32_eq g5 g3).mpr q))] at h
    exact a_X16_lineage_117 K hQ hX hK70 _ _ _ _ _ _ g3 g4 g5 g6 g7 h hGσ hS _ _ _ hH (lv_sub (l' := [(0, .ref rm), (3, .int (i32 v3)), (4, .int (i32 v4)), (5, .int (i32 v5)), (6, .int (i32 v6)), (7, .int (i32 v7))]) hl [0, 1, 2, 3, 4, 5] rfl) hc
  · rw [if_neg (fun q => q ((i32_eq g5 g3).mp h9))] at h
    exact a_X16_lineage_112 K hQ hX hK70 _ _ _ _ _ g3 g4 g5 g7 h hGσ hS _ _ _ hH (lv_sub (l' := [(0, .ref rm), (3, .int (i32 v3)), (4, .int (i32 v4)), (5, .int (i32 v5)), (7, .int (i32 v7))]) hl [0, 1, 2, 3, 5] rfl) hc
set_option maxRecDepth 20000 in
theorem a_X16_lineage_78 {Q : Sg → Int → Prop} {X : Sg → String → Prop} (K : MC R p s m args c cX16_lineage 8 RX16 D cA tys A n0 s0 2 46 []) (hQ : HQI p l e R s m args below meth c cX16_lineage D cA A n0 s0 QM dm ra jx rm Q) (hX : HX p l e R s m args below meth c 8 D cA A n0 s0 QM dm ra jx rm X) {K70 : Sg → Int → Int → Int → Int → Int → Prop} (hK70 : ∀ (σ : Sg) (v3 : Int) (v4 : Int) (v5 : Int) (v6 : Int) (v7 : Int) (g3 : rng v3) (g4 : rng v4) (g5 : rng v5) (g6 : rng v6) (g7 : rng v7), K70 σ v3 v4 v5 v6 v7 → RG σ → Shp dm ra jx rm σ → JJ p l e R s m args below meth c 8 D cA A n0 s0 QM σ 70 [(0, .ref rm), (3, .int (i32 v3)), (4, .int (i32 v4)), (5, .int (i32 v5)), (6, .int (i32 v6)), (7, .int (i32 v7))] []) : ∀ (σ : Sg) (v3 : Int) (v4 : Int) (v5 : Int) (v6 : Int) (v7 : Int) (g3 : rng v3) (g4 : rng v4) (g5 : rng v5) (g6 : rng v6) (g7 : rng v7), w_X16_lineage_78 ra jx rm K70 Q X σ v3 v4 v5 v6 v7 → RG σ → Shp dm ra jx rm σ → JJ p l e R s m args below meth c 8 D cA A n0 s0 QM σ 78 [(0, .ref rm), (3, .int (i32 v3)), (4, .int (i32 v4)), (5, .int (i32 v5)), (6, .int (i32 v6)), (7, .int (i32 v7))] [] := by
  intro σ v3 v4 v5 v6 v7 g3 g4 g5 g6 g7 h hGσ hS H locs ls hH hl hc
  have B := K.1
  unfold w_X16_lineage_78 at h
  refine lv_aload_n B.1 B.2.1 dX16_lineage_78 rfl (lv_at hl 0 rfl) ?_
  refine r_arr B hH hS 26 (kd := 101) (n := 120000) (by decide) (by decide) wf_X16_350 rfl rfl dX16_lineage_79 ?_
  refine lv_iconst (v := i32 4) B.1 B.2.1 dX16_lineage_82 (by decide) ?_
  refine lv_iload B.1 B.2.1 dX16_lineage_83 (lv_at hl 2 rfl) ?_
  obtain ⟨q1, h⟩ := h
  refine lv_imul B.1 B.2.1 dX16_lineage_85 ?_
  rw [i32_mul]
  refine lv_iload B.1 B.2.1 dX16_lineage_86 (lv_at hl 5 rfl) ?_
  refine lv_bipush (v := i32 64) B.1 B.2.1 dX16_lineage_88 (by decide) ?_
  refine lv_idiv B.1 B.2.1 dX16_lineage_90 (i32_ne0 (by unfold rng; omega) (by decide)) ?_
  refine W.eq (g2 := F0 m 91 ls [.int (i32 (divI v7 64)), .int (i32 (4 * v4)), .ref (ra 26)]) (by unfold divI; rw [i32_self]) ?_
  obtain ⟨q2, h⟩ := h
  refine lv_iadd B.1 B.2.1 dX16_lineage_91 ?_
  rw [i32_add]
  obtain ⟨q3, h⟩ := h
  refine x_lald B K.2.1 hH (hS.ar (k := 26) (kd := 101) (n := 120000) (by decide)) (by decide) q3 dX16_lineage_92 ?_
  refine lv_iload B.1 B.2.1 dX16_lineage_93 (lv_at hl 5 rfl) ?_
  refine lv_bipush (v := i32 64) B.1 B.2.1 dX16_lineage_95 (by decide) ?_
  refine lv_irem B.1 B.2.1 dX16_lineage_97 (i32_ne0 (by unfold rng; omega) (by decide)) ?_
  refine W.eq (g2 := F0 m 98 ls [.int (i32 (remI v7 64)), .long (gJ σ (ra 26) ((4 * v4) + (divI v7 64)).toNat)]) (by unfold remI; rw [i32_self]) ?_
  refine lv_lshr B.1 B.2.1 dX16_lineage_98 rfl ?_
  refine lv_lconst (v := 1) B.1 B.2.1 dX16_lineage_99 (by decide) ?_
  refine lv_land B.1 B.2.1 dX16_lineage_100 ?_
  refine lv_lconst (v := 1) B.1 B.2.1 dX16_lineage_101 (by decide) ?_
  refine W.lcmp B.1 B.2.1 dX16_lineage_102 ?_
  refine lv_if_ne (tgt := 124) B.1 B.2.1 dX16_lineage_103 (by decide) (fun h9 => ?_) (fun h9 => ?_)
  · rw [if_pos (fun q => h9 ((lg_cmp_eq _ _).mpr q))] at h
    exact a_X16_lineage_124 K hQ hX hK70 _ _ _ _ _ _ g3 g4 g5 g6 g7 h hGσ hS _ _ _ hH (lv_sub (l' := [(0, .ref rm), (3, .int (i32 v3)), (4, .int (i32 v4)), (5, .int (i32 v5)), (6, .int (i32 v6)), (7, .int (i32 v7))]) hl [0, 1, 2, 3, 4, 5] rfl) hc
  · rw [if_neg (fun q => q ((lg_cmp_eq _ _).mp h9))] at h
    exact a_X16_lineage_106 K hQ hX hK70 _ _ _ _ _ _ g3 g4 g5 g6 g7 h hGσ hS _ _ _ hH (lv_sub (l' := [(0, .ref rm), (3, .int (i32 v3)), (4, .int (i32 v4)), (5, .int (i32 v5)), (6, .int (i32 v6)), (7, .int (i32 v7))]) hl [0, 1, 2, 3, 4, 5] rfl) hc
set_option maxRecDepth 20000 in
theorem a_X16_lineage_70 {Q : Sg → Int → Prop} {X : Sg → String → Prop} (K : MC R p s m args c cX16_lineage 8 RX16 D cA tys A n0 s0 2 46 []) (hQ : HQI p l e R s m args below meth c cX16_lineage D cA A n0 s0 QM dm ra jx rm Q) (hX : HX p l e R s m args below meth c 8 D cA A n0 s0 QM dm ra jx rm X) {K70 : Sg → Int → Int → Int → Int → Int → Prop} (hK70 : ∀ (σ : Sg) (v3 : Int) (v4 : Int) (v5 : Int) (v6 : Int) (v7 : Int) (g3 : rng v3) (g4 : rng v4) (g5 : rng v5) (g6 : rng v6) (g7 : rng v7), K70 σ v3 v4 v5 v6 v7 → RG σ → Shp dm ra jx rm σ → JJ p l e R s m args below meth c 8 D cA A n0 s0 QM σ 70 [(0, .ref rm), (3, .int (i32 v3)), (4, .int (i32 v4)), (5, .int (i32 v5)), (6, .int (i32 v6)), (7, .int (i32 v7))] []) : ∀ (σ : Sg) (v3 : Int) (v4 : Int) (v5 : Int) (v6 : Int) (v7 : Int) (g3 : rng v3) (g4 : rng v4) (g5 : rng v5) (g6 : rng v6) (g7 : rng v7), w_X16_lineage_70 ra jx rm K70 Q X σ v3 v4 v5 v6 v7 → RG σ → Shp dm ra jx rm σ → JJ p l e R s m args below meth c 8 D cA A n0 s0 QM σ 70 [(0, .ref rm), (3, .int (i32 v3)), (4, .int (i32 v4)), (5, .int (i32 v5)), (6, .int (i32 v6)), (7, .int (i32 v7))] [] := by
  intro σ v3 v4 v5 v6 v7 g3 g4 g5 g6 g7 h hGσ hS H locs ls hH hl hc
  have B := K.1
  unfold w_X16_lineage_70 at h
  refine lv_iload B.1 B.2.1 dX16_lineage_70 (lv_at hl 5 rfl) ?_
  refine lv_sipush (v := i32 256) B.1 B.2.1 dX16_lineage_72 (by decide) ?_
  refine lv_icmp_ge (tgt := 130) B.1 B.2.1 dX16_lineage_75 (by decide) (fun h9 => ?_) (fun h9 => ?_)
  · rw [if_pos ((i32_le (by unfold rng; omega) g7).mp h9)] at h
    exact a_X16_lineage_130 K hQ hX _ _ _ _ g3 g5 g6 h hGσ hS _ _ _ hH (lv_sub (l' := [(0, .ref rm), (3, .int (i32 v3)), (5, .int (i32 v5)), (6, .int (i32 v6))]) hl [0, 1, 3, 4] rfl) hc
  · rw [if_neg (fun q => h9 ((i32_le (by unfold rng; omega) g7).mpr q))] at h
    exact a_X16_lineage_78 K hQ hX hK70 _ _ _ _ _ _ g3 g4 g5 g6 g7 h hGσ hS _ _ _ hH (lv_sub (l' := [(0, .ref rm), (3, .int (i32 v3)), (4, .int (i32 v4)), (5, .int (i32 v5)), (6, .int (i32 v6)), (7, .int (i32 v7))]) hl [0, 1, 2, 3, 4, 5] rfl) hc
theorem al_X16_lineage_70 {Q : Sg → Int → Prop} {X : Sg → String → Prop} (K : MC R p s m args c cX16_lineage 8 RX16 D cA tys A n0 s0 2 46 []) (hQ : HQI p l e R s m args below meth c cX16_lineage D cA A n0 s0 QM dm ra jx rm Q) (hX : HX p l e R s m args below meth c 8 D cA A n0 s0 QM dm ra jx rm X) : ∀ (n : Nat), ∀ (σ : Sg) (v3 : Int) (v4 : Int) (v5 : Int) (v6 : Int) (v7 : Int) (g3 : rng v3) (g4 : rng v4) (g5 : rng v5) (g6 : rng v6) (g7 : rng v7), wl_X16_lineage_70 ra jx rm Q X n σ v3 v4 v5 v6 v7 → RG σ → Shp dm ra jx rm σ → JJ p l e R s m args below meth c 8 D cA A n0 s0 QM σ 70 [(0, .ref rm), (3, .int (i32 v3)), (4, .int (i32 v4)), (5, .int (i32 v5)), (6, .int (i32 v6)), (7, .int (i32 v7))] [] := by
  intro n
  induction n with
  | zero => intro σ v3 v4 v5 v6 v7 g3 g4 g5 g6 g7 h; exact h.elim
  | succ n ih => exact fun σ v3 v4 v5 v6 v7 g3 g4 g5 g6 g7 h => a_X16_lineage_70 K hQ hX ih σ v3 v4 v5 v6 v7 g3 g4 g5 g6 g7 h
set_option maxRecDepth 20000 in
theorem a_X16_lineage_48 {Q : Sg → Int → Prop} {X : Sg → String → Prop} (K : MC R p s m args c cX16_lineage 8 RX16 D cA tys A n0 s0 2 46 []) (hQ : HQI p l e R s m args below meth c cX16_lineage D cA A n0 s0 QM dm ra jx rm Q) (hX : HX p l e R s m args below meth c 8 D cA A n0 s0 QM dm ra jx rm X) : ∀ (σ : Sg) (v1 : Int) (v2 : Int) (v3 : Int) (g1 : rng v1) (g2 : rng v2) (g3 : rng v3), w_X16_lineage_48 ra jx rm Q X σ v1 v2 v3 → RG σ → Shp dm ra jx rm σ → JJ p l e R s m args below meth c 8 D cA A n0 s0 QM σ 48 [(0, .ref rm), (1, .int (i32 v1)), (2, .int (i32 v2)), (3, .int (i32 v3))] [] := by
  intro σ v1 v2 v3 g1 g2 g3 h hGσ hS H locs ls hH hl hc
  have B := K.1
  unfold w_X16_lineage_48 at h
  refine lv_aload_n B.1 B.2.1 dX16_lineage_48 rfl (lv_at hl 0 rfl) ?_
  refine r_arr B hH hS 85 (kd := 100) (n := 2000) (by decide) (by decide) wf_X16_676 rfl rfl dX16_lineage_49 ?_
  refine lv_aload_n B.1 B.2.1 dX16_lineage_52 rfl (lv_at hl 0 rfl) ?_
  refine lv_iload_n B.1 B.2.1 dX16_lineage_53 rfl (lv_at hl 1 rfl) ?_
  refine lv_iload_n B.1 B.2.1 dX16_lineage_54 rfl (lv_at hl 2 rfl) ?_
  refine c_V B hH hl hc K.2.2.1 (C := RX16) (T := TX16) (N := 123) (ci := 16) (As := [.int (i32 v1), .int (i32 v2)]) (ok_X16_visibleAt K.2.1 σ v1 v2 g1 g2 hGσ hS h) wc_X16_1000 2 hd_X16_visibleAt ⟨Nat.le_trans (Nat.le_of_ble_eq_true rfl) K.2.2.2.1, Nat.le_trans (Nat.le_of_ble_eq_true rfl) K.2.2.2.2.1⟩ hS.1.1 hS.1.2 (by decide) rfl rfl (rest := [.ref (ra 85)]) rfl (Nat.le_of_ble_eq_true rfl) dX16_lineage_55 (fun σ18 w hq => ?_) (fun σ9 E9 hx9 => hX σ9 E9 _ _ _ (tb_out K.2.2.2.2.2 rfl) hx9.1 hx9.2.1 hx9.2.2)
  obtain ⟨r19, rfl, gr19, h, hGσ18, hS⟩ := hq
  intro H locs ls hH hl hc
  refine W.eq (g2 := F0 m 58 ls [.int (i32 r19), .ref (ra 85)]) (rfl) ?_
  try dsimp only at h
  obtain ⟨q1, h⟩ := h
  refine x_iald B K.2.1 hH (hS.ar (k := 85) (kd := 100) (n := 2000) (by decide)) (by decide) q1 dX16_lineage_58 ?_
  refine lv_istore (lv' := [(4, .int (i32 (gI σ18 (ra 85) r19.toNat))), (0, .ref rm), (1, .int (i32 v1)), (2, .int (i32 v2)), (3, .int (i32 v3))]) B.1 B.2.1 dX16_lineage_59 hl (by decide) rfl (fun ls hl => ?_)
  refine lv_iconst (v := i32 0) B.1 B.2.1 dX16_lineage_61 (by decide) ?_
  refine lv_istore (lv' := [(5, .int (i32 0)), (4, .int (i32 (gI σ18 (ra 85) r19.toNat))), (0, .ref rm), (1, .int (i32 v1)), (2, .int (i32 v2)), (3, .int (i32 v3))]) B.1 B.2.1 dX16_lineage_62 hl (by decide) rfl (fun ls hl => ?_)
  refine lv_iconst (v := i32 (-1)) B.1 B.2.1 dX16_lineage_64 (by decide) ?_
  refine lv_istore (lv' := [(6, .int (i32 (-1))), (5, .int (i32 0)), (4, .int (i32 (gI σ18 (ra 85) r19.toNat))), (0, .ref rm), (1, .int (i32 v1)), (2, .int (i32 v2)), (3, .int (i32 v3))]) B.1 B.2.1 dX16_lineage_65 hl (by decide) rfl (fun ls hl => ?_)
  refine lv_iconst (v := i32 0) B.1 B.2.1 dX16_lineage_67 (by decide) ?_
  refine lv_istore (lv' := [(7, .int (i32 0)), (6, .int (i32 (-1))), (5, .int (i32 0)), (4, .int (i32 (gI σ18 (ra 85) r19.toNat))), (0, .ref rm), (1, .int (i32 v1)), (2, .int (i32 v2)), (3, .int (i32 v3))]) B.1 B.2.1 dX16_lineage_68 hl (by decide) rfl (fun ls hl => ?_)
  obtain ⟨n9, h⟩ := h
  exact al_X16_lineage_70 K hQ hX n9 _ _ _ _ _ _ g3 (hGσ18 _ _) (by unfold rng; omega) (by unfold rng; omega) (by unfold rng; omega) h hGσ18 hS _ _ _ hH (lv_sub (l' := [(0, .ref rm), (3, .int (i32 v3)), (4, .int (i32 (gI σ18 (ra 85) r19.toNat))), (5, .int (i32 0)), (6, .int (i32 (-1))), (7, .int (i32 0))]) hl [4, 7, 3, 2, 1, 0] rfl) hc
set_option maxRecDepth 20000 in
theorem a_X16_lineage_46 {Q : Sg → Int → Prop} {X : Sg → String → Prop} (K : MC R p s m args c cX16_lineage 8 RX16 D cA tys A n0 s0 2 46 []) (hQ : HQI p l e R s m args below meth c cX16_lineage D cA A n0 s0 QM dm ra jx rm Q) (hX : HX p l e R s m args below meth c 8 D cA A n0 s0 QM dm ra jx rm X) : ∀ (σ : Sg), w_X16_lineage_46 ra jx rm Q X σ → RG σ → Shp dm ra jx rm σ → JJ p l e R s m args below meth c 8 D cA A n0 s0 QM σ 46 [(0, .ref rm)] [] := by
  intro σ h hGσ hS H locs ls hH hl hc
  have B := K.1
  unfold w_X16_lineage_46 at h
  refine lv_iconst (v := i32 0) B.1 B.2.1 dX16_lineage_46 (by decide) ?_
  exact hQ _ _ _ _ _ _ (by unfold rng; omega) dX16_lineage_47 hH hc h hGσ hS
set_option maxRecDepth 20000 in
theorem a_X16_lineage_36 {Q : Sg → Int → Prop} {X : Sg → String → Prop} (K : MC R p s m args c cX16_lineage 8 RX16 D cA tys A n0 s0 2 46 []) (hQ : HQI p l e R s m args below meth c cX16_lineage D cA A n0 s0 QM dm ra jx rm Q) (hX : HX p l e R s m args below meth c 8 D cA A n0 s0 QM dm ra jx rm X) : ∀ (σ : Sg) (v1 : Int) (v2 : Int) (v3 : Int) (u0 : Int) (g1 : rng v1) (g2 : rng v2) (g3 : rng v3) (gu0 : rng u0), w_X16_lineage_36 ra jx rm Q X σ v1 v2 v3 u0 → RG σ → Shp dm ra jx rm σ → JJ p l e R s m args below meth c 8 D cA A n0 s0 QM σ 36 [(0, .ref rm), (1, .int (i32 v1)), (2, .int (i32 v2)), (3, .int (i32 v3))] [.int (i32 u0), .ref rm] := by
  intro σ v1 v2 v3 u0 g1 g2 g3 gu0 h hGσ hS H locs ls hH hl hc
  have B := K.1
  unfold w_X16_lineage_36 at h
  obtain ⟨σ20, eσ20⟩ : ∃ z, z = pI σ rm 0 u0 := ⟨_, rfl⟩
  have h := h σ20 eσ20
  refine r_puti B hH hS 0 (ty := .int) (by decide) wf_X16_1 rfl rfl rfl rfl rfl rfl dX16_lineage_36 (fun H locs hH => ?_)
  have hH : Hd D cA A s (pI σ rm 0 u0) H locs := hH
  rw [← eσ20] at hH
  have hGσ20 : RG σ20 := by rw [eσ20]; exact hGσ.pI gu0
  have hS : Shp dm ra jx rm σ20 := by rw [eσ20]; exact hS
  have hc : CB n0 s0 σ20 := by rw [eσ20]; exact hc
  rw [show gc σ = gc σ20 by rw [eσ20], show gs σ = gs σ20 by rw [eσ20]]
  refine lv_aload_n B.1 B.2.1 dX16_lineage_39 rfl (lv_at hl 0 rfl) ?_
  refine r_geti B hH hS 0 (by decide) wf_X16_1 rfl rfl dX16_lineage_40 ?_
  refine lv_if_le (tgt := 48) B.1 B.2.1 dX16_lineage_43 (by decide) (fun h9 => ?_) (fun h9 => ?_)
  · rw [if_pos ((z_le (hGσ20 _ _)).mp h9)] at h
    exact a_X16_lineage_48 K hQ hX _ _ _ _ g1 g2 g3 h hGσ20 hS _ _ _ hH (lv_sub (l' := [(0, .ref rm), (1, .int (i32 v1)), (2, .int (i32 v2)), (3, .int (i32 v3))]) hl [0, 1, 2, 3] rfl) hc
  · rw [if_neg (fun q => h9 ((z_le (hGσ20 _ _)).mpr q))] at h
    exact a_X16_lineage_46 K hQ hX _ h hGσ20 hS _ _ _ hH (lv_sub (l' := [(0, .ref rm)]) hl [0] rfl) hc
set_option maxRecDepth 20000 in
theorem a_X16_lineage_35 {Q : Sg → Int → Prop} {X : Sg → String → Prop} (K : MC R p s m args c cX16_lineage 8 RX16 D cA tys A n0 s0 2 46 []) (hQ : HQI p l e R s m args below meth c cX16_lineage D cA A n0 s0 QM dm ra jx rm Q) (hX : HX p l e R s m args below meth c 8 D cA A n0 s0 QM dm ra jx rm X) : ∀ (σ : Sg) (v1 : Int) (v2 : Int) (v3 : Int) (g1 : rng v1) (g2 : rng v2) (g3 : rng v3), w_X16_lineage_35 ra jx rm Q X σ v1 v2 v3 → RG σ → Shp dm ra jx rm σ → JJ p l e R s m args below meth c 8 D cA A n0 s0 QM σ 35 [(0, .ref rm), (1, .int (i32 v1)), (2, .int (i32 v2)), (3, .int (i32 v3))] [.ref rm] := by
  intro σ v1 v2 v3 g1 g2 g3 h hGσ hS H locs ls hH hl hc
  have B := K.1
  unfold w_X16_lineage_35 at h
  refine lv_iconst (v := i32 1) B.1 B.2.1 dX16_lineage_35 (by decide) ?_
  exact a_X16_lineage_36 K hQ hX _ _ _ _ _ g1 g2 g3 (by unfold rng; omega) h hGσ hS _ _ _ hH (lv_sub (l' := [(0, .ref rm), (1, .int (i32 v1)), (2, .int (i32 v2)), (3, .int (i32 v3))]) hl [0, 1, 2, 3] rfl) hc
set_option maxRecDepth 20000 in
theorem a_X16_lineage_31 {Q : Sg → Int → Prop} {X : Sg → String → Prop} (K : MC R p s m args c cX16_lineage 8 RX16 D cA tys A n0 s0 2 46 []) (hQ : HQI p l e R s m args below meth c cX16_lineage D cA A n0 s0 QM dm ra jx rm Q) (hX : HX p l e R s m args below meth c 8 D cA A n0 s0 QM dm ra jx rm X) : ∀ (σ : Sg) (v1 : Int) (v2 : Int) (v3 : Int) (g1 : rng v1) (g2 : rng v2) (g3 : rng v3), w_X16_lineage_31 ra jx rm Q X σ v1 v2 v3 → RG σ → Shp dm ra jx rm σ → JJ p l e R s m args below meth c 8 D cA A n0 s0 QM σ 31 [(0, .ref rm), (1, .int (i32 v1)), (2, .int (i32 v2)), (3, .int (i32 v3))] [.ref rm] := by
  intro σ v1 v2 v3 g1 g2 g3 h hGσ hS H locs ls hH hl hc
  have B := K.1
  unfold w_X16_lineage_31 at h
  refine lv_iconst (v := i32 0) B.1 B.2.1 dX16_lineage_31 (by decide) ?_
  refine lv_goto (tgt := 36) B.1 B.2.1 dX16_lineage_32 (by decide) ?_
  exact a_X16_lineage_36 K hQ hX _ _ _ _ _ g1 g2 g3 (by unfold rng; omega) h hGσ hS _ _ _ hH (lv_sub (l' := [(0, .ref rm), (1, .int (i32 v1)), (2, .int (i32 v2)), (3, .int (i32 v3))]) hl [0, 1, 2, 3] rfl) hc
set_option maxRecDepth 20000 in
theorem a_X16_lineage_9 {Q : Sg → Int → Prop} {X : Sg → String → Prop} (K : MC R p s m args c cX16_lineage 8 RX16 D cA tys A n0 s0 2 46 []) (hQ : HQI p l e R s m args below meth c cX16_lineage D cA A n0 s0 QM dm ra jx rm Q) (hX : HX p l e R s m args below meth c 8 D cA A n0 s0 QM dm ra jx rm X) : ∀ (σ : Sg) (v1 : Int) (v2 : Int) (v3 : Int) (g1 : rng v1) (g2 : rng v2) (g3 : rng v3), w_X16_lineage_9 ra jx rm Q X σ v1 v2 v3 → RG σ → Shp dm ra jx rm σ → JJ p l e R s m args below meth c 8 D cA A n0 s0 QM σ 9 [(0, .ref rm), (1, .int (i32 v1)), (2, .int (i32 v2)), (3, .int (i32 v3))] [.ref rm] := by
  intro σ v1 v2 v3 g1 g2 g3 h hGσ hS H locs ls hH hl hc
  have B := K.1
  unfold w_X16_lineage_9 at h
  refine lv_iload_n B.1 B.2.1 dX16_lineage_9 rfl (lv_at hl 2 rfl) ?_
  refine lv_i2l B.1 B.2.1 dX16_lineage_10 (i32_i64 g2) ?_
  refine lv_lconst (v := 0) B.1 B.2.1 dX16_lineage_11 (by decide) ?_
  refine lv_aload_n B.1 B.2.1 dX16_lineage_12 rfl (lv_at hl 0 rfl) ?_
  refine r_arr B hH hS 89 (kd := 100) (n := 12) (by decide) (by decide) wf_X16_667 rfl rfl dX16_lineage_13 ?_
  refine lv_iconst (v := i32 3) B.1 B.2.1 dX16_lineage_16 (by decide) ?_
  refine lv_iload_n B.1 B.2.1 dX16_lineage_17 rfl (lv_at hl 1 rfl) ?_
  obtain ⟨q1, h⟩ := h
  refine lv_imul B.1 B.2.1 dX16_lineage_18 ?_
  rw [i32_mul]
  refine lv_iconst (v := i32 2) B.1 B.2.1 dX16_lineage_19 (by decide) ?_
  obtain ⟨q2, h⟩ := h
  refine lv_iadd B.1 B.2.1 dX16_lineage_20 ?_
  rw [i32_add]
  obtain ⟨q3, h⟩ := h
  refine x_iald B K.2.1 hH (hS.ar (k := 89) (kd := 100) (n := 12) (by decide)) (by decide) q3 dX16_lineage_21 ?_
  refine lv_iconst (v := i32 1) B.1 B.2.1 dX16_lineage_22 (by decide) ?_
  obtain ⟨q4, h⟩ := h
  refine lv_isub B.1 B.2.1 dX16_lineage_23 ?_
  rw [i32_sub]
  refine lv_i2l B.1 B.2.1 dX16_lineage_24 (i32_i64 q4) ?_
  refine c_S B hH hl hc K.2.2.1 (As := [.long (Int64.ofInt v2), .long 0, .long (Int64.ofInt ((gI σ (ra 89) ((3 * v1) + 2).toNat) - 1))]) (ok_X16_within K.2.1 σ (Int64.ofInt v2) 0 (Int64.ofInt ((gI σ (ra 89) ((3 * v1) + 2).toNat) - 1)) hGσ hS h) wc_X16_45 3 hd_X16_within ⟨Nat.le_trans (Nat.le_of_ble_eq_true rfl) K.2.2.2.1, Nat.le_trans (Nat.le_of_ble_eq_true rfl) K.2.2.2.2.1⟩ rfl (rest := [.ref rm]) rfl (Nat.le_of_ble_eq_true rfl) dX16_lineage_25 (fun σ21 w hq => ?_) (fun σ9 E9 hx9 => hX σ9 E9 _ _ _ (tb_out K.2.2.2.2.2 rfl) hx9.1 hx9.2.1 hx9.2.2)
  obtain ⟨r22, rfl, ⟨gr22, gzr22⟩, h, hGσ21, hS⟩ := hq
  intro H locs ls hH hl hc
  refine W.eq (g2 := F0 m 28 ls [.int (i32 r22), .ref rm]) (rfl) ?_
  try dsimp only at h
  refine lv_if_eq (tgt := 35) B.1 B.2.1 dX16_lineage_28 (by decide) (fun h9 => ?_) (fun h9 => ?_)
  · rw [if_pos ((z_eq gr22).mp h9)] at h
    exact a_X16_lineage_35 K hQ hX _ _ _ _ g1 g2 g3 h hGσ21 hS _ _ _ hH (lv_sub (l' := [(0, .ref rm), (1, .int (i32 v1)), (2, .int (i32 v2)), (3, .int (i32 v3))]) hl [0, 1, 2, 3] rfl) hc
  · rw [if_neg (fun q => h9 ((z_eq gr22).mpr q))] at h
    exact a_X16_lineage_31 K hQ hX _ _ _ _ g1 g2 g3 h hGσ21 hS _ _ _ hH (lv_sub (l' := [(0, .ref rm), (1, .int (i32 v1)), (2, .int (i32 v2)), (3, .int (i32 v3))]) hl [0, 1, 2, 3] rfl) hc
set_option maxRecDepth 20000 in
theorem a_X16_lineage_0 {Q : Sg → Int → Prop} {X : Sg → String → Prop} (K : MC R p s m args c cX16_lineage 8 RX16 D cA tys A n0 s0 2 46 []) (hQ : HQI p l e R s m args below meth c cX16_lineage D cA A n0 s0 QM dm ra jx rm Q) (hX : HX p l e R s m args below meth c 8 D cA A n0 s0 QM dm ra jx rm X) : ∀ (σ : Sg) (v1 : Int) (v2 : Int) (v3 : Int) (g1 : rng v1) (g2 : rng v2) (g3 : rng v3), w_X16_lineage_0 ra jx rm Q X σ v1 v2 v3 → RG σ → Shp dm ra jx rm σ → JJ p l e R s m args below meth c 8 D cA A n0 s0 QM σ 0 [(0, .ref rm), (1, .int (i32 v1)), (2, .int (i32 v2)), (3, .int (i32 v3))] [] := by
  intro σ v1 v2 v3 g1 g2 g3 h hGσ hS H locs ls hH hl hc
  have B := K.1
  unfold w_X16_lineage_0 at h
  refine lv_aload_n B.1 B.2.1 dX16_lineage_0 rfl (lv_at hl 0 rfl) ?_
  refine lv_aload_n B.1 B.2.1 dX16_lineage_1 rfl (lv_at hl 0 rfl) ?_
  refine lv_iload_n B.1 B.2.1 dX16_lineage_2 rfl (lv_at hl 1 rfl) ?_
  refine c_V B hH hl hc K.2.2.1 (C := RX16) (T := TX16) (N := 123) (ci := 16) (As := [.int (i32 v1)]) (ok_X16_isOutput K.2.1 σ v1 g1 hGσ hS h) wc_X16_997 1 hd_X16_isOutput ⟨Nat.le_trans (Nat.le_of_ble_eq_true rfl) K.2.2.2.1, Nat.le_trans (Nat.le_of_ble_eq_true rfl) K.2.2.2.2.1⟩ hS.1.1 hS.1.2 (by decide) rfl rfl (rest := [.ref rm]) rfl (Nat.le_of_ble_eq_true rfl) dX16_lineage_3 (fun σ23 w hq => ?_) (fun σ9 E9 hx9 => hX σ9 E9 _ _ _ (tb_out K.2.2.2.2.2 rfl) hx9.1 hx9.2.1 hx9.2.2)
  obtain ⟨r24, rfl, ⟨gr24, gzr24⟩, h, hGσ23, hS⟩ := hq
  intro H locs ls hH hl hc
  refine W.eq (g2 := F0 m 6 ls [.int (i32 r24), .ref rm]) (rfl) ?_
  try dsimp only at h
  refine lv_if_eq (tgt := 35) B.1 B.2.1 dX16_lineage_6 (by decide) (fun h9 => ?_) (fun h9 => ?_)
  · rw [if_pos ((z_eq gr24).mp h9)] at h
    exact a_X16_lineage_35 K hQ hX _ _ _ _ g1 g2 g3 h hGσ23 hS _ _ _ hH (lv_sub (l' := [(0, .ref rm), (1, .int (i32 v1)), (2, .int (i32 v2)), (3, .int (i32 v3))]) hl [0, 1, 2, 3] rfl) hc
  · rw [if_neg (fun q => h9 ((z_eq gr24).mpr q))] at h
    exact a_X16_lineage_9 K hQ hX _ _ _ _ g1 g2 g3 h hGσ23 hS _ _ _ hH (lv_sub (l' := [(0, .ref rm), (1, .int (i32 v1)), (2, .int (i32 v2)), (3, .int (i32 v3))]) hl [0, 1, 2, 3] rfl) hc
theorem ok_X16_lineage (hT : Tys cA tys) {Q : Sg → Int → Prop} {X : Sg → String → Prop} (σ : Sg) (v1 : Int) (v2 : Int) (v3 : Int) (g1 : rng v1) (g2 : rng v2) (g3 : rng v3) (hG : RG σ) (hS : Shp dm ra jx rm σ) (h : wp_X16_lineage ra jx rm v1 v2 v3 σ Q X) : Ok l D cA tys A yX16_lineage (.code yX16_lineage cX16_lineage 8 (some .int)) 2 46 [.ref rm, .int (i32 v1), .int (i32 v2), .int (i32 v3)] σ (QnI dm ra jx rm Q) (QxR dm ra jx rm X) := by
  unfold wp_X16_lineage at h
  exact ok_I (plainFor_of_name (by decide)) (by exact Nat.le_of_ble_eq_true rfl) hT (fun p e R s m args below meth c K hQ hX H locs ls hH hl hc => a_X16_lineage_0 K hQ hX σ v1 v2 v3 g1 g2 g3 h hG hS H locs ls hH (lv_sub (l' := [(0, .ref rm), (1, .int (i32 v1)), (2, .int (i32 v2)), (3, .int (i32 v3))]) hl [0, 1, 2, 3] rfl) hc)
theorem dX16_listed_0 : decode cX16_listed 0 = .ok (.iconst 0, 1) := by decide +kernel
theorem dX16_listed_1 : decode cX16_listed 1 = .ok (.istore_n 2, 1) := by decide +kernel
theorem dX16_listed_2 : decode cX16_listed 2 = .ok (.iconst 0, 1) := by decide +kernel
theorem dX16_listed_3 : decode cX16_listed 3 = .ok (.istore_n 3, 1) := by decide +kernel
theorem dX16_listed_4 : decode cX16_listed 4 = .ok (.iload_n 3, 1) := by decide +kernel
theorem dX16_listed_5 : decode cX16_listed 5 = .ok (.iconst 4, 1) := by decide +kernel
theorem dX16_listed_6 : decode cX16_listed 6 = .ok (.if_icmp .ge 22, 3) := by decide +kernel
theorem dX16_listed_9 : decode cX16_listed 9 = .ok (.iload_n 2, 1) := by decide +kernel
theorem dX16_listed_10 : decode cX16_listed 10 = .ok (.aload_n 0, 1) := by decide +kernel
theorem dX16_listed_11 : decode cX16_listed 11 = .ok (.getfield 667, 3) := by decide +kernel
theorem dX16_listed_14 : decode cX16_listed 14 = .ok (.iconst 3, 1) := by decide +kernel
theorem dX16_listed_15 : decode cX16_listed 15 = .ok (.iload_n 3, 1) := by decide +kernel
theorem dX16_listed_16 : decode cX16_listed 16 = .ok (.imul, 1) := by decide +kernel
theorem dX16_listed_17 : decode cX16_listed 17 = .ok (.iload_n 1, 1) := by decide +kernel
theorem dX16_listed_18 : decode cX16_listed 18 = .ok (.iadd, 1) := by decide +kernel
theorem dX16_listed_19 : decode cX16_listed 19 = .ok (.iaload, 1) := by decide +kernel
theorem dX16_listed_20 : decode cX16_listed 20 = .ok (.iadd, 1) := by decide +kernel
theorem dX16_listed_21 : decode cX16_listed 21 = .ok (.istore_n 2, 1) := by decide +kernel
theorem dX16_listed_22 : decode cX16_listed 22 = .ok (.iinc 3 1, 3) := by decide +kernel
theorem dX16_listed_25 : decode cX16_listed 25 = .ok (.goto (-21), 3) := by decide +kernel
theorem dX16_listed_28 : decode cX16_listed 28 = .ok (.iload_n 2, 1) := by decide +kernel
theorem dX16_listed_29 : decode cX16_listed 29 = .ok (.ireturn, 1) := by decide +kernel
set_option maxRecDepth 20000 in
theorem a_X16_listed_28 {Q : Sg → Int → Prop} {X : Sg → String → Prop} (K : MC R p s m args c cX16_listed 4 RX16 D cA tys A n0 s0 0 0 []) (hQ : HQI p l e R s m args below meth c cX16_listed D cA A n0 s0 QM dm ra jx rm Q) (hX : HX p l e R s m args below meth c 4 D cA A n0 s0 QM dm ra jx rm X) : ∀ (σ : Sg) (v2 : Int) (g2 : rng v2), w_X16_listed_28 ra jx rm Q X σ v2 → RG σ → Shp dm ra jx rm σ → JJ p l e R s m args below meth c 4 D cA A n0 s0 QM σ 28 [(0, .ref rm), (2, .int (i32 v2))] [] := by
  intro σ v2 g2 h hGσ hS H locs ls hH hl hc
  have B := K.1
  unfold w_X16_listed_28 at h
  refine lv_iload_n B.1 B.2.1 dX16_listed_28 rfl (lv_at hl 1 rfl) ?_
  exact hQ _ _ _ _ _ _ g2 dX16_listed_29 hH hc h hGσ hS
set_option maxRecDepth 20000 in
theorem a_X16_listed_9 {Q : Sg → Int → Prop} {X : Sg → String → Prop} (K : MC R p s m args c cX16_listed 4 RX16 D cA tys A n0 s0 0 0 []) (hQ : HQI p l e R s m args below meth c cX16_listed D cA A n0 s0 QM dm ra jx rm Q) (hX : HX p l e R s m args below meth c 4 D cA A n0 s0 QM dm ra jx rm X) {K4 : Sg → Int → Int → Int → Prop} (hK4 : ∀ (σ : Sg) (v1 : Int) (v2 : Int) (v3 : Int) (g1 : rng v1) (g2 : rng v2) (g3 : rng v3), K4 σ v1 v2 v3 → RG σ → Shp dm ra jx rm σ → JJ p l e R s m args below meth c 4 D cA A n0 s0 QM σ 4 [(0, .ref rm), (1, .int (i32 v1)), (2, .int (i32 v2)), (3, .int (i32 v3))] []) : ∀ (σ : Sg) (v1 : Int) (v2 : Int) (v3 : Int) (g1 : rng v1) (g2 : rng v2) (g3 : rng v3), w_X16_listed_9 ra jx rm K4 Q X σ v1 v2 v3 → RG σ → Shp dm ra jx rm σ → JJ p l e R s m args below meth c 4 D cA A n0 s0 QM σ 9 [(0, .ref rm), (1, .int (i32 v1)), (2, .int (i32 v2)), (3, .int (i32 v3))] [] := by
  intro σ v1 v2 v3 g1 g2 g3 h hGσ hS H locs ls hH hl hc
  have B := K.1
  unfold w_X16_listed_9 at h
  refine lv_iload_n B.1 B.2.1 dX16_listed_9 rfl (lv_at hl 2 rfl) ?_
  refine lv_aload_n B.1 B.2.1 dX16_listed_10 rfl (lv_at hl 0 rfl) ?_
  refine r_arr B hH hS 89 (kd := 100) (n := 12) (by decide) (by decide) wf_X16_667 rfl rfl dX16_listed_11 ?_
  refine lv_iconst (v := i32 3) B.1 B.2.1 dX16_listed_14 (by decide) ?_
  refine lv_iload_n B.1 B.2.1 dX16_listed_15 rfl (lv_at hl 3 rfl) ?_
  obtain ⟨q1, h⟩ := h
  refine lv_imul B.1 B.2.1 dX16_listed_16 ?_
  rw [i32_mul]
  refine lv_iload_n B.1 B.2.1 dX16_listed_17 rfl (lv_at hl 1 rfl) ?_
  obtain ⟨q2, h⟩ := h
  refine lv_iadd B.1 B.2.1 dX16_listed_18 ?_
  rw [i32_add]
  obtain ⟨q3, h⟩ := h
  refine x_iald B K.2.1 hH (hS.ar (k := 89) (kd := 100) (n := 12) (by decide)) (by decide) q3 dX16_listed_19 ?_
  obtain ⟨q4, h⟩ := h
  refine lv_iadd B.1 B.2.1 dX16_listed_20 ?_
  rw [i32_add]
  refine lv_istore_n (lv' := [(2, .int (i32 (v2 + (gI σ (ra 89) ((3 * v3) + v1).toNat)))), (0, .ref rm), (1, .int (i32 v1)), (3, .int (i32 v3))]) B.1 B.2.1 dX16_listed_21 rfl hl (by decide) rfl (fun ls hl => ?_)
  obtain ⟨q5, h⟩ := h
  refine lv_iinc (k := 3) (v := i32 (v3 + 1)) (lv' := [(3, .int (i32 (v3 + 1))), (2, .int (i32 (v2 + (gI σ (ra 89) ((3 * v3) + v1).toNat)))), (0, .ref rm), (1, .int (i32 v1))]) B.1 B.2.1 dX16_listed_22 hl rfl (i32_add _ _) (by decide) rfl (fun ls hl => ?_)
  refine lv_goto (tgt := 4) B.1 B.2.1 dX16_listed_25 (by decide) ?_
  exact hK4 _ _ _ _ g1 q4 q5 h hGσ hS _ _ _ hH (lv_sub (l' := [(0, .ref rm), (1, .int (i32 v1)), (2, .int (i32 (v2 + (gI σ (ra 89) ((3 * v3) + v1).toNat)))), (3, .int (i32 (v3 + 1)))]) hl [2, 3, 1, 0] rfl) hc
set_option maxRecDepth 20000 in
theorem a_X16_listed_4 {Q : Sg → Int → Prop} {X : Sg → String → Prop} (K : MC R p s m args c cX16_listed 4 RX16 D cA tys A n0 s0 0 0 []) (hQ : HQI p l e R s m args below meth c cX16_listed D cA A n0 s0 QM dm ra jx rm Q) (hX : HX p l e R s m args below meth c 4 D cA A n0 s0 QM dm ra jx rm X) {K4 : Sg → Int → Int → Int → Prop} (hK4 : ∀ (σ : Sg) (v1 : Int) (v2 : Int) (v3 : Int) (g1 : rng v1) (g2 : rng v2) (g3 : rng v3), K4 σ v1 v2 v3 → RG σ → Shp dm ra jx rm σ → JJ p l e R s m args below meth c 4 D cA A n0 s0 QM σ 4 [(0, .ref rm), (1, .int (i32 v1)), (2, .int (i32 v2)), (3, .int (i32 v3))] []) : ∀ (σ : Sg) (v1 : Int) (v2 : Int) (v3 : Int) (g1 : rng v1) (g2 : rng v2) (g3 : rng v3), w_X16_listed_4 ra jx rm K4 Q X σ v1 v2 v3 → RG σ → Shp dm ra jx rm σ → JJ p l e R s m args below meth c 4 D cA A n0 s0 QM σ 4 [(0, .ref rm), (1, .int (i32 v1)), (2, .int (i32 v2)), (3, .int (i32 v3))] [] := by
  intro σ v1 v2 v3 g1 g2 g3 h hGσ hS H locs ls hH hl hc
  have B := K.1
  unfold w_X16_listed_4 at h
  refine lv_iload_n B.1 B.2.1 dX16_listed_4 rfl (lv_at hl 3 rfl) ?_
  refine lv_iconst (v := i32 4) B.1 B.2.1 dX16_listed_5 (by decide) ?_
  refine lv_icmp_ge (tgt := 28) B.1 B.2.1 dX16_listed_6 (by decide) (fun h9 => ?_) (fun h9 => ?_)
  · rw [if_pos ((i32_le (by unfold rng; omega) g3).mp h9)] at h
    exact a_X16_listed_28 K hQ hX _ _ g2 h hGσ hS _ _ _ hH (lv_sub (l' := [(0, .ref rm), (2, .int (i32 v2))]) hl [0, 2] rfl) hc
  · rw [if_neg (fun q => h9 ((i32_le (by unfold rng; omega) g3).mpr q))] at h
    exact a_X16_listed_9 K hQ hX hK4 _ _ _ _ g1 g2 g3 h hGσ hS _ _ _ hH (lv_sub (l' := [(0, .ref rm), (1, .int (i32 v1)), (2, .int (i32 v2)), (3, .int (i32 v3))]) hl [0, 1, 2, 3] rfl) hc
theorem al_X16_listed_4 {Q : Sg → Int → Prop} {X : Sg → String → Prop} (K : MC R p s m args c cX16_listed 4 RX16 D cA tys A n0 s0 0 0 []) (hQ : HQI p l e R s m args below meth c cX16_listed D cA A n0 s0 QM dm ra jx rm Q) (hX : HX p l e R s m args below meth c 4 D cA A n0 s0 QM dm ra jx rm X) : ∀ (n : Nat), ∀ (σ : Sg) (v1 : Int) (v2 : Int) (v3 : Int) (g1 : rng v1) (g2 : rng v2) (g3 : rng v3), wl_X16_listed_4 ra jx rm Q X n σ v1 v2 v3 → RG σ → Shp dm ra jx rm σ → JJ p l e R s m args below meth c 4 D cA A n0 s0 QM σ 4 [(0, .ref rm), (1, .int (i32 v1)), (2, .int (i32 v2)), (3, .int (i32 v3))] [] := by
  intro n
  induction n with
  | zero => intro σ v1 v2 v3 g1 g2 g3 h; exact h.elim
  | succ n ih => exact fun σ v1 v2 v3 g1 g2 g3 h => a_X16_listed_4 K hQ hX ih σ v1 v2 v3 g1 g2 g3 h
set_option maxRecDepth 20000 in
theorem a_X16_listed_0 {Q : Sg → Int → Prop} {X : Sg → String → Prop} (K : MC R p s m args c cX16_listed 4 RX16 D cA tys A n0 s0 0 0 []) (hQ : HQI p l e R s m args below meth c cX16_listed D cA A n0 s0 QM dm ra jx rm Q) (hX : HX p l e R s m args below meth c 4 D cA A n0 s0 QM dm ra jx rm X) : ∀ (σ : Sg) (v1 : Int) (g1 : rng v1), w_X16_listed_0 ra jx rm Q X σ v1 → RG σ → Shp dm ra jx rm σ → JJ p l e R s m args below meth c 4 D cA A n0 s0 QM σ 0 [(0, .ref rm), (1, .int (i32 v1))] [] := by
  intro σ v1 g1 h hGσ hS H locs ls hH hl hc
  have B := K.1
  unfold w_X16_listed_0 at h
  refine lv_iconst (v := i32 0) B.1 B.2.1 dX16_listed_0 (by decide) ?_
  refine lv_istore_n (lv' := [(2, .int (i32 0)), (0, .ref rm), (1, .int (i32 v1))]) B.1 B.2.1 dX16_listed_1 rfl hl (by decide) rfl (fun ls hl => ?_)
  refine lv_iconst (v := i32 0) B.1 B.2.1 dX16_listed_2 (by decide) ?_
  refine lv_istore_n (lv' := [(3, .int (i32 0)), (2, .int (i32 0)), (0, .ref rm), (1, .int (i32 v1))]) B.1 B.2.1 dX16_listed_3 rfl hl (by decide) rfl (fun ls hl => ?_)
  obtain ⟨n9, h⟩ := h
  exact al_X16_listed_4 K hQ hX n9 _ _ _ _ g1 (by unfold rng; omega) (by unfold rng; omega) h hGσ hS _ _ _ hH (lv_sub (l' := [(0, .ref rm), (1, .int (i32 v1)), (2, .int (i32 0)), (3, .int (i32 0))]) hl [2, 3, 1, 0] rfl) hc
theorem ok_X16_listed (hT : Tys cA tys) {Q : Sg → Int → Prop} {X : Sg → String → Prop} (σ : Sg) (v1 : Int) (g1 : rng v1) (hG : RG σ) (hS : Shp dm ra jx rm σ) (h : wp_X16_listed ra jx rm v1 σ Q X) : Ok l D cA tys A yX16_listed (.code yX16_listed cX16_listed 4 (some .int)) 0 0 [.ref rm, .int (i32 v1)] σ (QnI dm ra jx rm Q) (QxR dm ra jx rm X) := by
  unfold wp_X16_listed at h
  exact ok_I (plainFor_of_name (by decide)) (by exact Nat.le_of_ble_eq_true rfl) hT (fun p e R s m args below meth c K hQ hX H locs ls hH hl hc => a_X16_listed_0 K hQ hX σ v1 g1 h hG hS H locs ls hH (lv_sub (l' := [(0, .ref rm), (1, .int (i32 v1))]) hl [0, 1] rfl) hc)
theorem dX16_mark_0 : decode cX16_mark 0 = .ok (.aload_n 0, 1) := by decide +kernel
theorem dX16_mark_1 : decode cX16_mark 1 = .ok (.aload_n 0, 1) := by decide +kernel
theorem dX16_mark_2 : decode cX16_mark 2 = .ok (.getfield 852, 3) := by decide +kernel
theorem dX16_mark_5 : decode cX16_mark 5 = .ok (.ifCond .eq 24, 3) := by decide +kernel
theorem dX16_mark_8 : decode cX16_mark 8 = .ok (.aload_n 0, 1) := by decide +kernel
theorem dX16_mark_9 : decode cX16_mark 9 = .ok (.getfield 688, 3) := by decide +kernel
theorem dX16_mark_12 : decode cX16_mark 12 = .ok (.ifCond .ne 17, 3) := by decide +kernel
theorem dX16_mark_15 : decode cX16_mark 15 = .ok (.aload_n 0, 1) := by decide +kernel
theorem dX16_mark_16 : decode cX16_mark 16 = .ok (.getfield 831, 3) := by decide +kernel
theorem dX16_mark_19 : decode cX16_mark 19 = .ok (.ifCond .ne 10, 3) := by decide +kernel
theorem dX16_mark_22 : decode cX16_mark 22 = .ok (.aload_n 0, 1) := by decide +kernel
theorem dX16_mark_23 : decode cX16_mark 23 = .ok (.getfield 742, 3) := by decide +kernel
theorem dX16_mark_26 : decode cX16_mark 26 = .ok (.ifCond .le 7, 3) := by decide +kernel
theorem dX16_mark_29 : decode cX16_mark 29 = .ok (.iconst 1, 1) := by decide +kernel
theorem dX16_mark_30 : decode cX16_mark 30 = .ok (.goto 4, 3) := by decide +kernel
theorem dX16_mark_33 : decode cX16_mark 33 = .ok (.iconst 0, 1) := by decide +kernel
theorem dX16_mark_34 : decode cX16_mark 34 = .ok (.putfield 1, 3) := by decide +kernel
theorem dX16_mark_37 : decode cX16_mark 37 = .ok (.aload_n 0, 1) := by decide +kernel
theorem dX16_mark_38 : decode cX16_mark 38 = .ok (.getfield 1, 3) := by decide +kernel
theorem dX16_mark_41 : decode cX16_mark 41 = .ok (.ifCond .le 5, 3) := by decide +kernel
theorem dX16_mark_44 : decode cX16_mark 44 = .ok (.iconst 0, 1) := by decide +kernel
theorem dX16_mark_45 : decode cX16_mark 45 = .ok (.ireturn, 1) := by decide +kernel
theorem dX16_mark_46 : decode cX16_mark 46 = .ok (.aload_n 0, 1) := by decide +kernel
theorem dX16_mark_47 : decode cX16_mark 47 = .ok (.dup, 1) := by decide +kernel
theorem dX16_mark_48 : decode cX16_mark 48 = .ok (.getfield 855, 3) := by decide +kernel
theorem dX16_mark_51 : decode cX16_mark 51 = .ok (.iconst 1, 1) := by decide +kernel
theorem dX16_mark_52 : decode cX16_mark 52 = .ok (.iadd, 1) := by decide +kernel
theorem dX16_mark_53 : decode cX16_mark 53 = .ok (.putfield 855, 3) := by decide +kernel
theorem dX16_mark_56 : decode cX16_mark 56 = .ok (.aload_n 0, 1) := by decide +kernel
theorem dX16_mark_57 : decode cX16_mark 57 = .ok (.aload_n 0, 1) := by decide +kernel
theorem dX16_mark_58 : decode cX16_mark 58 = .ok (.getfield 855, 3) := by decide +kernel
theorem dX16_mark_61 : decode cX16_mark 61 = .ok (.putfield 742, 3) := by decide +kernel
theorem dX16_mark_64 : decode cX16_mark 64 = .ok (.aload_n 0, 1) := by decide +kernel
theorem dX16_mark_65 : decode cX16_mark 65 = .ok (.getfield 703, 3) := by decide +kernel
theorem dX16_mark_68 : decode cX16_mark 68 = .ok (.iconst 1, 1) := by decide +kernel
theorem dX16_mark_69 : decode cX16_mark 69 = .ok (.iconst 0, 1) := by decide +kernel
theorem dX16_mark_70 : decode cX16_mark 70 = .ok (.iastore, 1) := by decide +kernel
theorem dX16_mark_71 : decode cX16_mark 71 = .ok (.aload_n 0, 1) := by decide +kernel
theorem dX16_mark_72 : decode cX16_mark 72 = .ok (.getfield 748, 3) := by decide +kernel
theorem dX16_mark_75 : decode cX16_mark 75 = .ok (.iconst 1, 1) := by decide +kernel
theorem dX16_mark_76 : decode cX16_mark 76 = .ok (.aload_n 0, 1) := by decide +kernel
theorem dX16_mark_77 : decode cX16_mark 77 = .ok (.getfield 365, 3) := by decide +kernel
theorem dX16_mark_80 : decode cX16_mark 80 = .ok (.iastore, 1) := by decide +kernel
theorem dX16_mark_81 : decode cX16_mark 81 = .ok (.aload_n 0, 1) := by decide +kernel
theorem dX16_mark_82 : decode cX16_mark 82 = .ok (.getfield 742, 3) := by decide +kernel
theorem dX16_mark_85 : decode cX16_mark 85 = .ok (.ireturn, 1) := by decide +kernel
set_option maxRecDepth 20000 in
theorem a_X16_mark_46 {Q : Sg → Int → Prop} {X : Sg → String → Prop} (K : MC R p s m args c cX16_mark 1 RX16 D cA tys A n0 s0 0 0 []) (hQ : HQI p l e R s m args below meth c cX16_mark D cA A n0 s0 QM dm ra jx rm Q) (hX : HX p l e R s m args below meth c 1 D cA A n0 s0 QM dm ra jx rm X) : ∀ (σ : Sg), w_X16_mark_46 ra jx rm Q X σ → RG σ → Shp dm ra jx rm σ → JJ p l e R s m args below meth c 1 D cA A n0 s0 QM σ 46 [(0, .ref rm)] [] := by
  intro σ h hGσ hS H locs ls hH hl hc
  have B := K.1
  unfold w_X16_mark_46 at h
  refine lv_aload_n B.1 B.2.1 dX16_mark_46 rfl (lv_at hl 0 rfl) ?_
  refine lv_dup B.1 B.2.1 dX16_mark_47 rfl ?_
  refine r_geti B hH hS 94 (by decide) wf_X16_855 rfl rfl dX16_mark_48 ?_
  refine lv_iconst (v := i32 1) B.1 B.2.1 dX16_mark_51 (by decide) ?_
  refine lv_iadd B.1 B.2.1 dX16_mark_52 ?_
  rw [i32_add]
  refine W.eq (g2 := F0 m 53 ls [.int (i32 (wr (gI σ rm 94 + 1))), .ref rm]) (by rw [i32_wr]) ?_
  obtain ⟨σ11, eσ11⟩ : ∃ z, z = pI σ rm 94 (wr (gI σ rm 94 + 1)) := ⟨_, rfl⟩
  have h := h σ11 eσ11
  refine r_puti B hH hS 94 (ty := .int) (by decide) wf_X16_855 rfl rfl rfl rfl rfl rfl dX16_mark_53 (fun H locs hH => ?_)
  have hH : Hd D cA A s (pI σ rm 94 (wr (gI σ rm 94 + 1))) H locs := hH
  rw [← eσ11] at hH
  have hGσ11 : RG σ11 := by rw [eσ11]; exact hGσ.pI (rng_wr _)
  have hS : Shp dm ra jx rm σ11 := by rw [eσ11]; exact hS
  have hc : CB n0 s0 σ11 := by rw [eσ11]; exact hc
  rw [show gc σ = gc σ11 by rw [eσ11], show gs σ = gs σ11 by rw [eσ11]]
  refine lv_aload_n B.1 B.2.1 dX16_mark_56 rfl (lv_at hl 0 rfl) ?_
  refine lv_aload_n B.1 B.2.1 dX16_mark_57 rfl (lv_at hl 0 rfl) ?_
  refine r_geti B hH hS 94 (by decide) wf_X16_855 rfl rfl dX16_mark_58 ?_
  obtain ⟨σ12, eσ12⟩ : ∃ z, z = pI σ11 rm 93 (gI σ11 rm 94) := ⟨_, rfl⟩
  have h := h σ12 eσ12
  refine r_puti B hH hS 93 (ty := .int) (by decide) wf_X16_742 rfl rfl rfl rfl rfl rfl dX16_mark_61 (fun H locs hH => ?_)
  have hH : Hd D cA A s (pI σ11 rm 93 (gI σ11 rm 94)) H locs := hH
  rw [← eσ12] at hH
  have hGσ12 : RG σ12 := by rw [eσ12]; exact hGσ11.pI (hGσ11 _ _)
  have hS : Shp dm ra jx rm σ12 := by rw [eσ12]; exact hS
  have hc : CB n0 s0 σ12 := by rw [eσ12]; exact hc
  rw [show gc σ11 = gc σ12 by rw [eσ12], show gs σ11 = gs σ12 by rw [eσ12]]
  refine lv_aload_n B.1 B.2.1 dX16_mark_64 rfl (lv_at hl 0 rfl) ?_
  refine r_arr B hH hS 98 (kd := 100) (n := 2) (by decide) (by decide) wf_X16_703 rfl rfl dX16_mark_65 ?_
  refine lv_iconst (v := i32 1) B.1 B.2.1 dX16_mark_68 (by decide) ?_
  refine lv_iconst (v := i32 0) B.1 B.2.1 dX16_mark_69 (by decide) ?_
  obtain ⟨σ13, eσ13⟩ : ∃ z, z = pI σ12 (ra 98) 1 0 := ⟨_, rfl⟩
  have h := h σ13 eσ13
  refine x_iast B K.2.1 hH (hS.ar (k := 98) (kd := 100) (n := 2) (by decide)) (by decide) (by decide) dX16_mark_70 (fun H locs hH => ?_)
  have hH : Hd D cA A s (pI σ12 (ra 98) 1 0) H locs := hH
  rw [← eσ13] at hH
  have hGσ13 : RG σ13 := by rw [eσ13]; exact hGσ12.pI (by unfold rng; omega)
  have hS : Shp dm ra jx rm σ13 := by rw [eσ13]; exact hS
  have hc : CB n0 s0 σ13 := by rw [eσ13]; exact hc
  rw [show gc σ12 = gc σ13 by rw [eσ13], show gs σ12 = gs σ13 by rw [eσ13]]
  refine lv_aload_n B.1 B.2.1 dX16_mark_71 rfl (lv_at hl 0 rfl) ?_
  refine r_arr B hH hS 97 (kd := 100) (n := 2) (by decide) (by decide) wf_X16_748 rfl rfl dX16_mark_72 ?_
  refine lv_iconst (v := i32 1) B.1 B.2.1 dX16_mark_75 (by decide) ?_
  refine lv_aload_n B.1 B.2.1 dX16_mark_76 rfl (lv_at hl 0 rfl) ?_
  refine r_geti B hH hS 33 (by decide) wf_X16_365 rfl rfl dX16_mark_77 ?_
  obtain ⟨σ14, eσ14⟩ : ∃ z, z = pI σ13 (ra 97) 1 (gI σ13 rm 33) := ⟨_, rfl⟩
  have h := h σ14 eσ14
  refine x_iast B K.2.1 hH (hS.ar (k := 97) (kd := 100) (n := 2) (by decide)) (by decide) (by decide) dX16_mark_80 (fun H locs hH => ?_)
  have hH : Hd D cA A s (pI σ13 (ra 97) 1 (gI σ13 rm 33)) H locs := hH
  rw [← eσ14] at hH
  have hGσ14 : RG σ14 := by rw [eσ14]; exact hGσ13.pI (hGσ13 _ _)
  have hS : Shp dm ra jx rm σ14 := by rw [eσ14]; exact hS
  have hc : CB n0 s0 σ14 := by rw [eσ14]; exact hc
  rw [show gc σ13 = gc σ14 by rw [eσ14], show gs σ13 = gs σ14 by rw [eσ14]]
  refine lv_aload_n B.1 B.2.1 dX16_mark_81 rfl (lv_at hl 0 rfl) ?_
  refine r_geti B hH hS 93 (by decide) wf_X16_742 rfl rfl dX16_mark_82 ?_
  exact hQ _ _ _ _ _ _ (hGσ14 _ _) dX16_mark_85 hH hc h hGσ14 hS
set_option maxRecDepth 20000 in
theorem a_X16_mark_44 {Q : Sg → Int → Prop} {X : Sg → String → Prop} (K : MC R p s m args c cX16_mark 1 RX16 D cA tys A n0 s0 0 0 []) (hQ : HQI p l e R s m args below meth c cX16_mark D cA A n0 s0 QM dm ra jx rm Q) (hX : HX p l e R s m args below meth c 1 D cA A n0 s0 QM dm ra jx rm X) : ∀ (σ : Sg), w_X16_mark_44 ra jx rm Q X σ → RG σ → Shp dm ra jx rm σ → JJ p l e R s m args below meth c 1 D cA A n0 s0 QM σ 44 [(0, .ref rm)] [] := by
  intro σ h hGσ hS H locs ls hH hl hc
  have B := K.1
  unfold w_X16_mark_44 at h
  refine lv_iconst (v := i32 0) B.1 B.2.1 dX16_mark_44 (by decide) ?_
  exact hQ _ _ _ _ _ _ (by unfold rng; omega) dX16_mark_45 hH hc h hGσ hS
set_option maxRecDepth 20000 in
theorem a_X16_mark_34 {Q : Sg → Int → Prop} {X : Sg → String → Prop} (K : MC R p s m args c cX16_mark 1 RX16 D cA tys A n0 s0 0 0 []) (hQ : HQI p l e R s m args below meth c cX16_mark D cA A n0 s0 QM dm ra jx rm Q) (hX : HX p l e R s m args below meth c 1 D cA A n0 s0 QM dm ra jx rm X) : ∀ (σ : Sg) (u0 : Int) (gu0 : rng u0), w_X16_mark_34 ra jx rm Q X σ u0 → RG σ → Shp dm ra jx rm σ → JJ p l e R s m args below meth c 1 D cA A n0 s0 QM σ 34 [(0, .ref rm)] [.int (i32 u0), .ref rm] := by
  intro σ u0 gu0 h hGσ hS H locs ls hH hl hc
  have B := K.1
  unfold w_X16_mark_34 at h
  obtain ⟨σ15, eσ15⟩ : ∃ z, z = pI σ rm 0 u0 := ⟨_, rfl⟩
  have h := h σ15 eσ15
  refine r_puti B hH hS 0 (ty := .int) (by decide) wf_X16_1 rfl rfl rfl rfl rfl rfl dX16_mark_34 (fun H locs hH => ?_)
  have hH : Hd D cA A s (pI σ rm 0 u0) H locs := hH
  rw [← eσ15] at hH
  have hGσ15 : RG σ15 := by rw [eσ15]; exact hGσ.pI gu0
  have hS : Shp dm ra jx rm σ15 := by rw [eσ15]; exact hS
  have hc : CB n0 s0 σ15 := by rw [eσ15]; exact hc
  rw [show gc σ = gc σ15 by rw [eσ15], show gs σ = gs σ15 by rw [eσ15]]
  refine lv_aload_n B.1 B.2.1 dX16_mark_37 rfl (lv_at hl 0 rfl) ?_
  refine r_geti B hH hS 0 (by decide) wf_X16_1 rfl rfl dX16_mark_38 ?_
  refine lv_if_le (tgt := 46) B.1 B.2.1 dX16_mark_41 (by decide) (fun h9 => ?_) (fun h9 => ?_)
  · rw [if_pos ((z_le (hGσ15 _ _)).mp h9)] at h
    exact a_X16_mark_46 K hQ hX _ h hGσ15 hS _ _ _ hH (lv_sub (l' := [(0, .ref rm)]) hl [0] rfl) hc
  · rw [if_neg (fun q => h9 ((z_le (hGσ15 _ _)).mpr q))] at h
    exact a_X16_mark_44 K hQ hX _ h hGσ15 hS _ _ _ hH (lv_sub (l' := [(0, .ref rm)]) hl [0] rfl) hc
set_option maxRecDepth 20000 in
theorem a_X16_mark_29 {Q : Sg → Int → Prop} {X : Sg → String → Prop} (K : MC R p s m args c cX16_mark 1 RX16 D cA tys A n0 s0 0 0 []) (hQ : HQI p l e R s m args below meth c cX16_mark D cA A n0 s0 QM dm ra jx rm Q) (hX : HX p l e R s m args below meth c 1 D cA A n0 s0 QM dm ra jx rm X) : ∀ (σ : Sg), w_X16_mark_29 ra jx rm Q X σ → RG σ → Shp dm ra jx rm σ → JJ p l e R s m args below meth c 1 D cA A n0 s0 QM σ 29 [(0, .ref rm)] [.ref rm] := by
  intro σ h hGσ hS H locs ls hH hl hc
  have B := K.1
  unfold w_X16_mark_29 at h
  refine lv_iconst (v := i32 1) B.1 B.2.1 dX16_mark_29 (by decide) ?_
  refine lv_goto (tgt := 34) B.1 B.2.1 dX16_mark_30 (by decide) ?_
  exact a_X16_mark_34 K hQ hX _ _ (by unfold rng; omega) h hGσ hS _ _ _ hH (lv_sub (l' := [(0, .ref rm)]) hl [0] rfl) hc
set_option maxRecDepth 20000 in
theorem a_X16_mark_33 {Q : Sg → Int → Prop} {X : Sg → String → Prop} (K : MC R p s m args c cX16_mark 1 RX16 D cA tys A n0 s0 0 0 []) (hQ : HQI p l e R s m args below meth c cX16_mark D cA A n0 s0 QM dm ra jx rm Q) (hX : HX p l e R s m args below meth c 1 D cA A n0 s0 QM dm ra jx rm X) : ∀ (σ : Sg), w_X16_mark_33 ra jx rm Q X σ → RG σ → Shp dm ra jx rm σ → JJ p l e R s m args below meth c 1 D cA A n0 s0 QM σ 33 [(0, .ref rm)] [.ref rm] := by
  intro σ h hGσ hS H locs ls hH hl hc
  have B := K.1
  unfold w_X16_mark_33 at h
  refine lv_iconst (v := i32 0) B.1 B.2.1 dX16_mark_33 (by decide) ?_
  exact a_X16_mark_34 K hQ hX _ _ (by unfold rng; omega) h hGσ hS _ _ _ hH (lv_sub (l' := [(0, .ref rm)]) hl [0] rfl) hc
set_option maxRecDepth 20000 in
theorem a_X16_mark_22 {Q : Sg → Int → Prop} {X : Sg → String → Prop} (K : MC R p s m args c cX16_mark 1 RX16 D cA tys A n0 s0 0 0 []) (hQ : HQI p l e R s m args below meth c cX16_mark D cA A n0 s0 QM dm ra jx rm Q) (hX : HX p l e R s m args below meth c 1 D cA A n0 s0 QM dm ra jx rm X) : ∀ (σ : Sg), w_X16_mark_22 ra jx rm Q X σ → RG σ → Shp dm ra jx rm σ → JJ p l e R s m args below meth c 1 D cA A n0 s0 QM σ 22 [(0, .ref rm)] [.ref rm] := by
  intro σ h hGσ hS H locs ls hH hl hc
  have B := K.1
  unfold w_X16_mark_22 at h
  refine lv_aload_n B.1 B.2.1 dX16_mark_22 rfl (lv_at hl 0 rfl) ?_
  refine r_geti B hH hS 93 (by decide) wf_X16_742 rfl rfl dX16_mark_23 ?_
  refine lv_if_le (tgt := 33) B.1 B.2.1 dX16_mark_26 (by decide) (fun h9 => ?_) (fun h9 => ?_)
  · rw [if_pos ((z_le (hGσ _ _)).mp h9)] at h
    exact a_X16_mark_33 K hQ hX _ h hGσ hS _ _ _ hH (lv_sub (l' := [(0, .ref rm)]) hl [0] rfl) hc
  · rw [if_neg (fun q => h9 ((z_le (hGσ _ _)).mpr q))] at h
    exact a_X16_mark_29 K hQ hX _ h hGσ hS _ _ _ hH (lv_sub (l' := [(0, .ref rm)]) hl [0] rfl) hc
set_option maxRecDepth 20000 in
theorem a_X16_mark_15 {Q : Sg → Int → Prop} {X : Sg → String → Prop} (K : MC R p s m args c cX16_mark 1 RX16 D cA tys A n0 s0 0 0 []) (hQ : HQI p l e R s m args below meth c cX16_mark D cA A n0 s0 QM dm ra jx rm Q) (hX : HX p l e R s m args below meth c 1 D cA A n0 s0 QM dm ra jx rm X) : ∀ (σ : Sg), w_X16_mark_15 ra jx rm Q X σ → RG σ → Shp dm ra jx rm σ → JJ p l e R s m args below meth c 1 D cA A n0 s0 QM σ 15 [(0, .ref rm)] [.ref rm] := by
  intro σ h hGσ hS H locs ls hH hl hc
  have B := K.1
  unfold w_X16_mark_15 at h
  refine lv_aload_n B.1 B.2.1 dX16_mark_15 rfl (lv_at hl 0 rfl) ?_
  refine r_geti B hH hS 31 (by decide) wf_X16_831 rfl rfl dX16_mark_16 ?_
  refine lv_if_ne (tgt := 29) B.1 B.2.1 dX16_mark_19 (by decide) (fun h9 => ?_) (fun h9 => ?_)
  · rw [if_pos (fun q => h9 ((z_eq (hGσ _ _)).mpr q))] at h
    exact a_X16_mark_29 K hQ hX _ h hGσ hS _ _ _ hH (lv_sub (l' := [(0, .ref rm)]) hl [0] rfl) hc
  · rw [if_neg (fun q => q ((z_eq (hGσ _ _)).mp h9))] at h
    exact a_X16_mark_22 K hQ hX _ h hGσ hS _ _ _ hH (lv_sub (l' := [(0, .ref rm)]) hl [0] rfl) hc
set_option maxRecDepth 20000 in
theorem a_X16_mark_8 {Q : Sg → Int → Prop} {X : Sg → String → Prop} (K : MC R p s m args c cX16_mark 1 RX16 D cA tys A n0 s0 0 0 []) (hQ : HQI p l e R s m args below meth c cX16_mark D cA A n0 s0 QM dm ra jx rm Q) (hX : HX p l e R s m args below meth c 1 D cA A n0 s0 QM dm ra jx rm X) : ∀ (σ : Sg), w_X16_mark_8 ra jx rm Q X σ → RG σ → Shp dm ra jx rm σ → JJ p l e R s m args below meth c 1 D cA A n0 s0 QM σ 8 [(0, .ref rm)] [.ref rm] := by
  intro σ h hGσ hS H locs ls hH hl hc
  have B := K.1
  unfold w_X16_mark_8 at h
  refine lv_aload_n B.1 B.2.1 dX16_mark_8 rfl (lv_at hl 0 rfl) ?_
  refine r_geti B hH hS 32 (by decide) wf_X16_688 rfl rfl dX16_mark_9 ?_
  refine lv_if_ne (tgt := 29) B.1 B.2.1 dX16_mark_12 (by decide) (fun h9 => ?_) (fun h9 => ?_)
  · rw [if_pos (fun q => h9 ((z_eq (hGσ _ _)).mpr q))] at h
    exact a_X16_mark_29 K hQ hX _ h hGσ hS _ _ _ hH (lv_sub (l' := [(0, .ref rm)]) hl [0] rfl) hc
  · rw [if_neg (fun q => q ((z_eq (hGσ _ _)).mp h9))] at h
    exact a_X16_mark_15 K hQ hX _ h hGσ hS _ _ _ hH (lv_sub (l' := [(0, .ref rm)]) hl [0] rfl) hc
set_option maxRecDepth 20000 in
theorem a_X16_mark_0 {Q : Sg → Int → Prop} {X : Sg → String → Prop} (K : MC R p s m args c cX16_mark 1 RX16 D cA tys A n0 s0 0 0 []) (hQ : HQI p l e R s m args below meth c cX16_mark D cA A n0 s0 QM dm ra jx rm Q) (hX : HX p l e R s m args below meth c 1 D cA A n0 s0 QM dm ra jx rm X) : ∀ (σ : Sg), w_X16_mark_0 ra jx rm Q X σ → RG σ → Shp dm ra jx rm σ → JJ p l e R s m args below meth c 1 D cA A n0 s0 QM σ 0 [(0, .ref rm)] [] := by
  intro σ h hGσ hS H locs ls hH hl hc
  have B := K.1
  unfold w_X16_mark_0 at h
  refine lv_aload_n B.1 B.2.1 dX16_mark_0 rfl (lv_at hl 0 rfl) ?_
  refine lv_aload_n B.1 B.2.1 dX16_mark_1 rfl (lv_at hl 0 rfl) ?_
  refine r_geti B hH hS 30 (by decide) wf_X16_852 rfl rfl dX16_mark_2 ?_
  refine lv_if_eq (tgt := 29) B.1 B.2.1 dX16_mark_5 (by decide) (fun h9 => ?_) (fun h9 => ?_)
  · rw [if_pos ((z_eq (hGσ _ _)).mp h9)] at h
    exact a_X16_mark_29 K hQ hX _ h hGσ hS _ _ _ hH (lv_sub (l' := [(0, .ref rm)]) hl [0] rfl) hc
  · rw [if_neg (fun q => h9 ((z_eq (hGσ _ _)).mpr q))] at h
    exact a_X16_mark_8 K hQ hX _ h hGσ hS _ _ _ hH (lv_sub (l' := [(0, .ref rm)]) hl [0] rfl) hc
theorem ok_X16_mark (hT : Tys cA tys) {Q : Sg → Int → Prop} {X : Sg → String → Prop} (σ : Sg) (hG : RG σ) (hS : Shp dm ra jx rm σ) (h : wp_X16_mark ra jx rm σ Q X) : Ok l D cA tys A yX16_mark (.code yX16_mark cX16_mark 1 (some .int)) 0 0 [.ref rm] σ (QnI dm ra jx rm Q) (QxR dm ra jx rm X) := by
  unfold wp_X16_mark at h
  exact ok_I (plainFor_of_name (by decide)) (by exact Nat.le_of_ble_eq_true rfl) hT (fun p e R s m args below meth c K hQ hX H locs ls hH hl hc => a_X16_mark_0 K hQ hX σ h hG hS H locs ls hH (lv_sub (l' := [(0, .ref rm)]) hl [0] rfl) hc)
theorem dX16_onePass_0 : decode cX16_onePass 0 = .ok (.aload_n 0, 1) := by decide +kernel
theorem dX16_onePass_1 : decode cX16_onePass 1 = .ok (.aload_n 0, 1) := by decide +kernel
theorem dX16_onePass_2 : decode cX16_onePass 2 = .ok (.getfield 356, 3) := by decide +kernel
theorem dX16_onePass_5 : decode cX16_onePass 5 = .ok (.ifnonnull 7, 3) := by decide +kernel
theorem dX16_onePass_8 : decode cX16_onePass 8 = .ok (.iconst 1, 1) := by decide +kernel
theorem dX16_onePass_9 : decode cX16_onePass 9 = .ok (.goto 4, 3) := by decide +kernel
theorem dX16_onePass_12 : decode cX16_onePass 12 = .ok (.iconst 0, 1) := by decide +kernel
theorem dX16_onePass_13 : decode cX16_onePass 13 = .ok (.putfield 1, 3) := by decide +kernel
theorem dX16_onePass_16 : decode cX16_onePass 16 = .ok (.aload_n 0, 1) := by decide +kernel
theorem dX16_onePass_17 : decode cX16_onePass 17 = .ok (.getfield 1, 3) := by decide +kernel
theorem dX16_onePass_20 : decode cX16_onePass 20 = .ok (.ifCond .ne 14, 3) := by decide +kernel
theorem dX16_onePass_23 : decode cX16_onePass 23 = .ok (.aload_n 0, 1) := by decide +kernel
theorem dX16_onePass_24 : decode cX16_onePass 24 = .ok (.invokevirtual 1003, 3) := by decide +kernel
theorem dX16_onePass_27 : decode cX16_onePass 27 = .ok (.ifCond .eq 7, 3) := by decide +kernel
theorem dX16_onePass_30 : decode cX16_onePass 30 = .ok (.iconst 1, 1) := by decide +kernel
theorem dX16_onePass_31 : decode cX16_onePass 31 = .ok (.goto 4, 3) := by decide +kernel
theorem dX16_onePass_34 : decode cX16_onePass 34 = .ok (.iconst 0, 1) := by decide +kernel
theorem dX16_onePass_35 : decode cX16_onePass 35 = .ok (.ireturn, 1) := by decide +kernel
set_option maxRecDepth 20000 in
theorem a_X16_onePass_35 {Q : Sg → Int → Prop} {X : Sg → String → Prop} (K : MC R p s m args c cX16_onePass 1 RX16 D cA tys A n0 s0 6 159 []) (hQ : HQZ p l e R s m args below meth c cX16_onePass D cA A n0 s0 QM dm ra jx rm Q) (hX : HX p l e R s m args below meth c 1 D cA A n0 s0 QM dm ra jx rm X) : ∀ (σ : Sg) (u0 : Int) (gu0 : rng u0), w_X16_onePass_35 ra jx rm Q X σ u0 → RG σ → Shp dm ra jx rm σ → JJ p l e R s m args below meth c 1 D cA A n0 s0 QM σ 35 [(0, .ref rm)] [.int (i32 u0)] := by
  intro σ u0 gu0 h hGσ hS H locs ls hH hl hc
  have B := K.1
  unfold w_X16_onePass_35 at h
  obtain ⟨qz, h⟩ := h
  exact hQ _ _ _ _ _ _ gu0 qz dX16_onePass_35 hH hc h hGσ hS
set_option maxRecDepth 20000 in
theorem a_X16_onePass_34 {Q : Sg → Int → Prop} {X : Sg → String → Prop} (K : MC R p s m args c cX16_onePass 1 RX16 D cA tys A n0 s0 6 159 []) (hQ : HQZ p l e R s m args below meth c cX16_onePass D cA A n0 s0 QM dm ra jx rm Q) (hX : HX p l e R s m args below meth c 1 D cA A n0 s0 QM dm ra jx rm X) : ∀ (σ : Sg), w_X16_onePass_34 ra jx rm Q X σ → RG σ → Shp dm ra jx rm σ → JJ p l e R s m args below meth c 1 D cA A n0 s0 QM σ 34 [(0, .ref rm)] [] := by
  intro σ h hGσ hS H locs ls hH hl hc
  have B := K.1
  unfold w_X16_onePass_34 at h
  refine lv_iconst (v := i32 0) B.1 B.2.1 dX16_onePass_34 (by decide) ?_
  exact a_X16_onePass_35 K hQ hX _ _ (by unfold rng; omega) h hGσ hS _ _ _ hH (lv_sub (l' := [(0, .ref rm)]) hl [0] rfl) hc
set_option maxRecDepth 20000 in
theorem a_X16_onePass_30 {Q : Sg → Int → Prop} {X : Sg → String → Prop} (K : MC R p s m args c cX16_onePass 1 RX16 D cA tys A n0 s0 6 159 []) (hQ : HQZ p l e R s m args below meth c cX16_onePass D cA A n0 s0 QM dm ra jx rm Q) (hX : HX p l e R s m args below meth c 1 D cA A n0 s0 QM dm ra jx rm X) : ∀ (σ : Sg), w_X16_onePass_30 ra jx rm Q X σ → RG σ → Shp dm ra jx rm σ → JJ p l e R s m args below meth c 1 D cA A n0 s0 QM σ 30 [(0, .ref rm)] [] := by
  intro σ h hGσ hS H locs ls hH hl hc
  have B := K.1
  unfold w_X16_onePass_30 at h
  refine lv_iconst (v := i32 1) B.1 B.2.1 dX16_onePass_30 (by decide) ?_
  refine lv_goto (tgt := 35) B.1 B.2.1 dX16_onePass_31 (by decide) ?_
  exact a_X16_onePass_35 K hQ hX _ _ (by unfold rng; omega) h hGσ hS _ _ _ hH (lv_sub (l' := [(0, .ref rm)]) hl [0] rfl) hc
set_option maxRecDepth 20000 in
theorem a_X16_onePass_23 {Q : Sg → Int → Prop} {X : Sg → String → Prop} (K : MC R p s m args c cX16_onePass 1 RX16 D cA tys A n0 s0 6 159 []) (hQ : HQZ p l e R s m args below meth c cX16_onePass D cA A n0 s0 QM dm ra jx rm Q) (hX : HX p l e R s m args below meth c 1 D cA A n0 s0 QM dm ra jx rm X) : ∀ (σ : Sg), w_X16_onePass_23 ra jx rm Q X σ → RG σ → Shp dm ra jx rm σ → JJ p l e R s m args below meth c 1 D cA A n0 s0 QM σ 23 [(0, .ref rm)] [] := by
  intro σ h hGσ hS H locs ls hH hl hc
  have B := K.1
  unfold w_X16_onePass_23 at h
  refine lv_aload_n B.1 B.2.1 dX16_onePass_23 rfl (lv_at hl 0 rfl) ?_
  refine c_VH B hH hl hc K.2.2.1 (C := RX16) (T := TX16) (N := 123) (ci := 16) (As := []) (ok_X16_isRight K.2.1 σ hGσ hS h) wc_X16_1003 0 hd_X16_isRight ⟨Nat.le_trans (Nat.le_of_ble_eq_true rfl) K.2.2.2.1, Nat.le_trans (Nat.le_of_ble_eq_true rfl) K.2.2.2.2.1⟩ hS.1.1 hS.1.2 (by decide) rfl rfl (rest := []) rfl (Nat.le_of_ble_eq_true rfl) dX16_onePass_24 (fun σ7 w hq => ?_) (fun σ9 E9 hx9 => hX σ9 E9 _ _ _ (tb_out K.2.2.2.2.2 rfl) hx9.1 hx9.2.1 hx9.2.2)
  obtain ⟨r8, rfl, ⟨gr8, gzr8⟩, h, hGσ7, hS⟩ := hq
  intro H locs ls hH hl hc
  refine W.eq (g2 := F0 m 27 ls [.int (i32 r8)]) (rfl) ?_
  try dsimp only at h
  refine lv_if_eq (tgt := 34) B.1 B.2.1 dX16_onePass_27 (by decide) (fun h9 => ?_) (fun h9 => ?_)
  · rw [if_pos ((z_eq gr8).mp h9)] at h
    exact a_X16_onePass_34 K hQ hX _ h hGσ7 hS _ _ _ hH (lv_sub (l' := [(0, .ref rm)]) hl [0] rfl) hc
  · rw [if_neg (fun q => h9 ((z_eq gr8).mpr q))] at h
    exact a_X16_onePass_30 K hQ hX _ h hGσ7 hS _ _ _ hH (lv_sub (l' := [(0, .ref rm)]) hl [0] rfl) hc
set_option maxRecDepth 20000 in
theorem a_X16_onePass_13 {Q : Sg → Int → Prop} {X : Sg → String → Prop} (K : MC R p s m args c cX16_onePass 1 RX16 D cA tys A n0 s0 6 159 []) (hQ : HQZ p l e R s m args below meth c cX16_onePass D cA A n0 s0 QM dm ra jx rm Q) (hX : HX p l e R s m args below meth c 1 D cA A n0 s0 QM dm ra jx rm X) : ∀ (σ : Sg) (u0 : Int) (gu0 : rng u0), w_X16_onePass_13 ra jx rm Q X σ u0 → RG σ → Shp dm ra jx rm σ → JJ p l e R s m args below meth c 1 D cA A n0 s0 QM σ 13 [(0, .ref rm)] [.int (i32 u0), .ref rm] := by
  intro σ u0 gu0 h hGσ hS H locs ls hH hl hc
  have B := K.1
  unfold w_X16_onePass_13 at h
  obtain ⟨σ9, eσ9⟩ : ∃ z, z = pI σ rm 0 u0 := ⟨_, rfl⟩
  have h := h σ9 eσ9
  refine r_puti B hH hS 0 (ty := .int) (by decide) wf_X16_1 rfl rfl rfl rfl rfl rfl dX16_onePass_13 (fun H locs hH => ?_)
  have hH : Hd D cA A s (pI σ rm 0 u0) H locs := hH
  rw [← eσ9] at hH
  have hGσ9 : RG σ9 := by rw [eσ9]; exact hGσ.pI gu0
  have hS : Shp dm ra jx rm σ9 := by rw [eσ9]; exact hS
  have hc : CB n0 s0 σ9 := by rw [eσ9]; exact hc
  rw [show gc σ = gc σ9 by rw [eσ9], show gs σ = gs σ9 by rw [eσ9]]
  refine lv_aload_n B.1 B.2.1 dX16_onePass_16 rfl (lv_at hl 0 rfl) ?_
  refine r_geti B hH hS 0 (by decide) wf_X16_1 rfl rfl dX16_onePass_17 ?_
  refine lv_if_ne (tgt := 34) B.1 B.2.1 dX16_onePass_20 (by decide) (fun h9 => ?_) (fun h9 => ?_)
  · rw [if_pos (fun q => h9 ((z_eq (hGσ9 _ _)).mpr q))] at h
    exact a_X16_onePass_34 K hQ hX _ h hGσ9 hS _ _ _ hH (lv_sub (l' := [(0, .ref rm)]) hl [0] rfl) hc
  · rw [if_neg (fun q => q ((z_eq (hGσ9 _ _)).mp h9))] at h
    exact a_X16_onePass_23 K hQ hX _ h hGσ9 hS _ _ _ hH (lv_sub (l' := [(0, .ref rm)]) hl [0] rfl) hc
set_option maxRecDepth 20000 in
theorem a_X16_onePass_12 {Q : Sg → Int → Prop} {X : Sg → String → Prop} (K : MC R p s m args c cX16_onePass 1 RX16 D cA tys A n0 s0 6 159 []) (hQ : HQZ p l e R s m args below meth c cX16_onePass D cA A n0 s0 QM dm ra jx rm Q) (hX : HX p l e R s m args below meth c 1 D cA A n0 s0 QM dm ra jx rm X) : ∀ (σ : Sg), w_X16_onePass_12 ra jx rm Q X σ → RG σ → Shp dm ra jx rm σ → JJ p l e R s m args below meth c 1 D cA A n0 s0 QM σ 12 [(0, .ref rm)] [.ref rm] := by
  intro σ h hGσ hS H locs ls hH hl hc
  have B := K.1
  unfold w_X16_onePass_12 at h
  refine lv_iconst (v := i32 0) B.1 B.2.1 dX16_onePass_12 (by decide) ?_
  exact a_X16_onePass_13 K hQ hX _ _ (by unfold rng; omega) h hGσ hS _ _ _ hH (lv_sub (l' := [(0, .ref rm)]) hl [0] rfl) hc
set_option maxRecDepth 20000 in
theorem a_X16_onePass_8 {Q : Sg → Int → Prop} {X : Sg → String → Prop} (K : MC R p s m args c cX16_onePass 1 RX16 D cA tys A n0 s0 6 159 []) (hQ : HQZ p l e R s m args below meth c cX16_onePass D cA A n0 s0 QM dm ra jx rm Q) (hX : HX p l e R s m args below meth c 1 D cA A n0 s0 QM dm ra jx rm X) : ∀ (σ : Sg), w_X16_onePass_8 ra jx rm Q X σ → RG σ → Shp dm ra jx rm σ → JJ p l e R s m args below meth c 1 D cA A n0 s0 QM σ 8 [(0, .ref rm)] [.ref rm] := by
  intro σ h hGσ hS H locs ls hH hl hc
  have B := K.1
  unfold w_X16_onePass_8 at h
  refine lv_iconst (v := i32 1) B.1 B.2.1 dX16_onePass_8 (by decide) ?_
  refine lv_goto (tgt := 13) B.1 B.2.1 dX16_onePass_9 (by decide) ?_
  exact a_X16_onePass_13 K hQ hX _ _ (by unfold rng; omega) h hGσ hS _ _ _ hH (lv_sub (l' := [(0, .ref rm)]) hl [0] rfl) hc
set_option maxRecDepth 20000 in
theorem a_X16_onePass_0 {Q : Sg → Int → Prop} {X : Sg → String → Prop} (K : MC R p s m args c cX16_onePass 1 RX16 D cA tys A n0 s0 6 159 []) (hQ : HQZ p l e R s m args below meth c cX16_onePass D cA A n0 s0 QM dm ra jx rm Q) (hX : HX p l e R s m args below meth c 1 D cA A n0 s0 QM dm ra jx rm X) : ∀ (σ : Sg), w_X16_onePass_0 ra jx rm Q X σ → RG σ → Shp dm ra jx rm σ → JJ p l e R s m args below meth c 1 D cA A n0 s0 QM σ 0 [(0, .ref rm)] [] := by
  intro σ h hGσ hS H locs ls hH hl hc
  have B := K.1
  unfold w_X16_onePass_0 at h
  refine lv_aload_n B.1 B.2.1 dX16_onePass_0 rfl (lv_at hl 0 rfl) ?_
  refine lv_aload_n B.1 B.2.1 dX16_onePass_1 rfl (lv_at hl 0 rfl) ?_
  refine r_getp B hH hS 17 (by decide) wf_X16_356 rfl rfl dX16_onePass_2 ?_
  refine lv_ifnonnullQ (tgt := 12) B.1 B.2.1 dX16_onePass_5 (by decide) (fun h9 => ?_) (fun h9 => ?_)
  · rw [if_pos (h9)] at h
    exact a_X16_onePass_12 K hQ hX _ h hGσ hS _ _ _ hH (lv_sub (l' := [(0, .ref rm)]) hl [0] rfl) hc
  · rw [if_neg (h9)] at h
    exact a_X16_onePass_8 K hQ hX _ h hGσ hS _ _ _ hH (lv_sub (l' := [(0, .ref rm)]) hl [0] rfl) hc
theorem ok_X16_onePass (hT : Tys cA tys) {Q : Sg → Int → Prop} {X : Sg → String → Prop} (σ : Sg) (hG : RG σ) (hS : Shp dm ra jx rm σ) (h : wp_X16_onePass ra jx rm σ Q X) : Ok l D cA tys A yX16_onePass (.code yX16_onePass cX16_onePass 1 (some .boolean)) 6 159 [.ref rm] σ (QnZ dm ra jx rm Q) (QxR dm ra jx rm X) := by
  unfold wp_X16_onePass at h
  exact ok_Z (plainFor_of_name (by decide)) (by exact Nat.le_of_ble_eq_true rfl) hT (fun p e R s m args below meth c K hQ hX H locs ls hH hl hc => a_X16_onePass_0 K hQ hX σ h hG hS H locs ls hH (lv_sub (l' := [(0, .ref rm)]) hl [0] rfl) hc)
end M63

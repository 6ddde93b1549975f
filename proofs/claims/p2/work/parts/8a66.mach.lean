section M66
variable {p : Program} {l : Launch} {e : Env} {R : Room} {s : State} {m : MethodId} {args : Array Value} {below : List Frame} {meth : Method} {c : Code} {D : va_G} {cA : Nat → ClassId} {tys : List (ClassId × FieldType)} {A : Nat → Prop} {n0 s0 : Nat} {QM : State → Prop} {dm : List Nat × Nat × Nat} {ra : Nat → Nat} {jx : Nat → Nat → Nat} {rm : Nat}
theorem dX16_oneTurn_0 : decode cX16_oneTurn 0 = .ok (.aload_n 0, 1) := by decide +kernel
theorem dX16_oneTurn_1 : decode cX16_oneTurn 1 = .ok (.getfield 343, 3) := by decide +kernel
theorem dX16_oneTurn_4 : decode cX16_oneTurn 4 = .ok (.istore_n 1, 1) := by decide +kernel
theorem dX16_oneTurn_5 : decode cX16_oneTurn 5 = .ok (.aload_n 0, 1) := by decide +kernel
theorem dX16_oneTurn_6 : decode cX16_oneTurn 6 = .ok (.iconst 0, 1) := by decide +kernel
theorem dX16_oneTurn_7 : decode cX16_oneTurn 7 = .ok (.putfield 766, 3) := by decide +kernel
theorem dX16_oneTurn_10 : decode cX16_oneTurn 10 = .ok (.aload_n 0, 1) := by decide +kernel
theorem dX16_oneTurn_11 : decode cX16_oneTurn 11 = .ok (.dup, 1) := by decide +kernel
theorem dX16_oneTurn_12 : decode cX16_oneTurn 12 = .ok (.getfield 807, 3) := by decide +kernel
theorem dX16_oneTurn_15 : decode cX16_oneTurn 15 = .ok (.lconst 1, 1) := by decide +kernel
theorem dX16_oneTurn_16 : decode cX16_oneTurn 16 = .ok (.ladd, 1) := by decide +kernel
theorem dX16_oneTurn_17 : decode cX16_oneTurn 17 = .ok (.putfield 807, 3) := by decide +kernel
theorem dX16_oneTurn_20 : decode cX16_oneTurn 20 = .ok (.aload_n 0, 1) := by decide +kernel
theorem dX16_oneTurn_21 : decode cX16_oneTurn 21 = .ok (.aload_n 0, 1) := by decide +kernel
theorem dX16_oneTurn_22 : decode cX16_oneTurn 22 = .ok (.getfield 810, 3) := by decide +kernel
theorem dX16_oneTurn_25 : decode cX16_oneTurn 25 = .ok (.ldc2_w 813, 3) := by decide +kernel
theorem dX16_oneTurn_28 : decode cX16_oneTurn 28 = .ok (.lmul, 1) := by decide +kernel
theorem dX16_oneTurn_29 : decode cX16_oneTurn 29 = .ok (.ldc2_w 815, 3) := by decide +kernel
theorem dX16_oneTurn_32 : decode cX16_oneTurn 32 = .ok (.ladd, 1) := by decide +kernel
theorem dX16_oneTurn_33 : decode cX16_oneTurn 33 = .ok (.putfield 810, 3) := by decide +kernel
theorem dX16_oneTurn_36 : decode cX16_oneTurn 36 = .ok (.aload_n 0, 1) := by decide +kernel
theorem dX16_oneTurn_37 : decode cX16_oneTurn 37 = .ok (.getfield 810, 3) := by decide +kernel
theorem dX16_oneTurn_40 : decode cX16_oneTurn 40 = .ok (.bipush 33, 2) := by decide +kernel
theorem dX16_oneTurn_42 : decode cX16_oneTurn 42 = .ok (.lushr, 1) := by decide +kernel
theorem dX16_oneTurn_43 : decode cX16_oneTurn 43 = .ok (.aload_n 0, 1) := by decide +kernel
theorem dX16_oneTurn_44 : decode cX16_oneTurn 44 = .ok (.getfield 399, 3) := by decide +kernel
theorem dX16_oneTurn_47 : decode cX16_oneTurn 47 = .ok (.i2l, 1) := by decide +kernel
theorem dX16_oneTurn_48 : decode cX16_oneTurn 48 = .ok (.lrem, 1) := by decide +kernel
theorem dX16_oneTurn_49 : decode cX16_oneTurn 49 = .ok (.l2i, 1) := by decide +kernel
theorem dX16_oneTurn_50 : decode cX16_oneTurn 50 = .ok (.istore_n 2, 1) := by decide +kernel
theorem dX16_oneTurn_51 : decode cX16_oneTurn 51 = .ok (.aload_n 0, 1) := by decide +kernel
theorem dX16_oneTurn_52 : decode cX16_oneTurn 52 = .ok (.iload_n 2, 1) := by decide +kernel
theorem dX16_oneTurn_53 : decode cX16_oneTurn 53 = .ok (.invokevirtual 817, 3) := by decide +kernel
theorem dX16_oneTurn_56 : decode cX16_oneTurn 56 = .ok (.ifCond .eq 5, 3) := by decide +kernel
theorem dX16_oneTurn_59 : decode cX16_oneTurn 59 = .ok (.iconst 0, 1) := by decide +kernel
theorem dX16_oneTurn_60 : decode cX16_oneTurn 60 = .ok (.ireturn, 1) := by decide +kernel
theorem dX16_oneTurn_61 : decode cX16_oneTurn 61 = .ok (.aload_n 0, 1) := by decide +kernel
theorem dX16_oneTurn_62 : decode cX16_oneTurn 62 = .ok (.getfield 356, 3) := by decide +kernel
theorem dX16_oneTurn_65 : decode cX16_oneTurn 65 = .ok (.getfield 246, 3) := by decide +kernel
theorem dX16_oneTurn_68 : decode cX16_oneTurn 68 = .ok (.aload_n 0, 1) := by decide +kernel
theorem dX16_oneTurn_69 : decode cX16_oneTurn 69 = .ok (.getfield 380, 3) := by decide +kernel
theorem dX16_oneTurn_72 : decode cX16_oneTurn 72 = .ok (.iload_n 2, 1) := by decide +kernel
theorem dX16_oneTurn_73 : decode cX16_oneTurn 73 = .ok (.iaload, 1) := by decide +kernel
theorem dX16_oneTurn_74 : decode cX16_oneTurn 74 = .ok (.iaload, 1) := by decide +kernel
theorem dX16_oneTurn_75 : decode cX16_oneTurn 75 = .ok (.ifCond .ne 11, 3) := by decide +kernel
theorem dX16_oneTurn_78 : decode cX16_oneTurn 78 = .ok (.aload_n 0, 1) := by decide +kernel
theorem dX16_oneTurn_79 : decode cX16_oneTurn 79 = .ok (.iload_n 2, 1) := by decide +kernel
theorem dX16_oneTurn_80 : decode cX16_oneTurn 80 = .ok (.invokevirtual 820, 3) := by decide +kernel
theorem dX16_oneTurn_83 : decode cX16_oneTurn 83 = .ok (.goto 8, 3) := by decide +kernel
theorem dX16_oneTurn_86 : decode cX16_oneTurn 86 = .ok (.aload_n 0, 1) := by decide +kernel
theorem dX16_oneTurn_87 : decode cX16_oneTurn 87 = .ok (.iload_n 2, 1) := by decide +kernel
theorem dX16_oneTurn_88 : decode cX16_oneTurn 88 = .ok (.invokevirtual 823, 3) := by decide +kernel
theorem dX16_oneTurn_91 : decode cX16_oneTurn 91 = .ok (.istore_n 3, 1) := by decide +kernel
theorem dX16_oneTurn_92 : decode cX16_oneTurn 92 = .ok (.aload_n 0, 1) := by decide +kernel
theorem dX16_oneTurn_93 : decode cX16_oneTurn 93 = .ok (.dup, 1) := by decide +kernel
theorem dX16_oneTurn_94 : decode cX16_oneTurn 94 = .ok (.getfield 826, 3) := by decide +kernel
theorem dX16_oneTurn_97 : decode cX16_oneTurn 97 = .ok (.iload_n 3, 1) := by decide +kernel
theorem dX16_oneTurn_98 : decode cX16_oneTurn 98 = .ok (.ifCond .ge 7, 3) := by decide +kernel
theorem dX16_oneTurn_101 : decode cX16_oneTurn 101 = .ok (.lconst 1, 1) := by decide +kernel
theorem dX16_oneTurn_102 : decode cX16_oneTurn 102 = .ok (.goto 4, 3) := by decide +kernel
theorem dX16_oneTurn_105 : decode cX16_oneTurn 105 = .ok (.lconst 0, 1) := by decide +kernel
theorem dX16_oneTurn_106 : decode cX16_oneTurn 106 = .ok (.ladd, 1) := by decide +kernel
theorem dX16_oneTurn_107 : decode cX16_oneTurn 107 = .ok (.putfield 826, 3) := by decide +kernel
theorem dX16_oneTurn_110 : decode cX16_oneTurn 110 = .ok (.aload_n 0, 1) := by decide +kernel
theorem dX16_oneTurn_111 : decode cX16_oneTurn 111 = .ok (.iload_n 2, 1) := by decide +kernel
theorem dX16_oneTurn_112 : decode cX16_oneTurn 112 = .ok (.invokevirtual 817, 3) := by decide +kernel
theorem dX16_oneTurn_115 : decode cX16_oneTurn 115 = .ok (.pop, 1) := by decide +kernel
theorem dX16_oneTurn_116 : decode cX16_oneTurn 116 = .ok (.goto 22, 3) := by decide +kernel
theorem dX16_oneTurn_119 : decode cX16_oneTurn 119 = .ok (.astore_n 3, 1) := by decide +kernel
theorem dX16_oneTurn_120 : decode cX16_oneTurn 120 = .ok (.aload_n 3, 1) := by decide +kernel
theorem dX16_oneTurn_121 : decode cX16_oneTurn 121 = .ok (.aload_n 0, 1) := by decide +kernel
theorem dX16_oneTurn_122 : decode cX16_oneTurn 122 = .ok (.getfield 346, 3) := by decide +kernel
theorem dX16_oneTurn_125 : decode cX16_oneTurn 125 = .ok (.if_acmp .ne 13, 3) := by decide +kernel
theorem dX16_oneTurn_128 : decode cX16_oneTurn 128 = .ok (.aload_n 0, 1) := by decide +kernel
theorem dX16_oneTurn_129 : decode cX16_oneTurn 129 = .ok (.iconst 1, 1) := by decide +kernel
theorem dX16_oneTurn_130 : decode cX16_oneTurn 130 = .ok (.putfield 831, 3) := by decide +kernel
theorem dX16_oneTurn_133 : decode cX16_oneTurn 133 = .ok (.aload_n 0, 1) := by decide +kernel
theorem dX16_oneTurn_134 : decode cX16_oneTurn 134 = .ok (.iload_n 1, 1) := by decide +kernel
theorem dX16_oneTurn_135 : decode cX16_oneTurn 135 = .ok (.putfield 343, 3) := by decide +kernel
theorem dX16_oneTurn_138 : decode cX16_oneTurn 138 = .ok (.aload_n 0, 1) := by decide +kernel
theorem dX16_oneTurn_139 : decode cX16_oneTurn 139 = .ok (.getfield 766, 3) := by decide +kernel
theorem dX16_oneTurn_142 : decode cX16_oneTurn 142 = .ok (.ireturn, 1) := by decide +kernel
set_option maxRecDepth 20000 in
theorem a_X16_oneTurn_138 {Q : Sg → Int → Prop} {X : Sg → String → Prop} (K : MC R p s m args c cX16_oneTurn 4 RX16 D cA tys A n0 s0 8 227 [(51, 60, 119, 829), (61, 116, 119, 829)]) (hQ : HQI p l e R s m args below meth c cX16_oneTurn D cA A n0 s0 QM dm ra jx rm Q) (hX : HX p l e R s m args below meth c 4 D cA A n0 s0 QM dm ra jx rm X) : ∀ (σ : Sg), w_X16_oneTurn_138 ra jx rm Q X σ → RG σ → Shp dm ra jx rm σ → JJ p l e R s m args below meth c 4 D cA A n0 s0 QM σ 138 [(0, .ref rm)] [] := by
  intro σ h hGσ hS H locs ls hH hl hc
  have B := K.1
  unfold w_X16_oneTurn_138 at h
  refine lv_aload_n B.1 B.2.1 dX16_oneTurn_138 rfl (lv_at hl 0 rfl) ?_
  refine r_geti B hH hS 113 (by decide) wf_X16_766 rfl rfl dX16_oneTurn_139 ?_
  exact hQ _ _ _ _ _ _ (hGσ _ _) dX16_oneTurn_142 hH hc h hGσ hS
set_option maxRecDepth 20000 in
theorem a_X16_oneTurn_128 {Q : Sg → Int → Prop} {X : Sg → String → Prop} (K : MC R p s m args c cX16_oneTurn 4 RX16 D cA tys A n0 s0 8 227 [(51, 60, 119, 829), (61, 116, 119, 829)]) (hQ : HQI p l e R s m args below meth c cX16_oneTurn D cA A n0 s0 QM dm ra jx rm Q) (hX : HX p l e R s m args below meth c 4 D cA A n0 s0 QM dm ra jx rm X) : ∀ (σ : Sg) (v1 : Int) (g1 : rng v1), w_X16_oneTurn_128 ra jx rm Q X σ v1 → RG σ → Shp dm ra jx rm σ → JJ p l e R s m args below meth c 4 D cA A n0 s0 QM σ 128 [(0, .ref rm), (1, .int (i32 v1))] [] := by
  intro σ v1 g1 h hGσ hS H locs ls hH hl hc
  have B := K.1
  unfold w_X16_oneTurn_128 at h
  refine lv_aload_n B.1 B.2.1 dX16_oneTurn_128 rfl (lv_at hl 0 rfl) ?_
  refine lv_iconst (v := i32 1) B.1 B.2.1 dX16_oneTurn_129 (by decide) ?_
  obtain ⟨σ31, eσ31⟩ : ∃ z, z = pI σ rm 31 1 := ⟨_, rfl⟩
  have h := h σ31 eσ31
  refine r_puti B hH hS 31 (ty := .boolean) (by decide) wf_X16_831 rfl rfl rfl rfl rfl rfl dX16_oneTurn_130 (fun H locs hH => ?_)
  have hH : Hd D cA A s (pI σ rm 31 1) H locs := hH
  rw [← eσ31] at hH
  have hGσ31 : RG σ31 := by rw [eσ31]; exact hGσ.pI (by unfold rng; omega)
  have hS : Shp dm ra jx rm σ31 := by rw [eσ31]; exact hS
  have hc : CB n0 s0 σ31 := by rw [eσ31]; exact hc
  rw [show gc σ = gc σ31 by rw [eσ31], show gs σ = gs σ31 by rw [eσ31]]
  refine lv_aload_n B.1 B.2.1 dX16_oneTurn_133 rfl (lv_at hl 0 rfl) ?_
  refine lv_iload_n B.1 B.2.1 dX16_oneTurn_134 rfl (lv_at hl 1 rfl) ?_
  obtain ⟨σ32, eσ32⟩ : ∃ z, z = pI σ31 rm 27 v1 := ⟨_, rfl⟩
  have h := h σ32 eσ32
  refine r_puti B hH hS 27 (ty := .int) (by decide) wf_X16_343 rfl rfl rfl rfl rfl rfl dX16_oneTurn_135 (fun H locs hH => ?_)
  have hH : Hd D cA A s (pI σ31 rm 27 v1) H locs := hH
  rw [← eσ32] at hH
  have hGσ32 : RG σ32 := by rw [eσ32]; exact hGσ31.pI g1
  have hS : Shp dm ra jx rm σ32 := by rw [eσ32]; exact hS
  have hc : CB n0 s0 σ32 := by rw [eσ32]; exact hc
  rw [show gc σ31 = gc σ32 by rw [eσ32], show gs σ31 = gs σ32 by rw [eσ32]]
  exact a_X16_oneTurn_138 K hQ hX _ h hGσ32 hS _ _ _ hH (lv_sub (l' := [(0, .ref rm)]) hl [0] rfl) hc
set_option maxRecDepth 20000 in
theorem a_X16_oneTurn_119 {Q : Sg → Int → Prop} {X : Sg → String → Prop} (K : MC R p s m args c cX16_oneTurn 4 RX16 D cA tys A n0 s0 8 227 [(51, 60, 119, 829), (61, 116, 119, 829)]) (hQ : HQI p l e R s m args below meth c cX16_oneTurn D cA A n0 s0 QM dm ra jx rm Q) (hX : HX p l e R s m args below meth c 4 D cA A n0 s0 QM dm ra jx rm X) : ∀ (σ : Sg) (v1 : Int) (u0 : Option Nat) (g1 : rng v1), w_X16_oneTurn_119 ra jx rm Q X σ v1 u0 → RG σ → Shp dm ra jx rm σ → JJ p l e R s m args below meth c 4 D cA A n0 s0 QM σ 119 [(0, .ref rm), (1, .int (i32 v1))] [va_rf u0] := by
  intro σ v1 u0 g1 h hGσ hS H locs ls hH hl hc
  have B := K.1
  unfold w_X16_oneTurn_119 at h
  refine lv_astore_nQ (lv' := [(3, va_rf u0), (0, .ref rm), (1, .int (i32 v1))]) B.1 B.2.1 dX16_oneTurn_119 rfl hl (by decide) rfl (fun ls hl => ?_)
  refine lv_aload_nQ B.1 B.2.1 dX16_oneTurn_120 rfl (lv_at hl 0 rfl) ?_
  refine lv_aload_n B.1 B.2.1 dX16_oneTurn_121 rfl (lv_at hl 1 rfl) ?_
  refine r_obj B hH hS 28 (ci := 13) (by decide) (by decide) wf_X16_346 rfl rfl dX16_oneTurn_122 ?_
  refine W.eq (g2 := F0 m 125 ls [va_rf (some (ra 28)), va_rf u0]) (rfl) ?_
  refine W.eq (g2 := F0 m 125 ls [va_rf (some (ra 28)), va_rf u0]) (rfl) ?_
  refine lv_acmp_ne (tgt := 138) B.1 B.2.1 dX16_oneTurn_125 (by decide) (fun h9 => ?_) (fun h9 => ?_)
  · rw [if_pos (h9)] at h
    exact a_X16_oneTurn_138 K hQ hX _ h hGσ hS _ _ _ hH (lv_sub (l' := [(0, .ref rm)]) hl [1] rfl) hc
  · rw [if_neg (fun q => q h9)] at h
    exact a_X16_oneTurn_128 K hQ hX _ _ g1 h hGσ hS _ _ _ hH (lv_sub (l' := [(0, .ref rm), (1, .int (i32 v1))]) hl [1, 2] rfl) hc
set_option maxRecDepth 20000 in
theorem a_X16_oneTurn_116 {Q : Sg → Int → Prop} {X : Sg → String → Prop} (K : MC R p s m args c cX16_oneTurn 4 RX16 D cA tys A n0 s0 8 227 [(51, 60, 119, 829), (61, 116, 119, 829)]) (hQ : HQI p l e R s m args below meth c cX16_oneTurn D cA A n0 s0 QM dm ra jx rm Q) (hX : HX p l e R s m args below meth c 4 D cA A n0 s0 QM dm ra jx rm X) : ∀ (σ : Sg), w_X16_oneTurn_116 ra jx rm Q X σ → RG σ → Shp dm ra jx rm σ → JJ p l e R s m args below meth c 4 D cA A n0 s0 QM σ 116 [(0, .ref rm)] [] := by
  intro σ h hGσ hS H locs ls hH hl hc
  have B := K.1
  unfold w_X16_oneTurn_116 at h
  refine lv_goto (tgt := 138) B.1 B.2.1 dX16_oneTurn_116 (by decide) ?_
  exact a_X16_oneTurn_138 K hQ hX _ h hGσ hS _ _ _ hH (lv_sub (l' := [(0, .ref rm)]) hl [0] rfl) hc
set_option maxRecDepth 20000 in
theorem a_X16_oneTurn_106 {Q : Sg → Int → Prop} {X : Sg → String → Prop} (K : MC R p s m args c cX16_oneTurn 4 RX16 D cA tys A n0 s0 8 227 [(51, 60, 119, 829), (61, 116, 119, 829)]) (hQ : HQI p l e R s m args below meth c cX16_oneTurn D cA A n0 s0 QM dm ra jx rm Q) (hX : HX p l e R s m args below meth c 4 D cA A n0 s0 QM dm ra jx rm X) : ∀ (σ : Sg) (v1 : Int) (v2 : Int) (u0 : Int64) (u1 : Int64) (g1 : rng v1) (g2 : rng v2), w_X16_oneTurn_106 ra jx rm Q X σ v1 v2 u0 u1 → RG σ → Shp dm ra jx rm σ → JJ p l e R s m args below meth c 4 D cA A n0 s0 QM σ 106 [(0, .ref rm), (1, .int (i32 v1)), (2, .int (i32 v2))] [.long u0, .long u1, .ref rm] := by
  intro σ v1 v2 u0 u1 g1 g2 h hGσ hS H locs ls hH hl hc
  have B := K.1
  unfold w_X16_oneTurn_106 at h
  refine lv_ladd B.1 B.2.1 dX16_oneTurn_106 ?_
  obtain ⟨σ33, eσ33⟩ : ∃ z, z = pJ σ rm 111 (u1 + u0) := ⟨_, rfl⟩
  have h := h σ33 eσ33
  refine r_putl B hH hS 111 (by decide) wf_X16_826 rfl rfl rfl rfl dX16_oneTurn_107 (fun H locs hH => ?_)
  have hH : Hd D cA A s (pJ σ rm 111 (u1 + u0)) H locs := hH
  rw [← eσ33] at hH
  have hGσ33 : RG σ33 := by rw [eσ33]; exact hGσ.pJ
  have hS : Shp dm ra jx rm σ33 := by rw [eσ33]; exact hS
  have hc : CB n0 s0 σ33 := by rw [eσ33]; exact hc
  rw [show gc σ = gc σ33 by rw [eσ33], show gs σ = gs σ33 by rw [eσ33]]
  refine lv_aload_n B.1 B.2.1 dX16_oneTurn_110 rfl (lv_at hl 0 rfl) ?_
  refine lv_iload_n B.1 B.2.1 dX16_oneTurn_111 rfl (lv_at hl 2 rfl) ?_
  refine c_V B hH hl hc K.2.2.1 (C := RX16) (T := TX16) (N := 123) (ci := 16) (As := [.int (i32 v2)]) (ok_X16_flush K.2.1 σ33 v2 g2 hGσ33 hS h) wc_X16_817 1 hd_X16_flush ⟨Nat.le_trans (Nat.le_of_ble_eq_true rfl) K.2.2.2.1, Nat.le_trans (Nat.le_of_ble_eq_true rfl) K.2.2.2.2.1⟩ hS.1.1 hS.1.2 (by decide) rfl rfl (rest := []) rfl (Nat.le_of_ble_eq_true rfl) dX16_oneTurn_112 (fun σ34 w hq => ?_) (fun σ9 E9 hx9 => (by obtain ⟨⟨rfl, h⟩, hG9, hS9⟩ := hx9; exact h_catchP B [⟨51, 60, 119, 829⟩] (K.2.2.2.2.2.trans rfl) rfl rfl (by decide) wl_X16_829 (by decide) (fun q9 H locs ls hH hl hc => a_X16_oneTurn_119 K hQ hX σ9 _ (some q9) g1 (h (some q9)) hG9 hS9 H locs ls hH (lv_sub (l' := [(0, .ref rm), (1, .int (i32 v1))]) hl [0, 1] rfl) hc)))
  obtain ⟨r35, rfl, ⟨gr35, gzr35⟩, h, hGσ34, hS⟩ := hq
  intro H locs ls hH hl hc
  refine W.eq (g2 := F0 m 115 ls [.int (i32 r35)]) (rfl) ?_
  try dsimp only at h
  refine lv_pop B.1 B.2.1 dX16_oneTurn_115 rfl ?_
  exact a_X16_oneTurn_116 K hQ hX _ h hGσ34 hS _ _ _ hH (lv_sub (l' := [(0, .ref rm)]) hl [0] rfl) hc
set_option maxRecDepth 20000 in
theorem a_X16_oneTurn_105 {Q : Sg → Int → Prop} {X : Sg → String → Prop} (K : MC R p s m args c cX16_oneTurn 4 RX16 D cA tys A n0 s0 8 227 [(51, 60, 119, 829), (61, 116, 119, 829)]) (hQ : HQI p l e R s m args below meth c cX16_oneTurn D cA A n0 s0 QM dm ra jx rm Q) (hX : HX p l e R s m args below meth c 4 D cA A n0 s0 QM dm ra jx rm X) : ∀ (σ : Sg) (v1 : Int) (v2 : Int) (u0 : Int64) (g1 : rng v1) (g2 : rng v2), w_X16_oneTurn_105 ra jx rm Q X σ v1 v2 u0 → RG σ → Shp dm ra jx rm σ → JJ p l e R s m args below meth c 4 D cA A n0 s0 QM σ 105 [(0, .ref rm), (1, .int (i32 v1)), (2, .int (i32 v2))] [.long u0, .ref rm] := by
  intro σ v1 v2 u0 g1 g2 h hGσ hS H locs ls hH hl hc
  have B := K.1
  unfold w_X16_oneTurn_105 at h
  refine lv_lconst (v := 0) B.1 B.2.1 dX16_oneTurn_105 (by decide) ?_
  exact a_X16_oneTurn_106 K hQ hX _ _ _ _ _ g1 g2 h hGσ hS _ _ _ hH (lv_sub (l' := [(0, .ref rm), (1, .int (i32 v1)), (2, .int (i32 v2))]) hl [0, 1, 2] rfl) hc
set_option maxRecDepth 20000 in
theorem a_X16_oneTurn_101 {Q : Sg → Int → Prop} {X : Sg → String → Prop} (K : MC R p s m args c cX16_oneTurn 4 RX16 D cA tys A n0 s0 8 227 [(51, 60, 119, 829), (61, 116, 119, 829)]) (hQ : HQI p l e R s m args below meth c cX16_oneTurn D cA A n0 s0 QM dm ra jx rm Q) (hX : HX p l e R s m args below meth c 4 D cA A n0 s0 QM dm ra jx rm X) : ∀ (σ : Sg) (v1 : Int) (v2 : Int) (u0 : Int64) (g1 : rng v1) (g2 : rng v2), w_X16_oneTurn_101 ra jx rm Q X σ v1 v2 u0 → RG σ → Shp dm ra jx rm σ → JJ p l e R s m args below meth c 4 D cA A n0 s0 QM σ 101 [(0, .ref rm), (1, .int (i32 v1)), (2, .int (i32 v2))] [.long u0, .ref rm] := by
  intro σ v1 v2 u0 g1 g2 h hGσ hS H locs ls hH hl hc
  have B := K.1
  unfold w_X16_oneTurn_101 at h
  refine lv_lconst (v := 1) B.1 B.2.1 dX16_oneTurn_101 (by decide) ?_
  refine lv_goto (tgt := 106) B.1 B.2.1 dX16_oneTurn_102 (by decide) ?_
  exact a_X16_oneTurn_106 K hQ hX _ _ _ _ _ g1 g2 h hGσ hS _ _ _ hH (lv_sub (l' := [(0, .ref rm), (1, .int (i32 v1)), (2, .int (i32 v2))]) hl [0, 1, 2] rfl) hc
set_option maxRecDepth 20000 in
theorem a_X16_oneTurn_91 {Q : Sg → Int → Prop} {X : Sg → String → Prop} (K : MC R p s m args c cX16_oneTurn 4 RX16 D cA tys A n0 s0 8 227 [(51, 60, 119, 829), (61, 116, 119, 829)]) (hQ : HQI p l e R s m args below meth c cX16_oneTurn D cA A n0 s0 QM dm ra jx rm Q) (hX : HX p l e R s m args below meth c 4 D cA A n0 s0 QM dm ra jx rm X) : ∀ (σ : Sg) (v1 : Int) (v2 : Int) (u0 : Int) (g1 : rng v1) (g2 : rng v2) (gu0 : rng u0), w_X16_oneTurn_91 ra jx rm Q X σ v1 v2 u0 → RG σ → Shp dm ra jx rm σ → JJ p l e R s m args below meth c 4 D cA A n0 s0 QM σ 91 [(0, .ref rm), (1, .int (i32 v1)), (2, .int (i32 v2))] [.int (i32 u0)] := by
  intro σ v1 v2 u0 g1 g2 gu0 h hGσ hS H locs ls hH hl hc
  have B := K.1
  unfold w_X16_oneTurn_91 at h
  refine lv_istore_n (lv' := [(3, .int (i32 u0)), (0, .ref rm), (1, .int (i32 v1)), (2, .int (i32 v2))]) B.1 B.2.1 dX16_oneTurn_91 rfl hl (by decide) rfl (fun ls hl => ?_)
  refine lv_aload_n B.1 B.2.1 dX16_oneTurn_92 rfl (lv_at hl 1 rfl) ?_
  refine lv_dup B.1 B.2.1 dX16_oneTurn_93 rfl ?_
  refine r_getl B hH hS 111 (by decide) wf_X16_826 rfl rfl dX16_oneTurn_94 ?_
  refine lv_iload_n B.1 B.2.1 dX16_oneTurn_97 rfl (lv_at hl 0 rfl) ?_
  refine lv_if_ge (tgt := 105) B.1 B.2.1 dX16_oneTurn_98 (by decide) (fun h9 => ?_) (fun h9 => ?_)
  · rw [if_pos ((z_ge gu0).mp h9)] at h
    exact a_X16_oneTurn_105 K hQ hX _ _ _ _ g1 g2 h hGσ hS _ _ _ hH (lv_sub (l' := [(0, .ref rm), (1, .int (i32 v1)), (2, .int (i32 v2))]) hl [1, 2, 3] rfl) hc
  · rw [if_neg (fun q => h9 ((z_ge gu0).mpr q))] at h
    exact a_X16_oneTurn_101 K hQ hX _ _ _ _ g1 g2 h hGσ hS _ _ _ hH (lv_sub (l' := [(0, .ref rm), (1, .int (i32 v1)), (2, .int (i32 v2))]) hl [1, 2, 3] rfl) hc
set_option maxRecDepth 20000 in
theorem a_X16_oneTurn_86 {Q : Sg → Int → Prop} {X : Sg → String → Prop} (K : MC R p s m args c cX16_oneTurn 4 RX16 D cA tys A n0 s0 8 227 [(51, 60, 119, 829), (61, 116, 119, 829)]) (hQ : HQI p l e R s m args below meth c cX16_oneTurn D cA A n0 s0 QM dm ra jx rm Q) (hX : HX p l e R s m args below meth c 4 D cA A n0 s0 QM dm ra jx rm X) : ∀ (σ : Sg) (v1 : Int) (v2 : Int) (g1 : rng v1) (g2 : rng v2), w_X16_oneTurn_86 ra jx rm Q X σ v1 v2 → RG σ → Shp dm ra jx rm σ → JJ p l e R s m args below meth c 4 D cA A n0 s0 QM σ 86 [(0, .ref rm), (1, .int (i32 v1)), (2, .int (i32 v2))] [] := by
  intro σ v1 v2 g1 g2 h hGσ hS H locs ls hH hl hc
  have B := K.1
  unfold w_X16_oneTurn_86 at h
  refine lv_aload_n B.1 B.2.1 dX16_oneTurn_86 rfl (lv_at hl 0 rfl) ?_
  refine lv_iload_n B.1 B.2.1 dX16_oneTurn_87 rfl (lv_at hl 2 rfl) ?_
  refine c_V B hH hl hc K.2.2.1 (C := RX16) (T := TX16) (N := 123) (ci := 16) (As := [.int (i32 v2)]) (ok_X16_taskTurn K.2.1 σ v2 g2 hGσ hS h) wc_X16_823 1 hd_X16_taskTurn ⟨Nat.le_trans (Nat.le_of_ble_eq_true rfl) K.2.2.2.1, Nat.le_trans (Nat.le_of_ble_eq_true rfl) K.2.2.2.2.1⟩ hS.1.1 hS.1.2 (by decide) rfl rfl (rest := []) rfl (Nat.le_of_ble_eq_true rfl) dX16_oneTurn_88 (fun σ36 w hq => ?_) (fun σ9 E9 hx9 => (by obtain ⟨⟨rfl, h⟩, hG9, hS9⟩ := hx9; exact h_catchP B [⟨51, 60, 119, 829⟩] (K.2.2.2.2.2.trans rfl) rfl rfl (by decide) wl_X16_829 (by decide) (fun q9 H locs ls hH hl hc => a_X16_oneTurn_119 K hQ hX σ9 _ (some q9) g1 (h (some q9)) hG9 hS9 H locs ls hH (lv_sub (l' := [(0, .ref rm), (1, .int (i32 v1))]) hl [0, 1] rfl) hc)))
  obtain ⟨r37, rfl, gr37, h, hGσ36, hS⟩ := hq
  intro H locs ls hH hl hc
  refine W.eq (g2 := F0 m 91 ls [.int (i32 r37)]) (rfl) ?_
  try dsimp only at h
  exact a_X16_oneTurn_91 K hQ hX _ _ _ _ g1 g2 gr37 h hGσ36 hS _ _ _ hH (lv_sub (l' := [(0, .ref rm), (1, .int (i32 v1)), (2, .int (i32 v2))]) hl [0, 1, 2] rfl) hc
set_option maxRecDepth 20000 in
theorem a_X16_oneTurn_78 {Q : Sg → Int → Prop} {X : Sg → String → Prop} (K : MC R p s m args c cX16_oneTurn 4 RX16 D cA tys A n0 s0 8 227 [(51, 60, 119, 829), (61, 116, 119, 829)]) (hQ : HQI p l e R s m args below meth c cX16_oneTurn D cA A n0 s0 QM dm ra jx rm Q) (hX : HX p l e R s m args below meth c 4 D cA A n0 s0 QM dm ra jx rm X) : ∀ (σ : Sg) (v1 : Int) (v2 : Int) (g1 : rng v1) (g2 : rng v2), w_X16_oneTurn_78 ra jx rm Q X σ v1 v2 → RG σ → Shp dm ra jx rm σ → JJ p l e R s m args below meth c 4 D cA A n0 s0 QM σ 78 [(0, .ref rm), (1, .int (i32 v1)), (2, .int (i32 v2))] [] := by
  intro σ v1 v2 g1 g2 h hGσ hS H locs ls hH hl hc
  have B := K.1
  unfold w_X16_oneTurn_78 at h
  refine lv_aload_n B.1 B.2.1 dX16_oneTurn_78 rfl (lv_at hl 0 rfl) ?_
  refine lv_iload_n B.1 B.2.1 dX16_oneTurn_79 rfl (lv_at hl 2 rfl) ?_
  refine c_V B hH hl hc K.2.2.1 (C := RX16) (T := TX16) (N := 123) (ci := 16) (As := [.int (i32 v2)]) (ok_X16_sourceTurn K.2.1 σ v2 g2 hGσ hS h) wc_X16_820 1 hd_X16_sourceTurn ⟨Nat.le_trans (Nat.le_of_ble_eq_true rfl) K.2.2.2.1, Nat.le_trans (Nat.le_of_ble_eq_true rfl) K.2.2.2.2.1⟩ hS.1.1 hS.1.2 (by decide) rfl rfl (rest := []) rfl (Nat.le_of_ble_eq_true rfl) dX16_oneTurn_80 (fun σ38 w hq => ?_) (fun σ9 E9 hx9 => (by obtain ⟨⟨rfl, h⟩, hG9, hS9⟩ := hx9; exact h_catchP B [⟨51, 60, 119, 829⟩] (K.2.2.2.2.2.trans rfl) rfl rfl (by decide) wl_X16_829 (by decide) (fun q9 H locs ls hH hl hc => a_X16_oneTurn_119 K hQ hX σ9 _ (some q9) g1 (h (some q9)) hG9 hS9 H locs ls hH (lv_sub (l' := [(0, .ref rm), (1, .int (i32 v1))]) hl [0, 1] rfl) hc)))
  obtain ⟨r39, rfl, gr39, h, hGσ38, hS⟩ := hq
  intro H locs ls hH hl hc
  refine W.eq (g2 := F0 m 83 ls [.int (i32 r39)]) (rfl) ?_
  try dsimp only at h
  refine lv_goto (tgt := 91) B.1 B.2.1 dX16_oneTurn_83 (by decide) ?_
  exact a_X16_oneTurn_91 K hQ hX _ _ _ _ g1 g2 gr39 h hGσ38 hS _ _ _ hH (lv_sub (l' := [(0, .ref rm), (1, .int (i32 v1)), (2, .int (i32 v2))]) hl [0, 1, 2] rfl) hc
set_option maxRecDepth 20000 in
theorem a_X16_oneTurn_61 {Q : Sg → Int → Prop} {X : Sg → String → Prop} (K : MC R p s m args c cX16_oneTurn 4 RX16 D cA tys A n0 s0 8 227 [(51, 60, 119, 829), (61, 116, 119, 829)]) (hQ : HQI p l e R s m args below meth c cX16_oneTurn D cA A n0 s0 QM dm ra jx rm Q) (hX : HX p l e R s m args below meth c 4 D cA A n0 s0 QM dm ra jx rm X) : ∀ (σ : Sg) (v1 : Int) (v2 : Int) (g1 : rng v1) (g2 : rng v2), w_X16_oneTurn_61 ra jx rm Q X σ v1 v2 → RG σ → Shp dm ra jx rm σ → JJ p l e R s m args below meth c 4 D cA A n0 s0 QM σ 61 [(0, .ref rm), (1, .int (i32 v1)), (2, .int (i32 v2))] [] := by
  intro σ v1 v2 g1 g2 h hGσ hS H locs ls hH hl hc
  have B := K.1
  unfold w_X16_oneTurn_61 at h
  refine lv_aload_n B.1 B.2.1 dX16_oneTurn_61 rfl (lv_at hl 0 rfl) ?_
  refine r_getp B hH hS 17 (by decide) wf_X16_356 rfl rfl dX16_oneTurn_62 ?_
  obtain ⟨a40, ea40, ja40, h⟩ := h
  refine W.eq (g2 := F0 m 65 ls [.ref a40]) (by rw [ea40]; rfl) ?_
  refine n_arr B hH hS ja40 2 (kd := 100) (n := 16) (by decide) (by decide) (List.mem_of_getElem? (i := 2) rfl) rfl dX16_oneTurn_65 ?_
  refine lv_aload_n B.1 B.2.1 dX16_oneTurn_68 rfl (lv_at hl 0 rfl) ?_
  refine r_arr B hH hS 38 (kd := 100) (n := 64) (by decide) (by decide) wf_X16_380 rfl rfl dX16_oneTurn_69 ?_
  refine lv_iload_n B.1 B.2.1 dX16_oneTurn_72 rfl (lv_at hl 2 rfl) ?_
  obtain ⟨q2, h⟩ := h
  refine x_iald B K.2.1 hH (hS.ar (k := 38) (kd := 100) (n := 64) (by decide)) (by decide) q2 dX16_oneTurn_73 ?_
  obtain ⟨q3, h⟩ := h
  refine x_iald B K.2.1 hH (hS.ja ja40 (k := 2) (kd := 100) (n := 16) (by decide)) (by decide) q3 dX16_oneTurn_74 ?_
  refine lv_if_ne (tgt := 86) B.1 B.2.1 dX16_oneTurn_75 (by decide) (fun h9 => ?_) (fun h9 => ?_)
  · rw [if_pos (fun q => h9 ((z_eq (hGσ _ _)).mpr q))] at h
    exact a_X16_oneTurn_86 K hQ hX _ _ _ g1 g2 h hGσ hS _ _ _ hH (lv_sub (l' := [(0, .ref rm), (1, .int (i32 v1)), (2, .int (i32 v2))]) hl [0, 1, 2] rfl) hc
  · rw [if_neg (fun q => q ((z_eq (hGσ _ _)).mp h9))] at h
    exact a_X16_oneTurn_78 K hQ hX _ _ _ g1 g2 h hGσ hS _ _ _ hH (lv_sub (l' := [(0, .ref rm), (1, .int (i32 v1)), (2, .int (i32 v2))]) hl [0, 1, 2] rfl) hc
set_option maxRecDepth 20000 in
theorem a_X16_oneTurn_60 {Q : Sg → Int → Prop} {X : Sg → String → Prop} (K : MC R p s m args c cX16_oneTurn 4 RX16 D cA tys A n0 s0 8 227 [(51, 60, 119, 829), (61, 116, 119, 829)]) (hQ : HQI p l e R s m args below meth c cX16_oneTurn D cA A n0 s0 QM dm ra jx rm Q) (hX : HX p l e R s m args below meth c 4 D cA A n0 s0 QM dm ra jx rm X) : ∀ (σ : Sg) (u0 : Int) (gu0 : rng u0), w_X16_oneTurn_60 ra jx rm Q X σ u0 → RG σ → Shp dm ra jx rm σ → JJ p l e R s m args below meth c 4 D cA A n0 s0 QM σ 60 [(0, .ref rm)] [.int (i32 u0)] := by
  intro σ u0 gu0 h hGσ hS H locs ls hH hl hc
  have B := K.1
  unfold w_X16_oneTurn_60 at h
  exact hQ _ _ _ _ _ _ gu0 dX16_oneTurn_60 hH hc h hGσ hS
set_option maxRecDepth 20000 in
theorem a_X16_oneTurn_59 {Q : Sg → Int → Prop} {X : Sg → String → Prop} (K : MC R p s m args c cX16_oneTurn 4 RX16 D cA tys A n0 s0 8 227 [(51, 60, 119, 829), (61, 116, 119, 829)]) (hQ : HQI p l e R s m args below meth c cX16_oneTurn D cA A n0 s0 QM dm ra jx rm Q) (hX : HX p l e R s m args below meth c 4 D cA A n0 s0 QM dm ra jx rm X) : ∀ (σ : Sg), w_X16_oneTurn_59 ra jx rm Q X σ → RG σ → Shp dm ra jx rm σ → JJ p l e R s m args below meth c 4 D cA A n0 s0 QM σ 59 [(0, .ref rm)] [] := by
  intro σ h hGσ hS H locs ls hH hl hc
  have B := K.1
  unfold w_X16_oneTurn_59 at h
  refine lv_iconst (v := i32 0) B.1 B.2.1 dX16_oneTurn_59 (by decide) ?_
  exact a_X16_oneTurn_60 K hQ hX _ _ (by unfold rng; omega) h hGσ hS _ _ _ hH (lv_sub (l' := [(0, .ref rm)]) hl [0] rfl) hc
set_option maxRecDepth 20000 in
theorem a_X16_oneTurn_51 {Q : Sg → Int → Prop} {X : Sg → String → Prop} (K : MC R p s m args c cX16_oneTurn 4 RX16 D cA tys A n0 s0 8 227 [(51, 60, 119, 829), (61, 116, 119, 829)]) (hQ : HQI p l e R s m args below meth c cX16_oneTurn D cA A n0 s0 QM dm ra jx rm Q) (hX : HX p l e R s m args below meth c 4 D cA A n0 s0 QM dm ra jx rm X) : ∀ (σ : Sg) (v1 : Int) (v2 : Int) (g1 : rng v1) (g2 : rng v2), w_X16_oneTurn_51 ra jx rm Q X σ v1 v2 → RG σ → Shp dm ra jx rm σ → JJ p l e R s m args below meth c 4 D cA A n0 s0 QM σ 51 [(0, .ref rm), (1, .int (i32 v1)), (2, .int (i32 v2))] [] := by
  intro σ v1 v2 g1 g2 h hGσ hS H locs ls hH hl hc
  have B := K.1
  unfold w_X16_oneTurn_51 at h
  refine lv_aload_n B.1 B.2.1 dX16_oneTurn_51 rfl (lv_at hl 0 rfl) ?_
  refine lv_iload_n B.1 B.2.1 dX16_oneTurn_52 rfl (lv_at hl 2 rfl) ?_
  refine c_V B hH hl hc K.2.2.1 (C := RX16) (T := TX16) (N := 123) (ci := 16) (As := [.int (i32 v2)]) (ok_X16_flush K.2.1 σ v2 g2 hGσ hS h) wc_X16_817 1 hd_X16_flush ⟨Nat.le_trans (Nat.le_of_ble_eq_true rfl) K.2.2.2.1, Nat.le_trans (Nat.le_of_ble_eq_true rfl) K.2.2.2.2.1⟩ hS.1.1 hS.1.2 (by decide) rfl rfl (rest := []) rfl (Nat.le_of_ble_eq_true rfl) dX16_oneTurn_53 (fun σ41 w hq => ?_) (fun σ9 E9 hx9 => (by obtain ⟨⟨rfl, h⟩, hG9, hS9⟩ := hx9; exact h_catchP B [] (K.2.2.2.2.2.trans rfl) rfl rfl (by decide) wl_X16_829 (by decide) (fun q9 H locs ls hH hl hc => a_X16_oneTurn_119 K hQ hX σ9 _ (some q9) g1 (h (some q9)) hG9 hS9 H locs ls hH (lv_sub (l' := [(0, .ref rm), (1, .int (i32 v1))]) hl [0, 1] rfl) hc)))
  obtain ⟨r42, rfl, ⟨gr42, gzr42⟩, h, hGσ41, hS⟩ := hq
  intro H locs ls hH hl hc
  refine W.eq (g2 := F0 m 56 ls [.int (i32 r42)]) (rfl) ?_
  try dsimp only at h
  refine lv_if_eq (tgt := 61) B.1 B.2.1 dX16_oneTurn_56 (by decide) (fun h9 => ?_) (fun h9 => ?_)
  · rw [if_pos ((z_eq gr42).mp h9)] at h
    exact a_X16_oneTurn_61 K hQ hX _ _ _ g1 g2 h hGσ41 hS _ _ _ hH (lv_sub (l' := [(0, .ref rm), (1, .int (i32 v1)), (2, .int (i32 v2))]) hl [0, 1, 2] rfl) hc
  · rw [if_neg (fun q => h9 ((z_eq gr42).mpr q))] at h
    exact a_X16_oneTurn_59 K hQ hX _ h hGσ41 hS _ _ _ hH (lv_sub (l' := [(0, .ref rm)]) hl [0] rfl) hc
set_option maxRecDepth 20000 in
theorem a_X16_oneTurn_0 {Q : Sg → Int → Prop} {X : Sg → String → Prop} (K : MC R p s m args c cX16_oneTurn 4 RX16 D cA tys A n0 s0 8 227 [(51, 60, 119, 829), (61, 116, 119, 829)]) (hQ : HQI p l e R s m args below meth c cX16_oneTurn D cA A n0 s0 QM dm ra jx rm Q) (hX : HX p l e R s m args below meth c 4 D cA A n0 s0 QM dm ra jx rm X) : ∀ (σ : Sg), w_X16_oneTurn_0 ra jx rm Q X σ → RG σ → Shp dm ra jx rm σ → JJ p l e R s m args below meth c 4 D cA A n0 s0 QM σ 0 [(0, .ref rm)] [] := by
  intro σ h hGσ hS H locs ls hH hl hc
  have B := K.1
  unfold w_X16_oneTurn_0 at h
  refine lv_aload_n B.1 B.2.1 dX16_oneTurn_0 rfl (lv_at hl 0 rfl) ?_
  refine r_geti B hH hS 27 (by decide) wf_X16_343 rfl rfl dX16_oneTurn_1 ?_
  refine lv_istore_n (lv' := [(1, .int (i32 (gI σ rm 27))), (0, .ref rm)]) B.1 B.2.1 dX16_oneTurn_4 rfl hl (by decide) rfl (fun ls hl => ?_)
  refine lv_aload_n B.1 B.2.1 dX16_oneTurn_5 rfl (lv_at hl 1 rfl) ?_
  refine lv_iconst (v := i32 0) B.1 B.2.1 dX16_oneTurn_6 (by decide) ?_
  obtain ⟨σ43, eσ43⟩ : ∃ z, z = pI σ rm 113 0 := ⟨_, rfl⟩
  have h := h σ43 eσ43
  refine r_puti B hH hS 113 (ty := .int) (by decide) wf_X16_766 rfl rfl rfl rfl rfl rfl dX16_oneTurn_7 (fun H locs hH => ?_)
  have hH : Hd D cA A s (pI σ rm 113 0) H locs := hH
  rw [← eσ43] at hH
  have hGσ43 : RG σ43 := by rw [eσ43]; exact hGσ.pI (by unfold rng; omega)
  have hS : Shp dm ra jx rm σ43 := by rw [eσ43]; exact hS
  have hc : CB n0 s0 σ43 := by rw [eσ43]; exact hc
  rw [show gc σ = gc σ43 by rw [eσ43], show gs σ = gs σ43 by rw [eσ43]]
  refine lv_aload_n B.1 B.2.1 dX16_oneTurn_10 rfl (lv_at hl 1 rfl) ?_
  refine lv_dup B.1 B.2.1 dX16_oneTurn_11 rfl ?_
  refine r_getl B hH hS 110 (by decide) wf_X16_807 rfl rfl dX16_oneTurn_12 ?_
  refine lv_lconst (v := 1) B.1 B.2.1 dX16_oneTurn_15 (by decide) ?_
  refine lv_ladd B.1 B.2.1 dX16_oneTurn_16 ?_
  obtain ⟨σ44, eσ44⟩ : ∃ z, z = pJ σ43 rm 110 (gJ σ43 rm 110 + 1) := ⟨_, rfl⟩
  have h := h σ44 eσ44
  refine r_putl B hH hS 110 (by decide) wf_X16_807 rfl rfl rfl rfl dX16_oneTurn_17 (fun H locs hH => ?_)
  have hH : Hd D cA A s (pJ σ43 rm 110 (gJ σ43 rm 110 + 1)) H locs := hH
  rw [← eσ44] at hH
  have hGσ44 : RG σ44 := by rw [eσ44]; exact hGσ43.pJ
  have hS : Shp dm ra jx rm σ44 := by rw [eσ44]; exact hS
  have hc : CB n0 s0 σ44 := by rw [eσ44]; exact hc
  rw [show gc σ43 = gc σ44 by rw [eσ44], show gs σ43 = gs σ44 by rw [eσ44]]
  refine lv_aload_n B.1 B.2.1 dX16_oneTurn_20 rfl (lv_at hl 1 rfl) ?_
  refine lv_aload_n B.1 B.2.1 dX16_oneTurn_21 rfl (lv_at hl 1 rfl) ?_
  refine r_getl B hH hS 35 (by decide) wf_X16_810 rfl rfl dX16_oneTurn_22 ?_
  refine lv_ldc2 B.1 B.2.1 B.2.2.1 (B.2.2.2.1 _ (wk_X16_813)) dX16_oneTurn_25 ?_
  refine lv_lmul B.1 B.2.1 dX16_oneTurn_28 ?_
  refine lv_ldc2 B.1 B.2.1 B.2.2.1 (B.2.2.2.1 _ (wk_X16_815)) dX16_oneTurn_29 ?_
  refine lv_ladd B.1 B.2.1 dX16_oneTurn_32 ?_
  obtain ⟨σ45, eσ45⟩ : ∃ z, z = pJ σ44 rm 35 ((gJ σ44 rm 35 * 6364136223846793005) + 1442695040888963407) := ⟨_, rfl⟩
  have h := h σ45 eσ45
  refine r_putl B hH hS 35 (by decide) wf_X16_810 rfl rfl rfl rfl dX16_oneTurn_33 (fun H locs hH => ?_)
  have hH : Hd D cA A s (pJ σ44 rm 35 ((gJ σ44 rm 35 * 6364136223846793005) + 1442695040888963407)) H locs := hH
  rw [← eσ45] at hH
  have hGσ45 : RG σ45 := by rw [eσ45]; exact hGσ44.pJ
  have hS : Shp dm ra jx rm σ45 := by rw [eσ45]; exact hS
  have hc : CB n0 s0 σ45 := by rw [eσ45]; exact hc
  rw [show gc σ44 = gc σ45 by rw [eσ45], show gs σ44 = gs σ45 by rw [eσ45]]
  refine lv_aload_n B.1 B.2.1 dX16_oneTurn_36 rfl (lv_at hl 1 rfl) ?_
  refine r_getl B hH hS 35 (by decide) wf_X16_810 rfl rfl dX16_oneTurn_37 ?_
  refine lv_bipush (v := i32 33) B.1 B.2.1 dX16_oneTurn_40 (by decide) ?_
  refine lv_lushr B.1 B.2.1 dX16_oneTurn_42 rfl ?_
  refine lv_aload_n B.1 B.2.1 dX16_oneTurn_43 rfl (lv_at hl 1 rfl) ?_
  refine r_geti B hH hS 36 (by decide) wf_X16_399 rfl rfl dX16_oneTurn_44 ?_
  refine lv_i2l B.1 B.2.1 dX16_oneTurn_47 (i32_i64 (hGσ45 _ _)) ?_
  obtain ⟨q4, h⟩ := h
  refine lv_lrem B.1 B.2.1 dX16_oneTurn_48 q4 ?_
  refine lv_l2i B.1 B.2.1 dX16_oneTurn_49 rfl ?_
  refine W.eq (g2 := F0 m 50 ls [.int (i32 (((((gJ σ45 rm 35).toUInt64 >>> ((i32 33).toInt64.toUInt64 &&& Int64.toUInt64 63)).toInt64 - ((gJ σ45 rm 35).toUInt64 >>> ((i32 33).toInt64.toUInt64 &&& Int64.toUInt64 63)).toInt64 / (Int64.ofInt (gI σ45 rm 36)) * (Int64.ofInt (gI σ45 rm 36)))).toInt32.toInt))]) (by simp only [i32_self]) ?_
  refine lv_istore_n (lv' := [(2, .int (i32 (((((gJ σ45 rm 35).toUInt64 >>> ((i32 33).toInt64.toUInt64 &&& Int64.toUInt64 63)).toInt64 - ((gJ σ45 rm 35).toUInt64 >>> ((i32 33).toInt64.toUInt64 &&& Int64.toUInt64 63)).toInt64 / (Int64.ofInt (gI σ45 rm 36)) * (Int64.ofInt (gI σ45 rm 36)))).toInt32.toInt))), (1, .int (i32 (gI σ rm 27))), (0, .ref rm)]) B.1 B.2.1 dX16_oneTurn_50 rfl hl (by decide) rfl (fun ls hl => ?_)
  exact a_X16_oneTurn_51 K hQ hX _ _ _ (hGσ _ _) (rng_toInt _) h hGσ45 hS _ _ _ hH (lv_sub (l' := [(0, .ref rm), (1, .int (i32 (gI σ rm 27))), (2, .int (i32 (((((gJ σ45 rm 35).toUInt64 >>> ((i32 33).toInt64.toUInt64 &&& Int64.toUInt64 63)).toInt64 - ((gJ σ45 rm 35).toUInt64 >>> ((i32 33).toInt64.toUInt64 &&& Int64.toUInt64 63)).toInt64 / (Int64.ofInt (gI σ45 rm 36)) * (Int64.ofInt (gI σ45 rm 36)))).toInt32.toInt)))]) hl [2, 1, 0] rfl) hc
theorem ok_X16_oneTurn (hT : Tys cA tys) {Q : Sg → Int → Prop} {X : Sg → String → Prop} (σ : Sg) (hG : RG σ) (hS : Shp dm ra jx rm σ) (h : wp_X16_oneTurn ra jx rm σ Q X) : Ok l D cA tys A yX16_oneTurn (.codeWith yX16_oneTurn cX16_oneTurn 4 (some .int) [(51, 60, 119, 829), (61, 116, 119, 829)]) 8 227 [.ref rm] σ (QnI dm ra jx rm Q) (QxR dm ra jx rm X) := by
  unfold wp_X16_oneTurn at h
  exact ok_IH (by decide) (plainFor_of_name (by decide)) (by exact Nat.le_of_ble_eq_true rfl) hT (fun p e R s m args below meth c K hQ hX H locs ls hH hl hc => a_X16_oneTurn_0 K hQ hX σ h hG hS H locs ls hH (lv_sub (l' := [(0, .ref rm)]) hl [0] rfl) hc)
theorem dX16_operator__0 : decode cX16_operator_ 0 = .ok (.aload_n 0, 1) := by decide +kernel
theorem dX16_operator__1 : decode cX16_operator_ 1 = .ok (.aload_n 0, 1) := by decide +kernel
theorem dX16_operator__2 : decode cX16_operator_ 2 = .ok (.getfield 356, 3) := by decide +kernel
theorem dX16_operator__5 : decode cX16_operator_ 5 = .ok (.ifnull 22, 3) := by decide +kernel
theorem dX16_operator__8 : decode cX16_operator_ 8 = .ok (.iload_n 1, 1) := by decide +kernel
theorem dX16_operator__9 : decode cX16_operator_ 9 = .ok (.i2l, 1) := by decide +kernel
theorem dX16_operator__10 : decode cX16_operator_ 10 = .ok (.lconst 0, 1) := by decide +kernel
theorem dX16_operator__11 : decode cX16_operator_ 11 = .ok (.aload_n 0, 1) := by decide +kernel
theorem dX16_operator__12 : decode cX16_operator_ 12 = .ok (.getfield 356, 3) := by decide +kernel
theorem dX16_operator__15 : decode cX16_operator_ 15 = .ok (.getfield 316, 3) := by decide +kernel
theorem dX16_operator__18 : decode cX16_operator_ 18 = .ok (.iconst 1, 1) := by decide +kernel
theorem dX16_operator__19 : decode cX16_operator_ 19 = .ok (.isub, 1) := by decide +kernel
theorem dX16_operator__20 : decode cX16_operator_ 20 = .ok (.i2l, 1) := by decide +kernel
theorem dX16_operator__21 : decode cX16_operator_ 21 = .ok (.invokestatic 45, 3) := by decide +kernel
theorem dX16_operator__24 : decode cX16_operator_ 24 = .ok (.ifCond .ne 7, 3) := by decide +kernel
theorem dX16_operator__27 : decode cX16_operator_ 27 = .ok (.iconst 1, 1) := by decide +kernel
theorem dX16_operator__28 : decode cX16_operator_ 28 = .ok (.goto 20, 3) := by decide +kernel
theorem dX16_operator__31 : decode cX16_operator_ 31 = .ok (.iload_n 2, 1) := by decide +kernel
theorem dX16_operator__32 : decode cX16_operator_ 32 = .ok (.i2l, 1) := by decide +kernel
theorem dX16_operator__33 : decode cX16_operator_ 33 = .ok (.lconst 0, 1) := by decide +kernel
theorem dX16_operator__34 : decode cX16_operator_ 34 = .ok (.ldc2_w 982, 3) := by decide +kernel
theorem dX16_operator__37 : decode cX16_operator_ 37 = .ok (.invokestatic 45, 3) := by decide +kernel
theorem dX16_operator__40 : decode cX16_operator_ 40 = .ok (.ifCond .ne 7, 3) := by decide +kernel
theorem dX16_operator__43 : decode cX16_operator_ 43 = .ok (.iconst 2, 1) := by decide +kernel
theorem dX16_operator__44 : decode cX16_operator_ 44 = .ok (.goto 4, 3) := by decide +kernel
theorem dX16_operator__47 : decode cX16_operator_ 47 = .ok (.iconst 0, 1) := by decide +kernel
theorem dX16_operator__48 : decode cX16_operator_ 48 = .ok (.putfield 1, 3) := by decide +kernel
theorem dX16_operator__51 : decode cX16_operator_ 51 = .ok (.aload_n 0, 1) := by decide +kernel
theorem dX16_operator__52 : decode cX16_operator_ 52 = .ok (.getfield 1, 3) := by decide +kernel
theorem dX16_operator__55 : decode cX16_operator_ 55 = .ok (.ifCond .le 5, 3) := by decide +kernel
theorem dX16_operator__58 : decode cX16_operator_ 58 = .ok (.lconst 0, 1) := by decide +kernel
theorem dX16_operator__59 : decode cX16_operator_ 59 = .ok (.lreturn, 1) := by decide +kernel
theorem dX16_operator__60 : decode cX16_operator_ 60 = .ok (.iload_n 2, 1) := by decide +kernel
theorem dX16_operator__61 : decode cX16_operator_ 61 = .ok (.ifCond .ne 16, 3) := by decide +kernel
theorem dX16_operator__64 : decode cX16_operator_ 64 = .ok (.aload_n 0, 1) := by decide +kernel
theorem dX16_operator__65 : decode cX16_operator_ 65 = .ok (.getfield 356, 3) := by decide +kernel
theorem dX16_operator__68 : decode cX16_operator_ 68 = .ok (.getfield 246, 3) := by decide +kernel
theorem dX16_operator__71 : decode cX16_operator_ 71 = .ok (.iload_n 1, 1) := by decide +kernel
theorem dX16_operator__72 : decode cX16_operator_ 72 = .ok (.iaload, 1) := by decide +kernel
theorem dX16_operator__73 : decode cX16_operator_ 73 = .ok (.i2l, 1) := by decide +kernel
theorem dX16_operator__74 : decode cX16_operator_ 74 = .ok (.goto 92, 3) := by decide +kernel
theorem dX16_operator__77 : decode cX16_operator_ 77 = .ok (.iload_n 2, 1) := by decide +kernel
theorem dX16_operator__78 : decode cX16_operator_ 78 = .ok (.iconst 1, 1) := by decide +kernel
theorem dX16_operator__79 : decode cX16_operator_ 79 = .ok (.if_icmp .ne 16, 3) := by decide +kernel
theorem dX16_operator__82 : decode cX16_operator_ 82 = .ok (.aload_n 0, 1) := by decide +kernel
theorem dX16_operator__83 : decode cX16_operator_ 83 = .ok (.getfield 356, 3) := by decide +kernel
theorem dX16_operator__86 : decode cX16_operator_ 86 = .ok (.getfield 216, 3) := by decide +kernel
theorem dX16_operator__89 : decode cX16_operator_ 89 = .ok (.iload_n 1, 1) := by decide +kernel
theorem dX16_operator__90 : decode cX16_operator_ 90 = .ok (.iaload, 1) := by decide +kernel
theorem dX16_operator__91 : decode cX16_operator_ 91 = .ok (.i2l, 1) := by decide +kernel
theorem dX16_operator__92 : decode cX16_operator_ 92 = .ok (.goto 74, 3) := by decide +kernel
theorem dX16_operator__95 : decode cX16_operator_ 95 = .ok (.iload_n 2, 1) := by decide +kernel
theorem dX16_operator__96 : decode cX16_operator_ 96 = .ok (.iconst 2, 1) := by decide +kernel
theorem dX16_operator__97 : decode cX16_operator_ 97 = .ok (.if_icmp .ne 16, 3) := by decide +kernel
theorem dX16_operator__100 : decode cX16_operator_ 100 = .ok (.aload_n 0, 1) := by decide +kernel
theorem dX16_operator__101 : decode cX16_operator_ 101 = .ok (.getfield 356, 3) := by decide +kernel
theorem dX16_operator__104 : decode cX16_operator_ 104 = .ok (.getfield 231, 3) := by decide +kernel
theorem dX16_operator__107 : decode cX16_operator_ 107 = .ok (.iload_n 1, 1) := by decide +kernel
theorem dX16_operator__108 : decode cX16_operator_ 108 = .ok (.iaload, 1) := by decide +kernel
theorem dX16_operator__109 : decode cX16_operator_ 109 = .ok (.i2l, 1) := by decide +kernel
theorem dX16_operator__110 : decode cX16_operator_ 110 = .ok (.goto 56, 3) := by decide +kernel
theorem dX16_operator__113 : decode cX16_operator_ 113 = .ok (.iload_n 2, 1) := by decide +kernel
theorem dX16_operator__114 : decode cX16_operator_ 114 = .ok (.iconst 3, 1) := by decide +kernel
theorem dX16_operator__115 : decode cX16_operator_ 115 = .ok (.if_icmp .ne 16, 3) := by decide +kernel
theorem dX16_operator__118 : decode cX16_operator_ 118 = .ok (.aload_n 0, 1) := by decide +kernel
theorem dX16_operator__119 : decode cX16_operator_ 119 = .ok (.getfield 356, 3) := by decide +kernel
theorem dX16_operator__122 : decode cX16_operator_ 122 = .ok (.getfield 178, 3) := by decide +kernel
theorem dX16_operator__125 : decode cX16_operator_ 125 = .ok (.iload_n 1, 1) := by decide +kernel
theorem dX16_operator__126 : decode cX16_operator_ 126 = .ok (.iaload, 1) := by decide +kernel
theorem dX16_operator__127 : decode cX16_operator_ 127 = .ok (.i2l, 1) := by decide +kernel
theorem dX16_operator__128 : decode cX16_operator_ 128 = .ok (.goto 38, 3) := by decide +kernel
theorem dX16_operator__131 : decode cX16_operator_ 131 = .ok (.iload_n 2, 1) := by decide +kernel
theorem dX16_operator__132 : decode cX16_operator_ 132 = .ok (.iconst 4, 1) := by decide +kernel
theorem dX16_operator__133 : decode cX16_operator_ 133 = .ok (.isub, 1) := by decide +kernel
theorem dX16_operator__134 : decode cX16_operator_ 134 = .ok (.aload_n 0, 1) := by decide +kernel
theorem dX16_operator__135 : decode cX16_operator_ 135 = .ok (.getfield 356, 3) := by decide +kernel
theorem dX16_operator__138 : decode cX16_operator_ 138 = .ok (.getfield 178, 3) := by decide +kernel
theorem dX16_operator__141 : decode cX16_operator_ 141 = .ok (.iload_n 1, 1) := by decide +kernel
theorem dX16_operator__142 : decode cX16_operator_ 142 = .ok (.iaload, 1) := by decide +kernel
theorem dX16_operator__143 : decode cX16_operator_ 143 = .ok (.if_icmp .ge 22, 3) := by decide +kernel
theorem dX16_operator__146 : decode cX16_operator_ 146 = .ok (.aload_n 0, 1) := by decide +kernel
theorem dX16_operator__147 : decode cX16_operator_ 147 = .ok (.getfield 356, 3) := by decide +kernel
theorem dX16_operator__150 : decode cX16_operator_ 150 = .ok (.getfield 228, 3) := by decide +kernel
theorem dX16_operator__153 : decode cX16_operator_ 153 = .ok (.bipush 9, 2) := by decide +kernel
theorem dX16_operator__155 : decode cX16_operator_ 155 = .ok (.iload_n 1, 1) := by decide +kernel
theorem dX16_operator__156 : decode cX16_operator_ 156 = .ok (.imul, 1) := by decide +kernel
theorem dX16_operator__157 : decode cX16_operator_ 157 = .ok (.iload_n 2, 1) := by decide +kernel
theorem dX16_operator__158 : decode cX16_operator_ 158 = .ok (.iadd, 1) := by decide +kernel
theorem dX16_operator__159 : decode cX16_operator_ 159 = .ok (.iconst 4, 1) := by decide +kernel
theorem dX16_operator__160 : decode cX16_operator_ 160 = .ok (.isub, 1) := by decide +kernel
theorem dX16_operator__161 : decode cX16_operator_ 161 = .ok (.laload, 1) := by decide +kernel
theorem dX16_operator__162 : decode cX16_operator_ 162 = .ok (.goto 4, 3) := by decide +kernel
theorem dX16_operator__165 : decode cX16_operator_ 165 = .ok (.lconst 0, 1) := by decide +kernel
theorem dX16_operator__166 : decode cX16_operator_ 166 = .ok (.lreturn, 1) := by decide +kernel
set_option maxRecDepth 20000 in
theorem a_X16_operator__166 {Q : Sg → Int64 → Prop} {X : Sg → String → Prop} (K : MC R p s m args c cX16_operator_ 3 RX16 D cA tys A n0 s0 1 25 []) (hQ : HQJ p l e R s m args below meth c cX16_operator_ D cA A n0 s0 QM dm ra jx rm Q) (hX : HX p l e R s m args below meth c 3 D cA A n0 s0 QM dm ra jx rm X) : ∀ (σ : Sg) (u0 : Int64), w_X16_operator__166 ra jx rm Q X σ u0 → RG σ → Shp dm ra jx rm σ → JJ p l e R s m args below meth c 3 D cA A n0 s0 QM σ 166 [(0, .ref rm)] [.long u0] := by
  intro σ u0 h hGσ hS H locs ls hH hl hc
  have B := K.1
  unfold w_X16_operator__166 at h
  exact hQ _ _ _ _ _ _ dX16_operator__166 hH hc h hGσ hS
set_option maxRecDepth 20000 in
theorem a_X16_operator__165 {Q : Sg → Int64 → Prop} {X : Sg → String → Prop} (K : MC R p s m args c cX16_operator_ 3 RX16 D cA tys A n0 s0 1 25 []) (hQ : HQJ p l e R s m args below meth c cX16_operator_ D cA A n0 s0 QM dm ra jx rm Q) (hX : HX p l e R s m args below meth c 3 D cA A n0 s0 QM dm ra jx rm X) : ∀ (σ : Sg), w_X16_operator__165 ra jx rm Q X σ → RG σ → Shp dm ra jx rm σ → JJ p l e R s m args below meth c 3 D cA A n0 s0 QM σ 165 [(0, .ref rm)] [] := by
  intro σ h hGσ hS H locs ls hH hl hc
  have B := K.1
  unfold w_X16_operator__165 at h
  refine lv_lconst (v := 0) B.1 B.2.1 dX16_operator__165 (by decide) ?_
  exact a_X16_operator__166 K hQ hX _ _ h hGσ hS _ _ _ hH (lv_sub (l' := [(0, .ref rm)]) hl [0] rfl) hc
set_option maxRecDepth 20000 in
theorem a_X16_operator__146 {Q : Sg → Int64 → Prop} {X : Sg → String → Prop} (K : MC R p s m args c cX16_operator_ 3 RX16 D cA tys A n0 s0 1 25 []) (hQ : HQJ p l e R s m args below meth c cX16_operator_ D cA A n0 s0 QM dm ra jx rm Q) (hX : HX p l e R s m args below meth c 3 D cA A n0 s0 QM dm ra jx rm X) : ∀ (σ : Sg) (v1 : Int) (v2 : Int) (g1 : rng v1) (g2 : rng v2), w_X16_operator__146 ra jx rm Q X σ v1 v2 → RG σ → Shp dm ra jx rm σ → JJ p l e R s m args below meth c 3 D cA A n0 s0 QM σ 146 [(0, .ref rm), (1, .int (i32 v1)), (2, .int (i32 v2))] [] := by
  intro σ v1 v2 g1 g2 h hGσ hS H locs ls hH hl hc
  have B := K.1
  unfold w_X16_operator__146 at h
  refine lv_aload_n B.1 B.2.1 dX16_operator__146 rfl (lv_at hl 0 rfl) ?_
  refine r_getp B hH hS 17 (by decide) wf_X16_356 rfl rfl dX16_operator__147 ?_
  obtain ⟨a25, ea25, ja25, h⟩ := h
  refine W.eq (g2 := F0 m 150 ls [.ref a25]) (by rw [ea25]; rfl) ?_
  refine n_arr B hH hS ja25 7 (kd := 101) (n := 144) (by decide) (by decide) (List.mem_of_getElem? (i := 7) rfl) rfl dX16_operator__150 ?_
  refine lv_bipush (v := i32 9) B.1 B.2.1 dX16_operator__153 (by decide) ?_
  refine lv_iload_n B.1 B.2.1 dX16_operator__155 rfl (lv_at hl 1 rfl) ?_
  obtain ⟨q2, h⟩ := h
  refine lv_imul B.1 B.2.1 dX16_operator__156 ?_
  rw [i32_mul]
  refine lv_iload_n B.1 B.2.1 dX16_operator__157 rfl (lv_at hl 2 rfl) ?_
  obtain ⟨q3, h⟩ := h
  refine lv_iadd B.1 B.2.1 dX16_operator__158 ?_
  rw [i32_add]
  refine lv_iconst (v := i32 4) B.1 B.2.1 dX16_operator__159 (by decide) ?_
  obtain ⟨q4, h⟩ := h
  refine lv_isub B.1 B.2.1 dX16_operator__160 ?_
  rw [i32_sub]
  obtain ⟨q5, h⟩ := h
  refine x_lald B K.2.1 hH (hS.ja ja25 (k := 7) (kd := 101) (n := 144) (by decide)) (by decide) q5 dX16_operator__161 ?_
  refine lv_goto (tgt := 166) B.1 B.2.1 dX16_operator__162 (by decide) ?_
  exact a_X16_operator__166 K hQ hX _ _ h hGσ hS _ _ _ hH (lv_sub (l' := [(0, .ref rm)]) hl [0] rfl) hc
set_option maxRecDepth 20000 in
theorem a_X16_operator__131 {Q : Sg → Int64 → Prop} {X : Sg → String → Prop} (K : MC R p s m args c cX16_operator_ 3 RX16 D cA tys A n0 s0 1 25 []) (hQ : HQJ p l e R s m args below meth c cX16_operator_ D cA A n0 s0 QM dm ra jx rm Q) (hX : HX p l e R s m args below meth c 3 D cA A n0 s0 QM dm ra jx rm X) : ∀ (σ : Sg) (v1 : Int) (v2 : Int) (g1 : rng v1) (g2 : rng v2), w_X16_operator__131 ra jx rm Q X σ v1 v2 → RG σ → Shp dm ra jx rm σ → JJ p l e R s m args below meth c 3 D cA A n0 s0 QM σ 131 [(0, .ref rm), (1, .int (i32 v1)), (2, .int (i32 v2))] [] := by
  intro σ v1 v2 g1 g2 h hGσ hS H locs ls hH hl hc
  have B := K.1
  unfold w_X16_operator__131 at h
  refine lv_iload_n B.1 B.2.1 dX16_operator__131 rfl (lv_at hl 2 rfl) ?_
  refine lv_iconst (v := i32 4) B.1 B.2.1 dX16_operator__132 (by decide) ?_
  obtain ⟨q1, h⟩ := h
  refine lv_isub B.1 B.2.1 dX16_operator__133 ?_
  rw [i32_sub]
  refine lv_aload_n B.1 B.2.1 dX16_operator__134 rfl (lv_at hl 0 rfl) ?_
  refine r_getp B hH hS 17 (by decide) wf_X16_356 rfl rfl dX16_operator__135 ?_
  obtain ⟨a26, ea26, ja26, h⟩ := h
  refine W.eq (g2 := F0 m 138 ls [.ref a26, .int (i32 (v2 - 4))]) (by rw [ea26]; rfl) ?_
  refine n_arr B hH hS ja26 6 (kd := 100) (n := 16) (by decide) (by decide) (List.mem_of_getElem? (i := 6) rfl) rfl dX16_operator__138 ?_
  refine lv_iload_n B.1 B.2.1 dX16_operator__141 rfl (lv_at hl 1 rfl) ?_
  obtain ⟨q3, h⟩ := h
  refine x_iald B K.2.1 hH (hS.ja ja26 (k := 6) (kd := 100) (n := 16) (by decide)) (by decide) q3 dX16_operator__142 ?_
  refine lv_icmp_ge (tgt := 165) B.1 B.2.1 dX16_operator__143 (by decide) (fun h9 => ?_) (fun h9 => ?_)
  · rw [if_pos ((i32_le (hGσ _ _) q1).mp h9)] at h
    exact a_X16_operator__165 K hQ hX _ h hGσ hS _ _ _ hH (lv_sub (l' := [(0, .ref rm)]) hl [0] rfl) hc
  · rw [if_neg (fun q => h9 ((i32_le (hGσ _ _) q1).mpr q))] at h
    exact a_X16_operator__146 K hQ hX _ _ _ g1 g2 h hGσ hS _ _ _ hH (lv_sub (l' := [(0, .ref rm), (1, .int (i32 v1)), (2, .int (i32 v2))]) hl [0, 1, 2] rfl) hc
set_option maxRecDepth 20000 in
theorem a_X16_operator__118 {Q : Sg → Int64 → Prop} {X : Sg → String → Prop} (K : MC R p s m args c cX16_operator_ 3 RX16 D cA tys A n0 s0 1 25 []) (hQ : HQJ p l e R s m args below meth c cX16_operator_ D cA A n0 s0 QM dm ra jx rm Q) (hX : HX p l e R s m args below meth c 3 D cA A n0 s0 QM dm ra jx rm X) : ∀ (σ : Sg) (v1 : Int) (g1 : rng v1), w_X16_operator__118 ra jx rm Q X σ v1 → RG σ → Shp dm ra jx rm σ → JJ p l e R s m args below meth c 3 D cA A n0 s0 QM σ 118 [(0, .ref rm), (1, .int (i32 v1))] [] := by
  intro σ v1 g1 h hGσ hS H locs ls hH hl hc
  have B := K.1
  unfold w_X16_operator__118 at h
  refine lv_aload_n B.1 B.2.1 dX16_operator__118 rfl (lv_at hl 0 rfl) ?_
  refine r_getp B hH hS 17 (by decide) wf_X16_356 rfl rfl dX16_operator__119 ?_
  obtain ⟨a27, ea27, ja27, h⟩ := h
  refine W.eq (g2 := F0 m 122 ls [.ref a27]) (by rw [ea27]; rfl) ?_
  refine n_arr B hH hS ja27 6 (kd := 100) (n := 16) (by decide) (by decide) (List.mem_of_getElem? (i := 6) rfl) rfl dX16_operator__122 ?_
  refine lv_iload_n B.1 B.2.1 dX16_operator__125 rfl (lv_at hl 1 rfl) ?_
  obtain ⟨q2, h⟩ := h
  refine x_iald B K.2.1 hH (hS.ja ja27 (k := 6) (kd := 100) (n := 16) (by decide)) (by decide) q2 dX16_operator__126 ?_
  refine lv_i2l B.1 B.2.1 dX16_operator__127 (i32_i64 (hGσ _ _)) ?_
  refine lv_goto (tgt := 166) B.1 B.2.1 dX16_operator__128 (by decide) ?_
  exact a_X16_operator__166 K hQ hX _ _ h hGσ hS _ _ _ hH (lv_sub (l' := [(0, .ref rm)]) hl [0] rfl) hc
set_option maxRecDepth 20000 in
theorem a_X16_operator__113 {Q : Sg → Int64 → Prop} {X : Sg → String → Prop} (K : MC R p s m args c cX16_operator_ 3 RX16 D cA tys A n0 s0 1 25 []) (hQ : HQJ p l e R s m args below meth c cX16_operator_ D cA A n0 s0 QM dm ra jx rm Q) (hX : HX p l e R s m args below meth c 3 D cA A n0 s0 QM dm ra jx rm X) : ∀ (σ : Sg) (v1 : Int) (v2 : Int) (g1 : rng v1) (g2 : rng v2), w_X16_operator__113 ra jx rm Q X σ v1 v2 → RG σ → Shp dm ra jx rm σ → JJ p l e R s m args below meth c 3 D cA A n0 s0 QM σ 113 [(0, .ref rm), (1, .int (i32 v1)), (2, .int (i32 v2))] [] := by
  intro σ v1 v2 g1 g2 h hGσ hS H locs ls hH hl hc
  have B := K.1
  unfold w_X16_operator__113 at h
  refine lv_iload_n B.1 B.2.1 dX16_operator__113 rfl (lv_at hl 2 rfl) ?_
  refine lv_iconst (v := i32 3) B.1 B.2.1 dX16_operator__114 (by decide) ?_
  refine lv_icmp_ne (tgt := 131) B.1 B.2.1 dX16_operator__115 (by decide) (fun h9 => ?_) (fun h9 => ?_)
  · rw [if_pos (fun q => h9 ((i32_eq g2 (by unfold rng; omega)).mpr q))] at h
    exact a_X16_operator__131 K hQ hX _ _ _ g1 g2 h hGσ hS _ _ _ hH (lv_sub (l' := [(0, .ref rm), (1, .int (i32 v1)), (2, .int (i32 v2))]) hl [0, 1, 2] rfl) hc
  · rw [if_neg (fun q => q ((i32_eq g2 (by unfold rng; omega)).mp h9))] at h
    exact a_X16_operator__118 K hQ hX _ _ g1 h hGσ hS _ _ _ hH (lv_sub (l' := [(0, .ref rm), (1, .int (i32 v1))]) hl [0, 1] rfl) hc
set_option maxRecDepth 20000 in
theorem a_X16_operator__100 {Q : Sg → Int64 → Prop} {X : Sg → String → Prop} (K : MC R p s m args c cX16_operator_ 3 RX16 D cA tys A n0 s0 1 25 []) (hQ : HQJ p l e R s m args below meth c cX16_operator_ D cA A n0 s0 QM dm ra jx rm Q) (hX : HX p l e R s m args below meth c 3 D cA A n0 s0 QM dm ra jx rm X) : ∀ (σ : Sg) (v1 : Int) (g1 : rng v1), w_X16_operator__100 ra jx rm Q X σ v1 → RG σ → Shp dm ra jx rm σ → JJ p l e R s m args below meth c 3 D cA A n0 s0 QM σ 100 [(0, .ref rm), (1, .int (i32 v1))] [] := by
  intro σ v1 g1 h hGσ hS H locs ls hH hl hc
  have B := K.1
  unfold w_X16_operator__100 at h
  refine lv_aload_n B.1 B.2.1 dX16_operator__100 rfl (lv_at hl 0 rfl) ?_
  refine r_getp B hH hS 17 (by decide) wf_X16_356 rfl rfl dX16_operator__101 ?_
  obtain ⟨a28, ea28, ja28, h⟩ := h
  refine W.eq (g2 := F0 m 104 ls [.ref a28]) (by rw [ea28]; rfl) ?_
  refine n_arr B hH hS ja28 5 (kd := 100) (n := 16) (by decide) (by decide) (List.mem_of_getElem? (i := 5) rfl) rfl dX16_operator__104 ?_
  refine lv_iload_n B.1 B.2.1 dX16_operator__107 rfl (lv_at hl 1 rfl) ?_
  obtain ⟨q2, h⟩ := h
  refine x_iald B K.2.1 hH (hS.ja ja28 (k := 5) (kd := 100) (n := 16) (by decide)) (by decide) q2 dX16_operator__108 ?_
  refine lv_i2l B.1 B.2.1 dX16_operator__109 (i32_i64 (hGσ _ _)) ?_
  refine lv_goto (tgt := 166) B.1 B.2.1 dX16_operator__110 (by decide) ?_
  exact a_X16_operator__166 K hQ hX _ _ h hGσ hS _ _ _ hH (lv_sub (l' := [(0, .ref rm)]) hl [0] rfl) hc
set_option maxRecDepth 20000 in
theorem a_X16_operator__95 {Q : Sg → Int64 → Prop} {X : Sg → String → Prop} (K : MC R p s m args c cX16_operator_ 3 RX16 D cA tys A n0 s0 1 25 []) (hQ : HQJ p l e R s m args below meth c cX16_operator_ D cA A n0 s0 QM dm ra jx rm Q) (hX : HX p l e R s m args below meth c 3 D cA A n0 s0 QM dm ra jx rm X) : ∀ (σ : Sg) (v1 : Int) (v2 : Int) (g1 : rng v1) (g2 : rng v2), w_X16_operator__95 ra jx rm Q X σ v1 v2 → RG σ → Shp dm ra jx rm σ → JJ p l e R s m args below meth c 3 D cA A n0 s0 QM σ 95 [(0, .ref rm), (1, .int (i32 v1)), (2, .int (i32 v2))] [] := by
  intro σ v1 v2 g1 g2 h hGσ hS H locs ls hH hl hc
  have B := K.1
  unfold w_X16_operator__95 at h
  refine lv_iload_n B.1 B.2.1 dX16_operator__95 rfl (lv_at hl 2 rfl) ?_
  refine lv_iconst (v := i32 2) B.1 B.2.1 dX16_operator__96 (by decide) ?_
  refine lv_icmp_ne (tgt := 113) B.1 B.2.1 dX16_operator__97 (by decide) (fun h9 => ?_) (fun h9 => ?_)
  · rw [if_pos (fun q => h9 ((i32_eq g2 (by unfold rng; omega)).mpr q))] at h
    exact a_X16_operator__113 K hQ hX _ _ _ g1 g2 h hGσ hS _ _ _ hH (lv_sub (l' := [(0, .ref rm), (1, .int (i32 v1)), (2, .int (i32 v2))]) hl [0, 1, 2] rfl) hc
  · rw [if_neg (fun q => q ((i32_eq g2 (by unfold rng; omega)).mp h9))] at h
    exact a_X16_operator__100 K hQ hX _ _ g1 h hGσ hS _ _ _ hH (lv_sub (l' := [(0, .ref rm), (1, .int (i32 v1))]) hl [0, 1] rfl) hc
set_option maxRecDepth 20000 in
theorem a_X16_operator__82 {Q : Sg → Int64 → Prop} {X : Sg → String → Prop} (K : MC R p s m args c cX16_operator_ 3 RX16 D cA tys A n0 s0 1 25 []) (hQ : HQJ p l e R s m args below meth c cX16_operator_ D cA A n0 s0 QM dm ra jx rm Q) (hX : HX p l e R s m args below meth c 3 D cA A n0 s0 QM dm ra jx rm X) : ∀ (σ : Sg) (v1 : Int) (g1 : rng v1), w_X16_operator__82 ra jx rm Q X σ v1 → RG σ → Shp dm ra jx rm σ → JJ p l e R s m args below meth c 3 D cA A n0 s0 QM σ 82 [(0, .ref rm), (1, .int (i32 v1))] [] := by
  intro σ v1 g1 h hGσ hS H locs ls hH hl hc
  have B := K.1
  unfold w_X16_operator__82 at h
  refine lv_aload_n B.1 B.2.1 dX16_operator__82 rfl (lv_at hl 0 rfl) ?_
  refine r_getp B hH hS 17 (by decide) wf_X16_356 rfl rfl dX16_operator__83 ?_
  obtain ⟨a29, ea29, ja29, h⟩ := h
  refine W.eq (g2 := F0 m 86 ls [.ref a29]) (by rw [ea29]; rfl) ?_
  refine n_arr B hH hS ja29 4 (kd := 100) (n := 16) (by decide) (by decide) (List.mem_of_getElem? (i := 4) rfl) rfl dX16_operator__86 ?_
  refine lv_iload_n B.1 B.2.1 dX16_operator__89 rfl (lv_at hl 1 rfl) ?_
  obtain ⟨q2, h⟩ := h
  refine x_iald B K.2.1 hH (hS.ja ja29 (k := 4) (kd := 100) (n := 16) (by decide)) (by decide) q2 dX16_operator__90 ?_
  refine lv_i2l B.1 B.2.1 dX16_operator__91 (i32_i64 (hGσ _ _)) ?_
  refine lv_goto (tgt := 166) B.1 B.2.1 dX16_operator__92 (by decide) ?_
  exact a_X16_operator__166 K hQ hX _ _ h hGσ hS _ _ _ hH (lv_sub (l' := [(0, .ref rm)]) hl [0] rfl) hc
set_option maxRecDepth 20000 in
theorem a_X16_operator__77 {Q : Sg → Int64 → Prop} {X : Sg → String → Prop} (K : MC R p s m args c cX16_operator_ 3 RX16 D cA tys A n0 s0 1 25 []) (hQ : HQJ p l e R s m args below meth c cX16_operator_ D cA A n0 s0 QM dm ra jx rm Q) (hX : HX p l e R s m args below meth c 3 D cA A n0 s0 QM dm ra jx rm X) : ∀ (σ : Sg) (v1 : Int) (v2 : Int) (g1 : rng v1) (g2 : rng v2), w_X16_operator__77 ra jx rm Q X σ v1 v2 → RG σ → Shp dm ra jx rm σ → JJ p l e R s m args below meth c 3 D cA A n0 s0 QM σ 77 [(0, .ref rm), (1, .int (i32 v1)), (2, .int (i32 v2))] [] := by
  intro σ v1 v2 g1 g2 h hGσ hS H locs ls hH hl hc
  have B := K.1
  unfold w_X16_operator__77 at h
  refine lv_iload_n B.1 B.2.1 dX16_operator__77 rfl (lv_at hl 2 rfl) ?_
  refine lv_iconst (v := i32 1) B.1 B.2.1 dX16_operator__78 (by decide) ?_
  refine lv_icmp_ne (tgt := 95) B.1 B.2.1 dX16_operator__79 (by decide) (fun h9 => ?_) (fun h9 => ?_)
  · rw [if_pos (fun q => h9 ((i32_eq g2 (by unfold rng; omega)).mpr q))] at h
    exact a_X16_operator__95 K hQ hX _ _ _ g1 g2 h hGσ hS _ _ _ hH (lv_sub (l' := [(0, .ref rm), (1, .int (i32 v1)), (2, .int (i32 v2))]) hl [0, 1, 2] rfl) hc
  · rw [if_neg (fun q => q ((i32_eq g2 (by unfold rng; omega)).mp h9))] at h
    exact a_X16_operator__82 K hQ hX _ _ g1 h hGσ hS _ _ _ hH (lv_sub (l' := [(0, .ref rm), (1, .int (i32 v1))]) hl [0, 1] rfl) hc
set_option maxRecDepth 20000 in
theorem a_X16_operator__64 {Q : Sg → Int64 → Prop} {X : Sg → String → Prop} (K : MC R p s m args c cX16_operator_ 3 RX16 D cA tys A n0 s0 1 25 []) (hQ : HQJ p l e R s m args below meth c cX16_operator_ D cA A n0 s0 QM dm ra jx rm Q) (hX : HX p l e R s m args below meth c 3 D cA A n0 s0 QM dm ra jx rm X) : ∀ (σ : Sg) (v1 : Int) (g1 : rng v1), w_X16_operator__64 ra jx rm Q X σ v1 → RG σ → Shp dm ra jx rm σ → JJ p l e R s m args below meth c 3 D cA A n0 s0 QM σ 64 [(0, .ref rm), (1, .int (i32 v1))] [] := by
  intro σ v1 g1 h hGσ hS H locs ls hH hl hc
  have B := K.1
  unfold w_X16_operator__64 at h
  refine lv_aload_n B.1 B.2.1 dX16_operator__64 rfl (lv_at hl 0 rfl) ?_
  refine r_getp B hH hS 17 (by decide) wf_X16_356 rfl rfl dX16_operator__65 ?_
  obtain ⟨a30, ea30, ja30, h⟩ := h
  refine W.eq (g2 := F0 m 68 ls [.ref a30]) (by rw [ea30]; rfl) ?_
  refine n_arr B hH hS ja30 2 (kd := 100) (n := 16) (by decide) (by decide) (List.mem_of_getElem? (i := 2) rfl) rfl dX16_operator__68 ?_
  refine lv_iload_n B.1 B.2.1 dX16_operator__71 rfl (lv_at hl 1 rfl) ?_
  obtain ⟨q2, h⟩ := h
  refine x_iald B K.2.1 hH (hS.ja ja30 (k := 2) (kd := 100) (n := 16) (by decide)) (by decide) q2 dX16_operator__72 ?_
  refine lv_i2l B.1 B.2.1 dX16_operator__73 (i32_i64 (hGσ _ _)) ?_
  refine lv_goto (tgt := 166) B.1 B.2.1 dX16_operator__74 (by decide) ?_
  exact a_X16_operator__166 K hQ hX _ _ h hGσ hS _ _ _ hH (lv_sub (l' := [(0, .ref rm)]) hl [0] rfl) hc
set_option maxRecDepth 20000 in
theorem a_X16_operator__60 {Q : Sg → Int64 → Prop} {X : Sg → String → Prop} (K : MC R p s m args c cX16_operator_ 3 RX16 D cA tys A n0 s0 1 25 []) (hQ : HQJ p l e R s m args below meth c cX16_operator_ D cA A n0 s0 QM dm ra jx rm Q) (hX : HX p l e R s m args below meth c 3 D cA A n0 s0 QM dm ra jx rm X) : ∀ (σ : Sg) (v1 : Int) (v2 : Int) (g1 : rng v1) (g2 : rng v2), w_X16_operator__60 ra jx rm Q X σ v1 v2 → RG σ → Shp dm ra jx rm σ → JJ p l e R s m args below meth c 3 D cA A n0 s0 QM σ 60 [(0, .ref rm), (1, .int (i32 v1)), (2, .int (i32 v2))] [] := by
  intro σ v1 v2 g1 g2 h hGσ hS H locs ls hH hl hc
  have B := K.1
  unfold w_X16_operator__60 at h
  refine lv_iload_n B.1 B.2.1 dX16_operator__60 rfl (lv_at hl 2 rfl) ?_
  refine lv_if_ne (tgt := 77) B.1 B.2.1 dX16_operator__61 (by decide) (fun h9 => ?_) (fun h9 => ?_)
  · rw [if_pos (fun q => h9 ((z_eq g2).mpr q))] at h
    exact a_X16_operator__77 K hQ hX _ _ _ g1 g2 h hGσ hS _ _ _ hH (lv_sub (l' := [(0, .ref rm), (1, .int (i32 v1)), (2, .int (i32 v2))]) hl [0, 1, 2] rfl) hc
  · rw [if_neg (fun q => q ((z_eq g2).mp h9))] at h
    exact a_X16_operator__64 K hQ hX _ _ g1 h hGσ hS _ _ _ hH (lv_sub (l' := [(0, .ref rm), (1, .int (i32 v1))]) hl [0, 1] rfl) hc
set_option maxRecDepth 20000 in
theorem a_X16_operator__58 {Q : Sg → Int64 → Prop} {X : Sg → String → Prop} (K : MC R p s m args c cX16_operator_ 3 RX16 D cA tys A n0 s0 1 25 []) (hQ : HQJ p l e R s m args below meth c cX16_operator_ D cA A n0 s0 QM dm ra jx rm Q) (hX : HX p l e R s m args below meth c 3 D cA A n0 s0 QM dm ra jx rm X) : ∀ (σ : Sg), w_X16_operator__58 ra jx rm Q X σ → RG σ → Shp dm ra jx rm σ → JJ p l e R s m args below meth c 3 D cA A n0 s0 QM σ 58 [(0, .ref rm)] [] := by
  intro σ h hGσ hS H locs ls hH hl hc
  have B := K.1
  unfold w_X16_operator__58 at h
  refine lv_lconst (v := 0) B.1 B.2.1 dX16_operator__58 (by decide) ?_
  exact hQ _ _ _ _ _ _ dX16_operator__59 hH hc h hGσ hS
set_option maxRecDepth 20000 in
theorem a_X16_operator__48 {Q : Sg → Int64 → Prop} {X : Sg → String → Prop} (K : MC R p s m args c cX16_operator_ 3 RX16 D cA tys A n0 s0 1 25 []) (hQ : HQJ p l e R s m args below meth c cX16_operator_ D cA A n0 s0 QM dm ra jx rm Q) (hX : HX p l e R s m args below meth c 3 D cA A n0 s0 QM dm ra jx rm X) : ∀ (σ : Sg) (v1 : Int) (v2 : Int) (u0 : Int) (g1 : rng v1) (g2 : rng v2) (gu0 : rng u0), w_X16_operator__48 ra jx rm Q X σ v1 v2 u0 → RG σ → Shp dm ra jx rm σ → JJ p l e R s m args below meth c 3 D cA A n0 s0 QM σ 48 [(0, .ref rm), (1, .int (i32 v1)), (2, .int (i32 v2))] [.int (i32 u0), .ref rm] := by
  intro σ v1 v2 u0 g1 g2 gu0 h hGσ hS H locs ls hH hl hc
  have B := K.1
  unfold w_X16_operator__48 at h
  obtain ⟨σ31, eσ31⟩ : ∃ z, z = pI σ rm 0 u0 := ⟨_, rfl⟩
  have h := h σ31 eσ31
  refine r_puti B hH hS 0 (ty := .int) (by decide) wf_X16_1 rfl rfl rfl rfl rfl rfl dX16_operator__48 (fun H locs hH => ?_)
  have hH : Hd D cA A s (pI σ rm 0 u0) H locs := hH
  rw [← eσ31] at hH
  have hGσ31 : RG σ31 := by rw [eσ31]; exact hGσ.pI gu0
  have hS : Shp dm ra jx rm σ31 := by rw [eσ31]; exact hS
  have hc : CB n0 s0 σ31 := by rw [eσ31]; exact hc
  rw [show gc σ = gc σ31 by rw [eσ31], show gs σ = gs σ31 by rw [eσ31]]
  refine lv_aload_n B.1 B.2.1 dX16_operator__51 rfl (lv_at hl 0 rfl) ?_
  refine r_geti B hH hS 0 (by decide) wf_X16_1 rfl rfl dX16_operator__52 ?_
  refine lv_if_le (tgt := 60) B.1 B.2.1 dX16_operator__55 (by decide) (fun h9 => ?_) (fun h9 => ?_)
  · rw [if_pos ((z_le (hGσ31 _ _)).mp h9)] at h
    exact a_X16_operator__60 K hQ hX _ _ _ g1 g2 h hGσ31 hS _ _ _ hH (lv_sub (l' := [(0, .ref rm), (1, .int (i32 v1)), (2, .int (i32 v2))]) hl [0, 1, 2] rfl) hc
  · rw [if_neg (fun q => h9 ((z_le (hGσ31 _ _)).mpr q))] at h
    exact a_X16_operator__58 K hQ hX _ h hGσ31 hS _ _ _ hH (lv_sub (l' := [(0, .ref rm)]) hl [0] rfl) hc
set_option maxRecDepth 20000 in
theorem a_X16_operator__27 {Q : Sg → Int64 → Prop} {X : Sg → String → Prop} (K : MC R p s m args c cX16_operator_ 3 RX16 D cA tys A n0 s0 1 25 []) (hQ : HQJ p l e R s m args below meth c cX16_operator_ D cA A n0 s0 QM dm ra jx rm Q) (hX : HX p l e R s m args below meth c 3 D cA A n0 s0 QM dm ra jx rm X) : ∀ (σ : Sg) (v1 : Int) (v2 : Int) (g1 : rng v1) (g2 : rng v2), w_X16_operator__27 ra jx rm Q X σ v1 v2 → RG σ → Shp dm ra jx rm σ → JJ p l e R s m args below meth c 3 D cA A n0 s0 QM σ 27 [(0, .ref rm), (1, .int (i32 v1)), (2, .int (i32 v2))] [.ref rm] := by
  intro σ v1 v2 g1 g2 h hGσ hS H locs ls hH hl hc
  have B := K.1
  unfold w_X16_operator__27 at h
  refine lv_iconst (v := i32 1) B.1 B.2.1 dX16_operator__27 (by decide) ?_
  refine lv_goto (tgt := 48) B.1 B.2.1 dX16_operator__28 (by decide) ?_
  exact a_X16_operator__48 K hQ hX _ _ _ _ g1 g2 (by unfold rng; omega) h hGσ hS _ _ _ hH (lv_sub (l' := [(0, .ref rm), (1, .int (i32 v1)), (2, .int (i32 v2))]) hl [0, 1, 2] rfl) hc
set_option maxRecDepth 20000 in
theorem a_X16_operator__47 {Q : Sg → Int64 → Prop} {X : Sg → String → Prop} (K : MC R p s m args c cX16_operator_ 3 RX16 D cA tys A n0 s0 1 25 []) (hQ : HQJ p l e R s m args below meth c cX16_operator_ D cA A n0 s0 QM dm ra jx rm Q) (hX : HX p l e R s m args below meth c 3 D cA A n0 s0 QM dm ra jx rm X) : ∀ (σ : Sg) (v1 : Int) (v2 : Int) (g1 : rng v1) (g2 : rng v2), w_X16_operator__47 ra jx rm Q X σ v1 v2 → RG σ → Shp dm ra jx rm σ → JJ p l e R s m args below meth c 3 D cA A n0 s0 QM σ 47 [(0, .ref rm), (1, .int (i32 v1)), (2, .int (i32 v2))] [.ref rm] := by
  intro σ v1 v2 g1 g2 h hGσ hS H locs ls hH hl hc
  have B := K.1
  unfold w_X16_operator__47 at h
  refine lv_iconst (v := i32 0) B.1 B.2.1 dX16_operator__47 (by decide) ?_
  exact a_X16_operator__48 K hQ hX _ _ _ _ g1 g2 (by unfold rng; omega) h hGσ hS _ _ _ hH (lv_sub (l' := [(0, .ref rm), (1, .int (i32 v1)), (2, .int (i32 v2))]) hl [0, 1, 2] rfl) hc
set_option maxRecDepth 20000 in
theorem a_X16_operator__43 {Q : Sg → Int64 → Prop} {X : Sg → String → Prop} (K : MC R p s m args c cX16_operator_ 3 RX16 D cA tys A n0 s0 1 25 []) (hQ : HQJ p l e R s m args below meth c cX16_operator_ D cA A n0 s0 QM dm ra jx rm Q) (hX : HX p l e R s m args below meth c 3 D cA A n0 s0 QM dm ra jx rm X) : ∀ (σ : Sg) (v1 : Int) (v2 : Int) (g1 : rng v1) (g2 : rng v2), w_X16_operator__43 ra jx rm Q X σ v1 v2 → RG σ → Shp dm ra jx rm σ → JJ p l e R s m args below meth c 3 D cA A n0 s0 QM σ 43 [(0, .ref rm), (1, .int (i32 v1)), (2, .int (i32 v2))] [.ref rm] := by
  intro σ v1 v2 g1 g2 h hGσ hS H locs ls hH hl hc
  have B := K.1
  unfold w_X16_operator__43 at h
  refine lv_iconst (v := i32 2) B.1 B.2.1 dX16_operator__43 (by decide) ?_
  refine lv_goto (tgt := 48) B.1 B.2.1 dX16_operator__44 (by decide) ?_
  exact a_X16_operator__48 K hQ hX _ _ _ _ g1 g2 (by unfold rng; omega) h hGσ hS _ _ _ hH (lv_sub (l' := [(0, .ref rm), (1, .int (i32 v1)), (2, .int (i32 v2))]) hl [0, 1, 2] rfl) hc
set_option maxRecDepth 20000 in
theorem a_X16_operator__31 {Q : Sg → Int64 → Prop} {X : Sg → String → Prop} (K : MC R p s m args c cX16_operator_ 3 RX16 D cA tys A n0 s0 1 25 []) (hQ : HQJ p l e R s m args below meth c cX16_operator_ D cA A n0 s0 QM dm ra jx rm Q) (hX : HX p l e R s m args below meth c 3 D cA A n0 s0 QM dm ra jx rm X) : ∀ (σ : Sg) (v1 : Int) (v2 : Int) (g1 : rng v1) (g2 : rng v2), w_X16_operator__31 ra jx rm Q X σ v1 v2 → RG σ → Shp dm ra jx rm σ → JJ p l e R s m args below meth c 3 D cA A n0 s0 QM σ 31 [(0, .ref rm), (1, .int (i32 v1)), (2, .int (i32 v2))] [.ref rm] := by
  intro σ v1 v2 g1 g2 h hGσ hS H locs ls hH hl hc
  have B := K.1
  unfold w_X16_operator__31 at h
  refine lv_iload_n B.1 B.2.1 dX16_operator__31 rfl (lv_at hl 2 rfl) ?_
  refine lv_i2l B.1 B.2.1 dX16_operator__32 (i32_i64 g2) ?_
  refine lv_lconst (v := 0) B.1 B.2.1 dX16_operator__33 (by decide) ?_
  refine lv_ldc2 B.1 B.2.1 B.2.2.1 (B.2.2.2.1 _ (wk_X16_982)) dX16_operator__34 ?_
  refine c_S B hH hl hc K.2.2.1 (As := [.long (Int64.ofInt v2), .long 0, .long 11]) (ok_X16_within K.2.1 σ (Int64.ofInt v2) 0 11 hGσ hS h) wc_X16_45 3 hd_X16_within ⟨Nat.le_trans (Nat.le_of_ble_eq_true rfl) K.2.2.2.1, Nat.le_trans (Nat.le_of_ble_eq_true rfl) K.2.2.2.2.1⟩ rfl (rest := [.ref rm]) rfl (Nat.le_of_ble_eq_true rfl) dX16_operator__37 (fun σ32 w hq => ?_) (fun σ9 E9 hx9 => hX σ9 E9 _ _ _ (tb_out K.2.2.2.2.2 rfl) hx9.1 hx9.2.1 hx9.2.2)
  obtain ⟨r33, rfl, ⟨gr33, gzr33⟩, h, hGσ32, hS⟩ := hq
  intro H locs ls hH hl hc
  refine W.eq (g2 := F0 m 40 ls [.int (i32 r33), .ref rm]) (rfl) ?_
  try dsimp only at h
  refine lv_if_ne (tgt := 47) B.1 B.2.1 dX16_operator__40 (by decide) (fun h9 => ?_) (fun h9 => ?_)
  · rw [if_pos (fun q => h9 ((z_eq gr33).mpr q))] at h
    exact a_X16_operator__47 K hQ hX _ _ _ g1 g2 h hGσ32 hS _ _ _ hH (lv_sub (l' := [(0, .ref rm), (1, .int (i32 v1)), (2, .int (i32 v2))]) hl [0, 1, 2] rfl) hc
  · rw [if_neg (fun q => q ((z_eq gr33).mp h9))] at h
    exact a_X16_operator__43 K hQ hX _ _ _ g1 g2 h hGσ32 hS _ _ _ hH (lv_sub (l' := [(0, .ref rm), (1, .int (i32 v1)), (2, .int (i32 v2))]) hl [0, 1, 2] rfl) hc
set_option maxRecDepth 20000 in
theorem a_X16_operator__8 {Q : Sg → Int64 → Prop} {X : Sg → String → Prop} (K : MC R p s m args c cX16_operator_ 3 RX16 D cA tys A n0 s0 1 25 []) (hQ : HQJ p l e R s m args below meth c cX16_operator_ D cA A n0 s0 QM dm ra jx rm Q) (hX : HX p l e R s m args below meth c 3 D cA A n0 s0 QM dm ra jx rm X) : ∀ (σ : Sg) (v1 : Int) (v2 : Int) (g1 : rng v1) (g2 : rng v2), w_X16_operator__8 ra jx rm Q X σ v1 v2 → RG σ → Shp dm ra jx rm σ → JJ p l e R s m args below meth c 3 D cA A n0 s0 QM σ 8 [(0, .ref rm), (1, .int (i32 v1)), (2, .int (i32 v2))] [.ref rm] := by
  intro σ v1 v2 g1 g2 h hGσ hS H locs ls hH hl hc
  have B := K.1
  unfold w_X16_operator__8 at h
  refine lv_iload_n B.1 B.2.1 dX16_operator__8 rfl (lv_at hl 1 rfl) ?_
  refine lv_i2l B.1 B.2.1 dX16_operator__9 (i32_i64 g1) ?_
  refine lv_lconst (v := 0) B.1 B.2.1 dX16_operator__10 (by decide) ?_
  refine lv_aload_n B.1 B.2.1 dX16_operator__11 rfl (lv_at hl 0 rfl) ?_
  refine r_getp B hH hS 17 (by decide) wf_X16_356 rfl rfl dX16_operator__12 ?_
  obtain ⟨a34, ea34, ja34, h⟩ := h
  refine W.eq (g2 := F0 m 15 ls [.ref a34, .long 0, .long (Int64.ofInt v1), .ref rm]) (by rw [ea34]; rfl) ?_
  refine n_geti B hH hS ja34 0 (by decide) (List.mem_of_getElem? (i := 0) rfl) rfl dX16_operator__15 ?_
  refine lv_iconst (v := i32 1) B.1 B.2.1 dX16_operator__18 (by decide) ?_
  obtain ⟨q2, h⟩ := h
  refine lv_isub B.1 B.2.1 dX16_operator__19 ?_
  rw [i32_sub]
  refine lv_i2l B.1 B.2.1 dX16_operator__20 (i32_i64 q2) ?_
  refine c_S B hH hl hc K.2.2.1 (As := [.long (Int64.ofInt v1), .long 0, .long (Int64.ofInt (gI σ a34 0 - 1))]) (ok_X16_within K.2.1 σ (Int64.ofInt v1) 0 (Int64.ofInt (gI σ a34 0 - 1)) hGσ hS h) wc_X16_45 3 hd_X16_within ⟨Nat.le_trans (Nat.le_of_ble_eq_true rfl) K.2.2.2.1, Nat.le_trans (Nat.le_of_ble_eq_true rfl) K.2.2.2.2.1⟩ rfl (rest := [.ref rm]) rfl (Nat.le_of_ble_eq_true rfl) dX16_operator__21 (fun σ35 w hq => ?_) (fun σ9 E9 hx9 => hX σ9 E9 _ _ _ (tb_out K.2.2.2.2.2 rfl) hx9.1 hx9.2.1 hx9.2.2)
  obtain ⟨r36, rfl, ⟨gr36, gzr36⟩, h, hGσ35, hS⟩ := hq
  intro H locs ls hH hl hc
  refine W.eq (g2 := F0 m 24 ls [.int (i32 r36), .ref rm]) (rfl) ?_
  try dsimp only at h
  refine lv_if_ne (tgt := 31) B.1 B.2.1 dX16_operator__24 (by decide) (fun h9 => ?_) (fun h9 => ?_)
  · rw [if_pos (fun q => h9 ((z_eq gr36).mpr q))] at h
    exact a_X16_operator__31 K hQ hX _ _ _ g1 g2 h hGσ35 hS _ _ _ hH (lv_sub (l' := [(0, .ref rm), (1, .int (i32 v1)), (2, .int (i32 v2))]) hl [0, 1, 2] rfl) hc
  · rw [if_neg (fun q => q ((z_eq gr36).mp h9))] at h
    exact a_X16_operator__27 K hQ hX _ _ _ g1 g2 h hGσ35 hS _ _ _ hH (lv_sub (l' := [(0, .ref rm), (1, .int (i32 v1)), (2, .int (i32 v2))]) hl [0, 1, 2] rfl) hc
set_option maxRecDepth 20000 in
theorem a_X16_operator__0 {Q : Sg → Int64 → Prop} {X : Sg → String → Prop} (K : MC R p s m args c cX16_operator_ 3 RX16 D cA tys A n0 s0 1 25 []) (hQ : HQJ p l e R s m args below meth c cX16_operator_ D cA A n0 s0 QM dm ra jx rm Q) (hX : HX p l e R s m args below meth c 3 D cA A n0 s0 QM dm ra jx rm X) : ∀ (σ : Sg) (v1 : Int) (v2 : Int) (g1 : rng v1) (g2 : rng v2), w_X16_operator__0 ra jx rm Q X σ v1 v2 → RG σ → Shp dm ra jx rm σ → JJ p l e R s m args below meth c 3 D cA A n0 s0 QM σ 0 [(0, .ref rm), (1, .int (i32 v1)), (2, .int (i32 v2))] [] := by
  intro σ v1 v2 g1 g2 h hGσ hS H locs ls hH hl hc
  have B := K.1
  unfold w_X16_operator__0 at h
  refine lv_aload_n B.1 B.2.1 dX16_operator__0 rfl (lv_at hl 0 rfl) ?_
  refine lv_aload_n B.1 B.2.1 dX16_operator__1 rfl (lv_at hl 0 rfl) ?_
  refine r_getp B hH hS 17 (by decide) wf_X16_356 rfl rfl dX16_operator__2 ?_
  refine lv_ifnullQ (tgt := 27) B.1 B.2.1 dX16_operator__5 (by decide) (fun h9 => ?_) (fun h9 => ?_)
  · rw [if_pos (h9)] at h
    exact a_X16_operator__27 K hQ hX _ _ _ g1 g2 h hGσ hS _ _ _ hH (lv_sub (l' := [(0, .ref rm), (1, .int (i32 v1)), (2, .int (i32 v2))]) hl [0, 1, 2] rfl) hc
  · rw [if_neg (h9)] at h
    exact a_X16_operator__8 K hQ hX _ _ _ g1 g2 h hGσ hS _ _ _ hH (lv_sub (l' := [(0, .ref rm), (1, .int (i32 v1)), (2, .int (i32 v2))]) hl [0, 1, 2] rfl) hc
theorem ok_X16_operator_ (hT : Tys cA tys) {Q : Sg → Int64 → Prop} {X : Sg → String → Prop} (σ : Sg) (v1 : Int) (v2 : Int) (g1 : rng v1) (g2 : rng v2) (hG : RG σ) (hS : Shp dm ra jx rm σ) (h : wp_X16_operator_ ra jx rm v1 v2 σ Q X) : Ok l D cA tys A yX16_operator_ (.code yX16_operator_ cX16_operator_ 3 (some .long)) 1 25 [.ref rm, .int (i32 v1), .int (i32 v2)] σ (QnJ dm ra jx rm Q) (QxR dm ra jx rm X) := by
  unfold wp_X16_operator_ at h
  exact ok_J (plainFor_of_name (by decide)) (by exact Nat.le_of_ble_eq_true rfl) hT (fun p e R s m args below meth c K hQ hX H locs ls hH hl hc => a_X16_operator__0 K hQ hX σ v1 v2 g1 g2 h hG hS H locs ls hH (lv_sub (l' := [(0, .ref rm), (1, .int (i32 v1)), (2, .int (i32 v2))]) hl [0, 1, 2] rfl) hc)
theorem dX16_records_0 : decode cX16_records 0 = .ok (.aload_n 0, 1) := by decide +kernel
theorem dX16_records_1 : decode cX16_records 1 = .ok (.aload_n 0, 1) := by decide +kernel
theorem dX16_records_2 : decode cX16_records 2 = .ok (.getfield 356, 3) := by decide +kernel
theorem dX16_records_5 : decode cX16_records 5 = .ok (.ifnull 22, 3) := by decide +kernel
theorem dX16_records_8 : decode cX16_records 8 = .ok (.iload_n 1, 1) := by decide +kernel
theorem dX16_records_9 : decode cX16_records 9 = .ok (.i2l, 1) := by decide +kernel
theorem dX16_records_10 : decode cX16_records 10 = .ok (.lconst 0, 1) := by decide +kernel
theorem dX16_records_11 : decode cX16_records 11 = .ok (.aload_n 0, 1) := by decide +kernel
theorem dX16_records_12 : decode cX16_records 12 = .ok (.getfield 356, 3) := by decide +kernel
theorem dX16_records_15 : decode cX16_records 15 = .ok (.getfield 316, 3) := by decide +kernel
theorem dX16_records_18 : decode cX16_records 18 = .ok (.iconst 1, 1) := by decide +kernel
theorem dX16_records_19 : decode cX16_records 19 = .ok (.isub, 1) := by decide +kernel
theorem dX16_records_20 : decode cX16_records 20 = .ok (.i2l, 1) := by decide +kernel
theorem dX16_records_21 : decode cX16_records 21 = .ok (.invokestatic 45, 3) := by decide +kernel
theorem dX16_records_24 : decode cX16_records 24 = .ok (.ifCond .ne 7, 3) := by decide +kernel
theorem dX16_records_27 : decode cX16_records 27 = .ok (.iconst 1, 1) := by decide +kernel
theorem dX16_records_28 : decode cX16_records 28 = .ok (.goto 34, 3) := by decide +kernel
theorem dX16_records_31 : decode cX16_records 31 = .ok (.aload_n 0, 1) := by decide +kernel
theorem dX16_records_32 : decode cX16_records 32 = .ok (.getfield 852, 3) := by decide +kernel
theorem dX16_records_35 : decode cX16_records 35 = .ok (.ifCond .eq 10, 3) := by decide +kernel
theorem dX16_records_38 : decode cX16_records 38 = .ok (.aload_n 0, 1) := by decide +kernel
theorem dX16_records_39 : decode cX16_records 39 = .ok (.getfield 688, 3) := by decide +kernel
theorem dX16_records_42 : decode cX16_records 42 = .ok (.ifCond .eq 7, 3) := by decide +kernel
theorem dX16_records_45 : decode cX16_records 45 = .ok (.iconst 2, 1) := by decide +kernel
theorem dX16_records_46 : decode cX16_records 46 = .ok (.goto 16, 3) := by decide +kernel
theorem dX16_records_49 : decode cX16_records 49 = .ok (.aload_n 0, 1) := by decide +kernel
theorem dX16_records_50 : decode cX16_records 50 = .ok (.iload_n 1, 1) := by decide +kernel
theorem dX16_records_51 : decode cX16_records 51 = .ok (.invokevirtual 383, 3) := by decide +kernel
theorem dX16_records_54 : decode cX16_records 54 = .ok (.ifCond .ne 7, 3) := by decide +kernel
theorem dX16_records_57 : decode cX16_records 57 = .ok (.iconst 3, 1) := by decide +kernel
theorem dX16_records_58 : decode cX16_records 58 = .ok (.goto 4, 3) := by decide +kernel
theorem dX16_records_61 : decode cX16_records 61 = .ok (.iconst 0, 1) := by decide +kernel
theorem dX16_records_62 : decode cX16_records 62 = .ok (.putfield 1, 3) := by decide +kernel
theorem dX16_records_65 : decode cX16_records 65 = .ok (.iconst 0, 1) := by decide +kernel
theorem dX16_records_66 : decode cX16_records 66 = .ok (.istore 4, 2) := by decide +kernel
theorem dX16_records_68 : decode cX16_records 68 = .ok (.iconst 0, 1) := by decide +kernel
theorem dX16_records_69 : decode cX16_records 69 = .ok (.istore 5, 2) := by decide +kernel
theorem dX16_records_71 : decode cX16_records 71 = .ok (.aload_n 0, 1) := by decide +kernel
theorem dX16_records_72 : decode cX16_records 72 = .ok (.getfield 1, 3) := by decide +kernel
theorem dX16_records_75 : decode cX16_records 75 = .ok (.ifCond .ne 60, 3) := by decide +kernel
theorem dX16_records_78 : decode cX16_records 78 = .ok (.aload_n 0, 1) := by decide +kernel
theorem dX16_records_79 : decode cX16_records 79 = .ok (.getfield 745, 3) := by decide +kernel
theorem dX16_records_82 : decode cX16_records 82 = .ok (.ifCond .le 53, 3) := by decide +kernel
theorem dX16_records_85 : decode cX16_records 85 = .ok (.iload 5, 2) := by decide +kernel
theorem dX16_records_87 : decode cX16_records 87 = .ok (.aload_n 0, 1) := by decide +kernel
theorem dX16_records_88 : decode cX16_records 88 = .ok (.getfield 703, 3) := by decide +kernel
theorem dX16_records_91 : decode cX16_records 91 = .ok (.iconst 0, 1) := by decide +kernel
theorem dX16_records_92 : decode cX16_records 92 = .ok (.iaload, 1) := by decide +kernel
theorem dX16_records_93 : decode cX16_records 93 = .ok (.if_icmp .ge 42, 3) := by decide +kernel
theorem dX16_records_96 : decode cX16_records 96 = .ok (.iload 4, 2) := by decide +kernel
theorem dX16_records_98 : decode cX16_records 98 = .ok (.aload_n 0, 1) := by decide +kernel
theorem dX16_records_99 : decode cX16_records 99 = .ok (.getfield 709, 3) := by decide +kernel
theorem dX16_records_102 : decode cX16_records 102 = .ok (.iload 5, 2) := by decide +kernel
theorem dX16_records_104 : decode cX16_records 104 = .ok (.iaload, 1) := by decide +kernel
theorem dX16_records_105 : decode cX16_records 105 = .ok (.iload_n 1, 1) := by decide +kernel
theorem dX16_records_106 : decode cX16_records 106 = .ok (.if_icmp .ne 19, 3) := by decide +kernel
theorem dX16_records_109 : decode cX16_records 109 = .ok (.aload_n 0, 1) := by decide +kernel
theorem dX16_records_110 : decode cX16_records 110 = .ok (.getfield 715, 3) := by decide +kernel
theorem dX16_records_113 : decode cX16_records 113 = .ok (.iload 5, 2) := by decide +kernel
theorem dX16_records_115 : decode cX16_records 115 = .ok (.laload, 1) := by decide +kernel
theorem dX16_records_116 : decode cX16_records 116 = .ok (.lload_n 2, 1) := by decide +kernel
theorem dX16_records_117 : decode cX16_records 117 = .ok (.lcmp, 1) := by decide +kernel
theorem dX16_records_118 : decode cX16_records 118 = .ok (.ifCond .ne 7, 3) := by decide +kernel
theorem dX16_records_121 : decode cX16_records 121 = .ok (.iconst 1, 1) := by decide +kernel
theorem dX16_records_122 : decode cX16_records 122 = .ok (.goto 4, 3) := by decide +kernel
theorem dX16_records_125 : decode cX16_records 125 = .ok (.iconst 0, 1) := by decide +kernel
theorem dX16_records_126 : decode cX16_records 126 = .ok (.iadd, 1) := by decide +kernel
theorem dX16_records_127 : decode cX16_records 127 = .ok (.istore 4, 2) := by decide +kernel
theorem dX16_records_129 : decode cX16_records 129 = .ok (.iinc 5 1, 3) := by decide +kernel
theorem dX16_records_132 : decode cX16_records 132 = .ok (.goto (-61), 3) := by decide +kernel
theorem dX16_records_135 : decode cX16_records 135 = .ok (.iload 4, 2) := by decide +kernel
theorem dX16_records_137 : decode cX16_records 137 = .ok (.ireturn, 1) := by decide +kernel
set_option maxRecDepth 20000 in
theorem a_X16_records_135 {Q : Sg → Int → Prop} {X : Sg → String → Prop} (K : MC R p s m args c cX16_records 6 RX16 D cA tys A n0 s0 2 46 []) (hQ : HQI p l e R s m args below meth c cX16_records D cA A n0 s0 QM dm ra jx rm Q) (hX : HX p l e R s m args below meth c 6 D cA A n0 s0 QM dm ra jx rm X) : ∀ (σ : Sg) (v4 : Int) (g4 : rng v4), w_X16_records_135 ra jx rm Q X σ v4 → RG σ → Shp dm ra jx rm σ → JJ p l e R s m args below meth c 6 D cA A n0 s0 QM σ 135 [(0, .ref rm), (4, .int (i32 v4))] [] := by
  intro σ v4 g4 h hGσ hS H locs ls hH hl hc
  have B := K.1
  unfold w_X16_records_135 at h
  refine lv_iload B.1 B.2.1 dX16_records_135 (lv_at hl 1 rfl) ?_
  exact hQ _ _ _ _ _ _ g4 dX16_records_137 hH hc h hGσ hS
set_option maxRecDepth 20000 in
theorem a_X16_records_126 {Q : Sg → Int → Prop} {X : Sg → String → Prop} (K : MC R p s m args c cX16_records 6 RX16 D cA tys A n0 s0 2 46 []) (hQ : HQI p l e R s m args below meth c cX16_records D cA A n0 s0 QM dm ra jx rm Q) (hX : HX p l e R s m args below meth c 6 D cA A n0 s0 QM dm ra jx rm X) {K71 : Sg → Int → Int64 → Int → Int → Prop} (hK71 : ∀ (σ : Sg) (v1 : Int) (v2 : Int64) (v4 : Int) (v5 : Int) (g1 : rng v1) (g4 : rng v4) (g5 : rng v5), K71 σ v1 v2 v4 v5 → RG σ → Shp dm ra jx rm σ → JJ p l e R s m args below meth c 6 D cA A n0 s0 QM σ 71 [(0, .ref rm), (1, .int (i32 v1)), (2, .long v2), (4, .int (i32 v4)), (5, .int (i32 v5))] []) : ∀ (σ : Sg) (v1 : Int) (v2 : Int64) (v5 : Int) (u0 : Int) (u1 : Int) (g1 : rng v1) (g5 : rng v5) (gu0 : rng u0) (gu1 : rng u1), w_X16_records_126 ra jx rm K71 Q X σ v1 v2 v5 u0 u1 → RG σ → Shp dm ra jx rm σ → JJ p l e R s m args below meth c 6 D cA A n0 s0 QM σ 126 [(0, .ref rm), (1, .int (i32 v1)), (2, .long v2), (5, .int (i32 v5))] [.int (i32 u0), .int (i32 u1)] := by
  intro σ v1 v2 v5 u0 u1 g1 g5 gu0 gu1 h hGσ hS H locs ls hH hl hc
  have B := K.1
  unfold w_X16_records_126 at h
  obtain ⟨q1, h⟩ := h
  refine lv_iadd B.1 B.2.1 dX16_records_126 ?_
  rw [i32_add]
  refine lv_istore (lv' := [(4, .int (i32 (u1 + u0))), (0, .ref rm), (1, .int (i32 v1)), (2, .long v2), (5, .int (i32 v5))]) B.1 B.2.1 dX16_records_127 hl (by decide) rfl (fun ls hl => ?_)
  obtain ⟨q2, h⟩ := h
  refine lv_iinc (k := 4) (v := i32 (v5 + 1)) (lv' := [(5, .int (i32 (v5 + 1))), (4, .int (i32 (u1 + u0))), (0, .ref rm), (1, .int (i32 v1)), (2, .long v2)]) B.1 B.2.1 dX16_records_129 hl rfl (i32_add _ _) (by decide) rfl (fun ls hl => ?_)
  refine lv_goto (tgt := 71) B.1 B.2.1 dX16_records_132 (by decide) ?_
  exact hK71 _ _ _ _ _ g1 q1 q2 h hGσ hS _ _ _ hH (lv_sub (l' := [(0, .ref rm), (1, .int (i32 v1)), (2, .long v2), (4, .int (i32 (u1 + u0))), (5, .int (i32 (v5 + 1)))]) hl [2, 3, 4, 1, 0] rfl) hc
set_option maxRecDepth 20000 in
theorem a_X16_records_125 {Q : Sg → Int → Prop} {X : Sg → String → Prop} (K : MC R p s m args c cX16_records 6 RX16 D cA tys A n0 s0 2 46 []) (hQ : HQI p l e R s m args below meth c cX16_records D cA A n0 s0 QM dm ra jx rm Q) (hX : HX p l e R s m args below meth c 6 D cA A n0 s0 QM dm ra jx rm X) {K71 : Sg → Int → Int64 → Int → Int → Prop} (hK71 : ∀ (σ : Sg) (v1 : Int) (v2 : Int64) (v4 : Int) (v5 : Int) (g1 : rng v1) (g4 : rng v4) (g5 : rng v5), K71 σ v1 v2 v4 v5 → RG σ → Shp dm ra jx rm σ → JJ p l e R s m args below meth c 6 D cA A n0 s0 QM σ 71 [(0, .ref rm), (1, .int (i32 v1)), (2, .long v2), (4, .int (i32 v4)), (5, .int (i32 v5))] []) : ∀ (σ : Sg) (v1 : Int) (v2 : Int64) (v5 : Int) (u0 : Int) (g1 : rng v1) (g5 : rng v5) (gu0 : rng u0), w_X16_records_125 ra jx rm K71 Q X σ v1 v2 v5 u0 → RG σ → Shp dm ra jx rm σ → JJ p l e R s m args below meth c 6 D cA A n0 s0 QM σ 125 [(0, .ref rm), (1, .int (i32 v1)), (2, .long v2), (5, .int (i32 v5))] [.int (i32 u0)] := by
  intro σ v1 v2 v5 u0 g1 g5 gu0 h hGσ hS H locs ls hH hl hc
  have B := K.1
  unfold w_X16_records_125 at h
  refine lv_iconst (v := i32 0) B.1 B.2.1 dX16_records_125 (by decide) ?_
  exact a_X16_records_126 K hQ hX hK71 _ _ _ _ _ _ g1 g5 (by unfold rng; omega) gu0 h hGσ hS _ _ _ hH (lv_sub (l' := [(0, .ref rm), (1, .int (i32 v1)), (2, .long v2), (5, .int (i32 v5))]) hl [0, 1, 2, 3] rfl) hc
set_option maxRecDepth 20000 in
theorem a_X16_records_121 {Q : Sg → Int → Prop} {X : Sg → String → Prop} (K : MC R p s m args c cX16_records 6 RX16 D cA tys A n0 s0 2 46 []) (hQ : HQI p l e R s m args below meth c cX16_records D cA A n0 s0 QM dm ra jx rm Q) (hX : HX p l e R s m args below meth c 6 D cA A n0 s0 QM dm ra jx rm X) {K71 : Sg → Int → Int64 → Int → Int → Prop} (hK71 : ∀ (σ : Sg) (v1 : Int) (v2 : Int64) (v4 : Int) (v5 : Int) (g1 : rng v1) (g4 : rng v4) (g5 : rng v5), K71 σ v1 v2 v4 v5 → RG σ → Shp dm ra jx rm σ → JJ p l e R s m args below meth c 6 D cA A n0 s0 QM σ 71 [(0, .ref rm), (1, .int (i32 v1)), (2, .long v2), (4, .int (i32 v4)), (5, .int (i32 v5))] []) : ∀ (σ : Sg) (v1 : Int) (v2 : Int64) (v5 : Int) (u0 : Int) (g1 : rng v1) (g5 : rng v5) (gu0 : rng u0), w_X16_records_121 ra jx rm K71 Q X σ v1 v2 v5 u0 → RG σ → Shp dm ra jx rm σ → JJ p l e R s m args below meth c 6 D cA A n0 s0 QM σ 121 [(0, .ref rm), (1, .int (i32 v1)), (2, .long v2), (5, .int (i32 v5))] [.int (i32 u0)] := by
  intro σ v1 v2 v5 u0 g1 g5 gu0 h hGσ hS H locs ls hH hl hc
  have B := K.1
  unfold w_X16_records_121 at h
  refine lv_iconst (v := i32 1) B.1 B.2.1 dX16_records_121 (by decide) ?_
  refine lv_goto (tgt := 126) B.1 B.2.1 dX16_records_122 (by decide) ?_
  exact a_X16_records_126 K hQ hX hK71 _ _ _ _ _ _ g1 g5 (by unfold rng; omega) gu0 h hGσ hS _ _ _ hH (lv_sub (l' := [(0, .ref rm), (1, .int (i32 v1)), (2, .long v2), (5, .int (i32 v5))]) hl [0, 1, 2, 3] rfl) hc
set_option maxRecDepth 20000 in
theorem a_X16_records_109 {Q : Sg → Int → Prop} {X : Sg → String → Prop} (K : MC R p s m args c cX16_records 6 RX16 D cA tys A n0 s0 2 46 []) (hQ : HQI p l e R s m args below meth c cX16_records D cA A n0 s0 QM dm ra jx rm Q) (hX : HX p l e R s m args below meth c 6 D cA A n0 s0 QM dm ra jx rm X) {K71 : Sg → Int → Int64 → Int → Int → Prop} (hK71 : ∀ (σ : Sg) (v1 : Int) (v2 : Int64) (v4 : Int) (v5 : Int) (g1 : rng v1) (g4 : rng v4) (g5 : rng v5), K71 σ v1 v2 v4 v5 → RG σ → Shp dm ra jx rm σ → JJ p l e R s m args below meth c 6 D cA A n0 s0 QM σ 71 [(0, .ref rm), (1, .int (i32 v1)), (2, .long v2), (4, .int (i32 v4)), (5, .int (i32 v5))] []) : ∀ (σ : Sg) (v1 : Int) (v2 : Int64) (v5 : Int) (u0 : Int) (g1 : rng v1) (g5 : rng v5) (gu0 : rng u0), w_X16_records_109 ra jx rm K71 Q X σ v1 v2 v5 u0 → RG σ → Shp dm ra jx rm σ → JJ p l e R s m args below meth c 6 D cA A n0 s0 QM σ 109 [(0, .ref rm), (1, .int (i32 v1)), (2, .long v2), (5, .int (i32 v5))] [.int (i32 u0)] := by
  intro σ v1 v2 v5 u0 g1 g5 gu0 h hGσ hS H locs ls hH hl hc
  have B := K.1
  unfold w_X16_records_109 at h
  refine lv_aload_n B.1 B.2.1 dX16_records_109 rfl (lv_at hl 0 rfl) ?_
  refine r_arr B hH hS 102 (kd := 101) (n := 8000) (by decide) (by decide) wf_X16_715 rfl rfl dX16_records_110 ?_
  refine lv_iload B.1 B.2.1 dX16_records_113 (lv_at hl 3 rfl) ?_
  obtain ⟨q1, h⟩ := h
  refine x_lald B K.2.1 hH (hS.ar (k := 102) (kd := 101) (n := 8000) (by decide)) (by decide) q1 dX16_records_115 ?_
  refine lv_lload_n B.1 B.2.1 dX16_records_116 rfl (lv_at hl 2 rfl) ?_
  refine W.lcmp B.1 B.2.1 dX16_records_117 ?_
  refine lv_if_ne (tgt := 125) B.1 B.2.1 dX16_records_118 (by decide) (fun h9 => ?_) (fun h9 => ?_)
  · rw [if_pos (fun q => h9 ((lg_cmp_eq _ _).mpr q))] at h
    exact a_X16_records_125 K hQ hX hK71 _ _ _ _ _ g1 g5 gu0 h hGσ hS _ _ _ hH (lv_sub (l' := [(0, .ref rm), (1, .int (i32 v1)), (2, .long v2), (5, .int (i32 v5))]) hl [0, 1, 2, 3] rfl) hc
  · rw [if_neg (fun q => q ((lg_cmp_eq _ _).mp h9))] at h
    exact a_X16_records_121 K hQ hX hK71 _ _ _ _ _ g1 g5 gu0 h hGσ hS _ _ _ hH (lv_sub (l' := [(0, .ref rm), (1, .int (i32 v1)), (2, .long v2), (5, .int (i32 v5))]) hl [0, 1, 2, 3] rfl) hc
set_option maxRecDepth 20000 in
theorem a_X16_records_96 {Q : Sg → Int → Prop} {X : Sg → String → Prop} (K : MC R p s m args c cX16_records 6 RX16 D cA tys A n0 s0 2 46 []) (hQ : HQI p l e R s m args below meth c cX16_records D cA A n0 s0 QM dm ra jx rm Q) (hX : HX p l e R s m args below meth c 6 D cA A n0 s0 QM dm ra jx rm X) {K71 : Sg → Int → Int64 → Int → Int → Prop} (hK71 : ∀ (σ : Sg) (v1 : Int) (v2 : Int64) (v4 : Int) (v5 : Int) (g1 : rng v1) (g4 : rng v4) (g5 : rng v5), K71 σ v1 v2 v4 v5 → RG σ → Shp dm ra jx rm σ → JJ p l e R s m args below meth c 6 D cA A n0 s0 QM σ 71 [(0, .ref rm), (1, .int (i32 v1)), (2, .long v2), (4, .int (i32 v4)), (5, .int (i32 v5))] []) : ∀ (σ : Sg) (v1 : Int) (v2 : Int64) (v4 : Int) (v5 : Int) (g1 : rng v1) (g4 : rng v4) (g5 : rng v5), w_X16_records_96 ra jx rm K71 Q X σ v1 v2 v4 v5 → RG σ → Shp dm ra jx rm σ → JJ p l e R s m args below meth c 6 D cA A n0 s0 QM σ 96 [(0, .ref rm), (1, .int (i32 v1)), (2, .long v2), (4, .int (i32 v4)), (5, .int (i32 v5))] [] := by
  intro σ v1 v2 v4 v5 g1 g4 g5 h hGσ hS H locs ls hH hl hc
  have B := K.1
  unfold w_X16_records_96 at h
  refine lv_iload B.1 B.2.1 dX16_records_96 (lv_at hl 3 rfl) ?_
  refine lv_aload_n B.1 B.2.1 dX16_records_98 rfl (lv_at hl 0 rfl) ?_
  refine r_arr B hH hS 100 (kd := 100) (n := 8000) (by decide) (by decide) wf_X16_709 rfl rfl dX16_records_99 ?_
  refine lv_iload B.1 B.2.1 dX16_records_102 (lv_at hl 4 rfl) ?_
  obtain ⟨q1, h⟩ := h
  refine x_iald B K.2.1 hH (hS.ar (k := 100) (kd := 100) (n := 8000) (by decide)) (by decide) q1 dX16_records_104 ?_
  refine lv_iload_n B.1 B.2.1 dX16_records_105 rfl (lv_at hl 1 rfl) ?_
  refine lv_icmp_ne (tgt := 125) B.1 B.2.1 dX16_records_106 (by decide) (fun h9 => ?_) (fun h9 => ?_)
  · rw [if_pos (fun q => h9 ((i32_eq (hGσ _ _) g1).mpr q))] at h
    exact a_X16_records_125 K hQ hX hK71 _ _ _ _ _ g1 g5 g4 h hGσ hS _ _ _ hH (lv_sub (l' := [(0, .ref rm), (1, .int (i32 v1)), (2, .long v2), (5, .int (i32 v5))]) hl [0, 1, 2, 4] rfl) hc
  · rw [if_neg (fun q => q ((i32_eq (hGσ _ _) g1).mp h9))] at h
    exact a_X16_records_109 K hQ hX hK71 _ _ _ _ _ g1 g5 g4 h hGσ hS _ _ _ hH (lv_sub (l' := [(0, .ref rm), (1, .int (i32 v1)), (2, .long v2), (5, .int (i32 v5))]) hl [0, 1, 2, 4] rfl) hc
set_option maxRecDepth 20000 in
theorem a_X16_records_85 {Q : Sg → Int → Prop} {X : Sg → String → Prop} (K : MC R p s m args c cX16_records 6 RX16 D cA tys A n0 s0 2 46 []) (hQ : HQI p l e R s m args below meth c cX16_records D cA A n0 s0 QM dm ra jx rm Q) (hX : HX p l e R s m args below meth c 6 D cA A n0 s0 QM dm ra jx rm X) {K71 : Sg → Int → Int64 → Int → Int → Prop} (hK71 : ∀ (σ : Sg) (v1 : Int) (v2 : Int64) (v4 : Int) (v5 : Int) (g1 : rng v1) (g4 : rng v4) (g5 : rng v5), K71 σ v1 v2 v4 v5 → RG σ → Shp dm ra jx rm σ → JJ p l e R s m args below meth c 6 D cA A n0 s0 QM σ 71 [(0, .ref rm), (1, .int (i32 v1)), (2, .long v2), (4, .int (i32 v4)), (5, .int (i32 v5))] []) : ∀ (σ : Sg) (v1 : Int) (v2 : Int64) (v4 : Int) (v5 : Int) (g1 : rng v1) (g4 : rng v4) (g5 : rng v5), w_X16_records_85 ra jx rm K71 Q X σ v1 v2 v4 v5 → RG σ → Shp dm ra jx rm σ → JJ p l e R s m args below meth c 6 D cA A n0 s0 QM σ 85 [(0, .ref rm), (1, .int (i32 v1)), (2, .long v2), (4, .int (i32 v4)), (5, .int (i32 v5))] [] := by
  intro σ v1 v2 v4 v5 g1 g4 g5 h hGσ hS H locs ls hH hl hc
  have B := K.1
  unfold w_X16_records_85 at h
  refine lv_iload B.1 B.2.1 dX16_records_85 (lv_at hl 4 rfl) ?_
  refine lv_aload_n B.1 B.2.1 dX16_records_87 rfl (lv_at hl 0 rfl) ?_
  refine r_arr B hH hS 98 (kd := 100) (n := 2) (by decide) (by decide) wf_X16_703 rfl rfl dX16_records_88 ?_
  refine lv_iconst (v := i32 0) B.1 B.2.1 dX16_records_91 (by decide) ?_
  refine x_iald B K.2.1 hH (hS.ar (k := 98) (kd := 100) (n := 2) (by decide)) (by decide) (by decide) dX16_records_92 ?_
  refine W.eq (g2 := F0 m 93 ls [.int (i32 (gI σ (ra 98) 0)), .int (i32 v5)]) (rfl) ?_
  refine lv_icmp_ge (tgt := 135) B.1 B.2.1 dX16_records_93 (by decide) (fun h9 => ?_) (fun h9 => ?_)
  · rw [if_pos ((i32_le (hGσ _ _) g5).mp h9)] at h
    exact a_X16_records_135 K hQ hX _ _ g4 h hGσ hS _ _ _ hH (lv_sub (l' := [(0, .ref rm), (4, .int (i32 v4))]) hl [0, 3] rfl) hc
  · rw [if_neg (fun q => h9 ((i32_le (hGσ _ _) g5).mpr q))] at h
    exact a_X16_records_96 K hQ hX hK71 _ _ _ _ _ g1 g4 g5 h hGσ hS _ _ _ hH (lv_sub (l' := [(0, .ref rm), (1, .int (i32 v1)), (2, .long v2), (4, .int (i32 v4)), (5, .int (i32 v5))]) hl [0, 1, 2, 3, 4] rfl) hc
set_option maxRecDepth 20000 in
theorem a_X16_records_78 {Q : Sg → Int → Prop} {X : Sg → String → Prop} (K : MC R p s m args c cX16_records 6 RX16 D cA tys A n0 s0 2 46 []) (hQ : HQI p l e R s m args below meth c cX16_records D cA A n0 s0 QM dm ra jx rm Q) (hX : HX p l e R s m args below meth c 6 D cA A n0 s0 QM dm ra jx rm X) {K71 : Sg → Int → Int64 → Int → Int → Prop} (hK71 : ∀ (σ : Sg) (v1 : Int) (v2 : Int64) (v4 : Int) (v5 : Int) (g1 : rng v1) (g4 : rng v4) (g5 : rng v5), K71 σ v1 v2 v4 v5 → RG σ → Shp dm ra jx rm σ → JJ p l e R s m args below meth c 6 D cA A n0 s0 QM σ 71 [(0, .ref rm), (1, .int (i32 v1)), (2, .long v2), (4, .int (i32 v4)), (5, .int (i32 v5))] []) : ∀ (σ : Sg) (v1 : Int) (v2 : Int64) (v4 : Int) (v5 : Int) (g1 : rng v1) (g4 : rng v4) (g5 : rng v5), w_X16_records_78 ra jx rm K71 Q X σ v1 v2 v4 v5 → RG σ → Shp dm ra jx rm σ → JJ p l e R s m args below meth c 6 D cA A n0 s0 QM σ 78 [(0, .ref rm), (1, .int (i32 v1)), (2, .long v2), (4, .int (i32 v4)), (5, .int (i32 v5))] [] := by
  intro σ v1 v2 v4 v5 g1 g4 g5 h hGσ hS H locs ls hH hl hc
  have B := K.1
  unfold w_X16_records_78 at h
  refine lv_aload_n B.1 B.2.1 dX16_records_78 rfl (lv_at hl 0 rfl) ?_
  refine r_geti B hH hS 92 (by decide) wf_X16_745 rfl rfl dX16_records_79 ?_
  refine lv_if_le (tgt := 135) B.1 B.2.1 dX16_records_82 (by decide) (fun h9 => ?_) (fun h9 => ?_)
  · rw [if_pos ((z_le (hGσ _ _)).mp h9)] at h
    exact a_X16_records_135 K hQ hX _ _ g4 h hGσ hS _ _ _ hH (lv_sub (l' := [(0, .ref rm), (4, .int (i32 v4))]) hl [0, 3] rfl) hc
  · rw [if_neg (fun q => h9 ((z_le (hGσ _ _)).mpr q))] at h
    exact a_X16_records_85 K hQ hX hK71 _ _ _ _ _ g1 g4 g5 h hGσ hS _ _ _ hH (lv_sub (l' := [(0, .ref rm), (1, .int (i32 v1)), (2, .long v2), (4, .int (i32 v4)), (5, .int (i32 v5))]) hl [0, 1, 2, 3, 4] rfl) hc
set_option maxRecDepth 20000 in
theorem a_X16_records_71 {Q : Sg → Int → Prop} {X : Sg → String → Prop} (K : MC R p s m args c cX16_records 6 RX16 D cA tys A n0 s0 2 46 []) (hQ : HQI p l e R s m args below meth c cX16_records D cA A n0 s0 QM dm ra jx rm Q) (hX : HX p l e R s m args below meth c 6 D cA A n0 s0 QM dm ra jx rm X) {K71 : Sg → Int → Int64 → Int → Int → Prop} (hK71 : ∀ (σ : Sg) (v1 : Int) (v2 : Int64) (v4 : Int) (v5 : Int) (g1 : rng v1) (g4 : rng v4) (g5 : rng v5), K71 σ v1 v2 v4 v5 → RG σ → Shp dm ra jx rm σ → JJ p l e R s m args below meth c 6 D cA A n0 s0 QM σ 71 [(0, .ref rm), (1, .int (i32 v1)), (2, .long v2), (4, .int (i32 v4)), (5, .int (i32 v5))] []) : ∀ (σ : Sg) (v1 : Int) (v2 : Int64) (v4 : Int) (v5 : Int) (g1 : rng v1) (g4 : rng v4) (g5 : rng v5), w_X16_records_71 ra jx rm K71 Q X σ v1 v2 v4 v5 → RG σ → Shp dm ra jx rm σ → JJ p l e R s m args below meth c 6 D cA A n0 s0 QM σ 71 [(0, .ref rm), (1, .int (i32 v1)), (2, .long v2), (4, .int (i32 v4)), (5, .int (i32 v5))] [] := by
  intro σ v1 v2 v4 v5 g1 g4 g5 h hGσ hS H locs ls hH hl hc
  have B := K.1
  unfold w_X16_records_71 at h
  refine lv_aload_n B.1 B.2.1 dX16_records_71 rfl (lv_at hl 0 rfl) ?_
  refine r_geti B hH hS 0 (by decide) wf_X16_1 rfl rfl dX16_records_72 ?_
  refine lv_if_ne (tgt := 135) B.1 B.2.1 dX16_records_75 (by decide) (fun h9 => ?_) (fun h9 => ?_)
  · rw [if_pos (fun q => h9 ((z_eq (hGσ _ _)).mpr q))] at h
    exact a_X16_records_135 K hQ hX _ _ g4 h hGσ hS _ _ _ hH (lv_sub (l' := [(0, .ref rm), (4, .int (i32 v4))]) hl [0, 3] rfl) hc
  · rw [if_neg (fun q => q ((z_eq (hGσ _ _)).mp h9))] at h
    exact a_X16_records_78 K hQ hX hK71 _ _ _ _ _ g1 g4 g5 h hGσ hS _ _ _ hH (lv_sub (l' := [(0, .ref rm), (1, .int (i32 v1)), (2, .long v2), (4, .int (i32 v4)), (5, .int (i32 v5))]) hl [0, 1, 2, 3, 4] rfl) hc
theorem al_X16_records_71 {Q : Sg → Int → Prop} {X : Sg → String → Prop} (K : MC R p s m args c cX16_records 6 RX16 D cA tys A n0 s0 2 46 []) (hQ : HQI p l e R s m args below meth c cX16_records D cA A n0 s0 QM dm ra jx rm Q) (hX : HX p l e R s m args below meth c 6 D cA A n0 s0 QM dm ra jx rm X) : ∀ (n : Nat), ∀ (σ : Sg) (v1 : Int) (v2 : Int64) (v4 : Int) (v5 : Int) (g1 : rng v1) (g4 : rng v4) (g5 : rng v5), wl_X16_records_71 ra jx rm Q X n σ v1 v2 v4 v5 → RG σ → Shp dm ra jx rm σ → JJ p l e R s m args below meth c 6 D cA A n0 s0 QM σ 71 [(0, .ref rm), (1, .int (i32 v1)), (2, .long v2), (4, .int (i32 v4)), (5, .int (i32 v5))] [] := by
  intro n
  induction n with
  | zero => intro σ v1 v2 v4 v5 g1 g4 g5 h; exact h.elim
  | succ n ih => exact fun σ v1 v2 v4 v5 g1 g4 g5 h => a_X16_records_71 K hQ hX ih σ v1 v2 v4 v5 g1 g4 g5 h
set_option maxRecDepth 20000 in
theorem a_X16_records_62 {Q : Sg → Int → Prop} {X : Sg → String → Prop} (K : MC R p s m args c cX16_records 6 RX16 D cA tys A n0 s0 2 46 []) (hQ : HQI p l e R s m args below meth c cX16_records D cA A n0 s0 QM dm ra jx rm Q) (hX : HX p l e R s m args below meth c 6 D cA A n0 s0 QM dm ra jx rm X) : ∀ (σ : Sg) (v1 : Int) (v2 : Int64) (u0 : Int) (g1 : rng v1) (gu0 : rng u0), w_X16_records_62 ra jx rm Q X σ v1 v2 u0 → RG σ → Shp dm ra jx rm σ → JJ p l e R s m args below meth c 6 D cA A n0 s0 QM σ 62 [(0, .ref rm), (1, .int (i32 v1)), (2, .long v2)] [.int (i32 u0), .ref rm] := by
  intro σ v1 v2 u0 g1 gu0 h hGσ hS H locs ls hH hl hc
  have B := K.1
  unfold w_X16_records_62 at h
  obtain ⟨σ13, eσ13⟩ : ∃ z, z = pI σ rm 0 u0 := ⟨_, rfl⟩
  have h := h σ13 eσ13
  refine r_puti B hH hS 0 (ty := .int) (by decide) wf_X16_1 rfl rfl rfl rfl rfl rfl dX16_records_62 (fun H locs hH => ?_)
  have hH : Hd D cA A s (pI σ rm 0 u0) H locs := hH
  rw [← eσ13] at hH
  have hGσ13 : RG σ13 := by rw [eσ13]; exact hGσ.pI gu0
  have hS : Shp dm ra jx rm σ13 := by rw [eσ13]; exact hS
  have hc : CB n0 s0 σ13 := by rw [eσ13]; exact hc
  rw [show gc σ = gc σ13 by rw [eσ13], show gs σ = gs σ13 by rw [eσ13]]
  refine lv_iconst (v := i32 0) B.1 B.2.1 dX16_records_65 (by decide) ?_
  refine lv_istore (lv' := [(4, .int (i32 0)), (0, .ref rm), (1, .int (i32 v1)), (2, .long v2)]) B.1 B.2.1 dX16_records_66 hl (by decide) rfl (fun ls hl => ?_)
  refine lv_iconst (v := i32 0) B.1 B.2.1 dX16_records_68 (by decide) ?_
  refine lv_istore (lv' := [(5, .int (i32 0)), (4, .int (i32 0)), (0, .ref rm), (1, .int (i32 v1)), (2, .long v2)]) B.1 B.2.1 dX16_records_69 hl (by decide) rfl (fun ls hl => ?_)
  obtain ⟨n9, h⟩ := h
  exact al_X16_records_71 K hQ hX n9 _ _ _ _ _ g1 (by unfold rng; omega) (by unfold rng; omega) h hGσ13 hS _ _ _ hH (lv_sub (l' := [(0, .ref rm), (1, .int (i32 v1)), (2, .long v2), (4, .int (i32 0)), (5, .int (i32 0))]) hl [2, 3, 4, 1, 0] rfl) hc
set_option maxRecDepth 20000 in
theorem a_X16_records_27 {Q : Sg → Int → Prop} {X : Sg → String → Prop} (K : MC R p s m args c cX16_records 6 RX16 D cA tys A n0 s0 2 46 []) (hQ : HQI p l e R s m args below meth c cX16_records D cA A n0 s0 QM dm ra jx rm Q) (hX : HX p l e R s m args below meth c 6 D cA A n0 s0 QM dm ra jx rm X) : ∀ (σ : Sg) (v1 : Int) (v2 : Int64) (g1 : rng v1), w_X16_records_27 ra jx rm Q X σ v1 v2 → RG σ → Shp dm ra jx rm σ → JJ p l e R s m args below meth c 6 D cA A n0 s0 QM σ 27 [(0, .ref rm), (1, .int (i32 v1)), (2, .long v2)] [.ref rm] := by
  intro σ v1 v2 g1 h hGσ hS H locs ls hH hl hc
  have B := K.1
  unfold w_X16_records_27 at h
  refine lv_iconst (v := i32 1) B.1 B.2.1 dX16_records_27 (by decide) ?_
  refine lv_goto (tgt := 62) B.1 B.2.1 dX16_records_28 (by decide) ?_
  exact a_X16_records_62 K hQ hX _ _ _ _ g1 (by unfold rng; omega) h hGσ hS _ _ _ hH (lv_sub (l' := [(0, .ref rm), (1, .int (i32 v1)), (2, .long v2)]) hl [0, 1, 2] rfl) hc
set_option maxRecDepth 20000 in
theorem a_X16_records_45 {Q : Sg → Int → Prop} {X : Sg → String → Prop} (K : MC R p s m args c cX16_records 6 RX16 D cA tys A n0 s0 2 46 []) (hQ : HQI p l e R s m args below meth c cX16_records D cA A n0 s0 QM dm ra jx rm Q) (hX : HX p l e R s m args below meth c 6 D cA A n0 s0 QM dm ra jx rm X) : ∀ (σ : Sg) (v1 : Int) (v2 : Int64) (g1 : rng v1), w_X16_records_45 ra jx rm Q X σ v1 v2 → RG σ → Shp dm ra jx rm σ → JJ p l e R s m args below meth c 6 D cA A n0 s0 QM σ 45 [(0, .ref rm), (1, .int (i32 v1)), (2, .long v2)] [.ref rm] := by
  intro σ v1 v2 g1 h hGσ hS H locs ls hH hl hc
  have B := K.1
  unfold w_X16_records_45 at h
  refine lv_iconst (v := i32 2) B.1 B.2.1 dX16_records_45 (by decide) ?_
  refine lv_goto (tgt := 62) B.1 B.2.1 dX16_records_46 (by decide) ?_
  exact a_X16_records_62 K hQ hX _ _ _ _ g1 (by unfold rng; omega) h hGσ hS _ _ _ hH (lv_sub (l' := [(0, .ref rm), (1, .int (i32 v1)), (2, .long v2)]) hl [0, 1, 2] rfl) hc
set_option maxRecDepth 20000 in
theorem a_X16_records_61 {Q : Sg → Int → Prop} {X : Sg → String → Prop} (K : MC R p s m args c cX16_records 6 RX16 D cA tys A n0 s0 2 46 []) (hQ : HQI p l e R s m args below meth c cX16_records D cA A n0 s0 QM dm ra jx rm Q) (hX : HX p l e R s m args below meth c 6 D cA A n0 s0 QM dm ra jx rm X) : ∀ (σ : Sg) (v1 : Int) (v2 : Int64) (g1 : rng v1), w_X16_records_61 ra jx rm Q X σ v1 v2 → RG σ → Shp dm ra jx rm σ → JJ p l e R s m args below meth c 6 D cA A n0 s0 QM σ 61 [(0, .ref rm), (1, .int (i32 v1)), (2, .long v2)] [.ref rm] := by
  intro σ v1 v2 g1 h hGσ hS H locs ls hH hl hc
  have B := K.1
  unfold w_X16_records_61 at h
  refine lv_iconst (v := i32 0) B.1 B.2.1 dX16_records_61 (by decide) ?_
  exact a_X16_records_62 K hQ hX _ _ _ _ g1 (by unfold rng; omega) h hGσ hS _ _ _ hH (lv_sub (l' := [(0, .ref rm), (1, .int (i32 v1)), (2, .long v2)]) hl [0, 1, 2] rfl) hc
set_option maxRecDepth 20000 in
theorem a_X16_records_57 {Q : Sg → Int → Prop} {X : Sg → String → Prop} (K : MC R p s m args c cX16_records 6 RX16 D cA tys A n0 s0 2 46 []) (hQ : HQI p l e R s m args below meth c cX16_records D cA A n0 s0 QM dm ra jx rm Q) (hX : HX p l e R s m args below meth c 6 D cA A n0 s0 QM dm ra jx rm X) : ∀ (σ : Sg) (v1 : Int) (v2 : Int64) (g1 : rng v1), w_X16_records_57 ra jx rm Q X σ v1 v2 → RG σ → Shp dm ra jx rm σ → JJ p l e R s m args below meth c 6 D cA A n0 s0 QM σ 57 [(0, .ref rm), (1, .int (i32 v1)), (2, .long v2)] [.ref rm] := by
  intro σ v1 v2 g1 h hGσ hS H locs ls hH hl hc
  have B := K.1
  unfold w_X16_records_57 at h
  refine lv_iconst (v := i32 3) B.1 B.2.1 dX16_records_57 (by decide) ?_
  refine lv_goto (tgt := 62) B.1 B.2.1 dX16_records_58 (by decide) ?_
  exact a_X16_records_62 K hQ hX _ _ _ _ g1 (by unfold rng; omega) h hGσ hS _ _ _ hH (lv_sub (l' := [(0, .ref rm), (1, .int (i32 v1)), (2, .long v2)]) hl [0, 1, 2] rfl) hc
set_option maxRecDepth 20000 in
theorem a_X16_records_49 {Q : Sg → Int → Prop} {X : Sg → String → Prop} (K : MC R p s m args c cX16_records 6 RX16 D cA tys A n0 s0 2 46 []) (hQ : HQI p l e R s m args below meth c cX16_records D cA A n0 s0 QM dm ra jx rm Q) (hX : HX p l e R s m args below meth c 6 D cA A n0 s0 QM dm ra jx rm X) : ∀ (σ : Sg) (v1 : Int) (v2 : Int64) (g1 : rng v1), w_X16_records_49 ra jx rm Q X σ v1 v2 → RG σ → Shp dm ra jx rm σ → JJ p l e R s m args below meth c 6 D cA A n0 s0 QM σ 49 [(0, .ref rm), (1, .int (i32 v1)), (2, .long v2)] [.ref rm] := by
  intro σ v1 v2 g1 h hGσ hS H locs ls hH hl hc
  have B := K.1
  unfold w_X16_records_49 at h
  refine lv_aload_n B.1 B.2.1 dX16_records_49 rfl (lv_at hl 0 rfl) ?_
  refine lv_iload_n B.1 B.2.1 dX16_records_50 rfl (lv_at hl 1 rfl) ?_
  refine c_V B hH hl hc K.2.2.1 (C := RX16) (T := TX16) (N := 123) (ci := 16) (As := [.int (i32 v1)]) (ok_X16_isKeyed K.2.1 σ v1 g1 hGσ hS h) wc_X16_383 1 hd_X16_isKeyed ⟨Nat.le_trans (Nat.le_of_ble_eq_true rfl) K.2.2.2.1, Nat.le_trans (Nat.le_of_ble_eq_true rfl) K.2.2.2.2.1⟩ hS.1.1 hS.1.2 (by decide) rfl rfl (rest := [.ref rm]) rfl (Nat.le_of_ble_eq_true rfl) dX16_records_51 (fun σ14 w hq => ?_) (fun σ9 E9 hx9 => hX σ9 E9 _ _ _ (tb_out K.2.2.2.2.2 rfl) hx9.1 hx9.2.1 hx9.2.2)
  obtain ⟨r15, rfl, ⟨gr15, gzr15⟩, h, hGσ14, hS⟩ := hq
  intro H locs ls hH hl hc
  refine W.eq (g2 := F0 m 54 ls [.int (i32 r15), .ref rm]) (rfl) ?_
  try dsimp only at h
  refine lv_if_ne (tgt := 61) B.1 B.2.1 dX16_records_54 (by decide) (fun h9 => ?_) (fun h9 => ?_)
  · rw [if_pos (fun q => h9 ((z_eq gr15).mpr q))] at h
    exact a_X16_records_61 K hQ hX _ _ _ g1 h hGσ14 hS _ _ _ hH (lv_sub (l' := [(0, .ref rm), (1, .int (i32 v1)), (2, .long v2)]) hl [0, 1, 2] rfl) hc
  · rw [if_neg (fun q => q ((z_eq gr15).mp h9))] at h
    exact a_X16_records_57 K hQ hX _ _ _ g1 h hGσ14 hS _ _ _ hH (lv_sub (l' := [(0, .ref rm), (1, .int (i32 v1)), (2, .long v2)]) hl [0, 1, 2] rfl) hc
set_option maxRecDepth 20000 in
theorem a_X16_records_38 {Q : Sg → Int → Prop} {X : Sg → String → Prop} (K : MC R p s m args c cX16_records 6 RX16 D cA tys A n0 s0 2 46 []) (hQ : HQI p l e R s m args below meth c cX16_records D cA A n0 s0 QM dm ra jx rm Q) (hX : HX p l e R s m args below meth c 6 D cA A n0 s0 QM dm ra jx rm X) : ∀ (σ : Sg) (v1 : Int) (v2 : Int64) (g1 : rng v1), w_X16_records_38 ra jx rm Q X σ v1 v2 → RG σ → Shp dm ra jx rm σ → JJ p l e R s m args below meth c 6 D cA A n0 s0 QM σ 38 [(0, .ref rm), (1, .int (i32 v1)), (2, .long v2)] [.ref rm] := by
  intro σ v1 v2 g1 h hGσ hS H locs ls hH hl hc
  have B := K.1
  unfold w_X16_records_38 at h
  refine lv_aload_n B.1 B.2.1 dX16_records_38 rfl (lv_at hl 0 rfl) ?_
  refine r_geti B hH hS 32 (by decide) wf_X16_688 rfl rfl dX16_records_39 ?_
  refine lv_if_eq (tgt := 49) B.1 B.2.1 dX16_records_42 (by decide) (fun h9 => ?_) (fun h9 => ?_)
  · rw [if_pos ((z_eq (hGσ _ _)).mp h9)] at h
    exact a_X16_records_49 K hQ hX _ _ _ g1 h hGσ hS _ _ _ hH (lv_sub (l' := [(0, .ref rm), (1, .int (i32 v1)), (2, .long v2)]) hl [0, 1, 2] rfl) hc
  · rw [if_neg (fun q => h9 ((z_eq (hGσ _ _)).mpr q))] at h
    exact a_X16_records_45 K hQ hX _ _ _ g1 h hGσ hS _ _ _ hH (lv_sub (l' := [(0, .ref rm), (1, .int (i32 v1)), (2, .long v2)]) hl [0, 1, 2] rfl) hc
set_option maxRecDepth 20000 in
theorem a_X16_records_31 {Q : Sg → Int → Prop} {X : Sg → String → Prop} (K : MC R p s m args c cX16_records 6 RX16 D cA tys A n0 s0 2 46 []) (hQ : HQI p l e R s m args below meth c cX16_records D cA A n0 s0 QM dm ra jx rm Q) (hX : HX p l e R s m args below meth c 6 D cA A n0 s0 QM dm ra jx rm X) : ∀ (σ : Sg) (v1 : Int) (v2 : Int64) (g1 : rng v1), w_X16_records_31 ra jx rm Q X σ v1 v2 → RG σ → Shp dm ra jx rm σ → JJ p l e R s m args below meth c 6 D cA A n0 s0 QM σ 31 [(0, .ref rm), (1, .int (i32 v1)), (2, .long v2)] [.ref rm] := by
  intro σ v1 v2 g1 h hGσ hS H locs ls hH hl hc
  have B := K.1
  unfold w_X16_records_31 at h
  refine lv_aload_n B.1 B.2.1 dX16_records_31 rfl (lv_at hl 0 rfl) ?_
  refine r_geti B hH hS 30 (by decide) wf_X16_852 rfl rfl dX16_records_32 ?_
  refine lv_if_eq (tgt := 45) B.1 B.2.1 dX16_records_35 (by decide) (fun h9 => ?_) (fun h9 => ?_)
  · rw [if_pos ((z_eq (hGσ _ _)).mp h9)] at h
    exact a_X16_records_45 K hQ hX _ _ _ g1 h hGσ hS _ _ _ hH (lv_sub (l' := [(0, .ref rm), (1, .int (i32 v1)), (2, .long v2)]) hl [0, 1, 2] rfl) hc
  · rw [if_neg (fun q => h9 ((z_eq (hGσ _ _)).mpr q))] at h
    exact a_X16_records_38 K hQ hX _ _ _ g1 h hGσ hS _ _ _ hH (lv_sub (l' := [(0, .ref rm), (1, .int (i32 v1)), (2, .long v2)]) hl [0, 1, 2] rfl) hc
set_option maxRecDepth 20000 in
theorem a_X16_records_8 {Q : Sg → Int → Prop} {X : Sg → String → Prop} (K : MC R p s m args c cX16_records 6 RX16 D cA tys A n0 s0 2 46 []) (hQ : HQI p l e R s m args below meth c cX16_records D cA A n0 s0 QM dm ra jx rm Q) (hX : HX p l e R s m args below meth c 6 D cA A n0 s0 QM dm ra jx rm X) : ∀ (σ : Sg) (v1 : Int) (v2 : Int64) (g1 : rng v1), w_X16_records_8 ra jx rm Q X σ v1 v2 → RG σ → Shp dm ra jx rm σ → JJ p l e R s m args below meth c 6 D cA A n0 s0 QM σ 8 [(0, .ref rm), (1, .int (i32 v1)), (2, .long v2)] [.ref rm] := by
  intro σ v1 v2 g1 h hGσ hS H locs ls hH hl hc
  have B := K.1
  unfold w_X16_records_8 at h
  refine lv_iload_n B.1 B.2.1 dX16_records_8 rfl (lv_at hl 1 rfl) ?_
  refine lv_i2l B.1 B.2.1 dX16_records_9 (i32_i64 g1) ?_
  refine lv_lconst (v := 0) B.1 B.2.1 dX16_records_10 (by decide) ?_
  refine lv_aload_n B.1 B.2.1 dX16_records_11 rfl (lv_at hl 0 rfl) ?_
  refine r_getp B hH hS 17 (by decide) wf_X16_356 rfl rfl dX16_records_12 ?_
  obtain ⟨a16, ea16, ja16, h⟩ := h
  refine W.eq (g2 := F0 m 15 ls [.ref a16, .long 0, .long (Int64.ofInt v1), .ref rm]) (by rw [ea16]; rfl) ?_
  refine n_geti B hH hS ja16 0 (by decide) (List.mem_of_getElem? (i := 0) rfl) rfl dX16_records_15 ?_
  refine lv_iconst (v := i32 1) B.1 B.2.1 dX16_records_18 (by decide) ?_
  obtain ⟨q2, h⟩ := h
  refine lv_isub B.1 B.2.1 dX16_records_19 ?_
  rw [i32_sub]
  refine lv_i2l B.1 B.2.1 dX16_records_20 (i32_i64 q2) ?_
  refine c_S B hH hl hc K.2.2.1 (As := [.long (Int64.ofInt v1), .long 0, .long (Int64.ofInt (gI σ a16 0 - 1))]) (ok_X16_within K.2.1 σ (Int64.ofInt v1) 0 (Int64.ofInt (gI σ a16 0 - 1)) hGσ hS h) wc_X16_45 3 hd_X16_within ⟨Nat.le_trans (Nat.le_of_ble_eq_true rfl) K.2.2.2.1, Nat.le_trans (Nat.le_of_ble_eq_true rfl) K.2.2.2.2.1⟩ rfl (rest := [.ref rm]) rfl (Nat.le_of_ble_eq_true rfl) dX16_records_21 (fun σ17 w hq => ?_) (fun σ9 E9 hx9 => hX σ9 E9 _ _ _ (tb_out K.2.2.2.2.2 rfl) hx9.1 hx9.2.1 hx9.2.2)
  obtain ⟨r18, rfl, ⟨gr18, gzr18⟩, h, hGσ17, hS⟩ := hq
  intro H locs ls hH hl hc
  refine W.eq (g2 := F0 m 24 ls [.int (i32 r18), .ref rm]) (rfl) ?_
  try dsimp only at h
  refine lv_if_ne (tgt := 31) B.1 B.2.1 dX16_records_24 (by decide) (fun h9 => ?_) (fun h9 => ?_)
  · rw [if_pos (fun q => h9 ((z_eq gr18).mpr q))] at h
    exact a_X16_records_31 K hQ hX _ _ _ g1 h hGσ17 hS _ _ _ hH (lv_sub (l' := [(0, .ref rm), (1, .int (i32 v1)), (2, .long v2)]) hl [0, 1, 2] rfl) hc
  · rw [if_neg (fun q => q ((z_eq gr18).mp h9))] at h
    exact a_X16_records_27 K hQ hX _ _ _ g1 h hGσ17 hS _ _ _ hH (lv_sub (l' := [(0, .ref rm), (1, .int (i32 v1)), (2, .long v2)]) hl [0, 1, 2] rfl) hc
set_option maxRecDepth 20000 in
theorem a_X16_records_0 {Q : Sg → Int → Prop} {X : Sg → String → Prop} (K : MC R p s m args c cX16_records 6 RX16 D cA tys A n0 s0 2 46 []) (hQ : HQI p l e R s m args below meth c cX16_records D cA A n0 s0 QM dm ra jx rm Q) (hX : HX p l e R s m args below meth c 6 D cA A n0 s0 QM dm ra jx rm X) : ∀ (σ : Sg) (v1 : Int) (v2 : Int64) (g1 : rng v1), w_X16_records_0 ra jx rm Q X σ v1 v2 → RG σ → Shp dm ra jx rm σ → JJ p l e R s m args below meth c 6 D cA A n0 s0 QM σ 0 [(0, .ref rm), (1, .int (i32 v1)), (2, .long v2)] [] := by
  intro σ v1 v2 g1 h hGσ hS H locs ls hH hl hc
  have B := K.1
  unfold w_X16_records_0 at h
  refine lv_aload_n B.1 B.2.1 dX16_records_0 rfl (lv_at hl 0 rfl) ?_
  refine lv_aload_n B.1 B.2.1 dX16_records_1 rfl (lv_at hl 0 rfl) ?_
  refine r_getp B hH hS 17 (by decide) wf_X16_356 rfl rfl dX16_records_2 ?_
  refine lv_ifnullQ (tgt := 27) B.1 B.2.1 dX16_records_5 (by decide) (fun h9 => ?_) (fun h9 => ?_)
  · rw [if_pos (h9)] at h
    exact a_X16_records_27 K hQ hX _ _ _ g1 h hGσ hS _ _ _ hH (lv_sub (l' := [(0, .ref rm), (1, .int (i32 v1)), (2, .long v2)]) hl [0, 1, 2] rfl) hc
  · rw [if_neg (h9)] at h
    exact a_X16_records_8 K hQ hX _ _ _ g1 h hGσ hS _ _ _ hH (lv_sub (l' := [(0, .ref rm), (1, .int (i32 v1)), (2, .long v2)]) hl [0, 1, 2] rfl) hc
theorem ok_X16_records (hT : Tys cA tys) {Q : Sg → Int → Prop} {X : Sg → String → Prop} (σ : Sg) (v1 : Int) (v2 : Int64) (g1 : rng v1) (hG : RG σ) (hS : Shp dm ra jx rm σ) (h : wp_X16_records ra jx rm v1 v2 σ Q X) : Ok l D cA tys A yX16_records (.code yX16_records cX16_records 6 (some .int)) 2 46 [.ref rm, .int (i32 v1), .long v2] σ (QnI dm ra jx rm Q) (QxR dm ra jx rm X) := by
  unfold wp_X16_records at h
  exact ok_I (plainFor_of_name (by decide)) (by exact Nat.le_of_ble_eq_true rfl) hT (fun p e R s m args below meth c K hQ hX H locs ls hH hl hc => a_X16_records_0 K hQ hX σ v1 v2 g1 h hG hS H locs ls hH (lv_sub (l' := [(0, .ref rm), (1, .int (i32 v1)), (2, .long v2)]) hl [0, 1, 2] rfl) hc)
theorem dX16_reopen_0 : decode cX16_reopen 0 = .ok (.aload_n 0, 1) := by decide +kernel
theorem dX16_reopen_1 : decode cX16_reopen 1 = .ok (.aload_n 0, 1) := by decide +kernel
theorem dX16_reopen_2 : decode cX16_reopen 2 = .ok (.getfield 688, 3) := by decide +kernel
theorem dX16_reopen_5 : decode cX16_reopen 5 = .ok (.ifCond .ne 7, 3) := by decide +kernel
theorem dX16_reopen_8 : decode cX16_reopen 8 = .ok (.iconst 1, 1) := by decide +kernel
theorem dX16_reopen_9 : decode cX16_reopen 9 = .ok (.goto 4, 3) := by decide +kernel
theorem dX16_reopen_12 : decode cX16_reopen 12 = .ok (.iconst 0, 1) := by decide +kernel
theorem dX16_reopen_13 : decode cX16_reopen 13 = .ok (.putfield 1, 3) := by decide +kernel
theorem dX16_reopen_16 : decode cX16_reopen 16 = .ok (.aload_n 0, 1) := by decide +kernel
theorem dX16_reopen_17 : decode cX16_reopen 17 = .ok (.getfield 1, 3) := by decide +kernel
theorem dX16_reopen_20 : decode cX16_reopen 20 = .ok (.ifCond .le 5, 3) := by decide +kernel
theorem dX16_reopen_23 : decode cX16_reopen 23 = .ok (.iconst 0, 1) := by decide +kernel
theorem dX16_reopen_24 : decode cX16_reopen 24 = .ok (.ireturn, 1) := by decide +kernel
theorem dX16_reopen_25 : decode cX16_reopen 25 = .ok (.aload_n 0, 1) := by decide +kernel
theorem dX16_reopen_26 : decode cX16_reopen 26 = .ok (.iconst 0, 1) := by decide +kernel
theorem dX16_reopen_27 : decode cX16_reopen 27 = .ok (.putfield 688, 3) := by decide +kernel
theorem dX16_reopen_30 : decode cX16_reopen 30 = .ok (.aload_n 0, 1) := by decide +kernel
theorem dX16_reopen_31 : decode cX16_reopen 31 = .ok (.iconst (-1), 1) := by decide +kernel
theorem dX16_reopen_32 : decode cX16_reopen 32 = .ok (.putfield 685, 3) := by decide +kernel
theorem dX16_reopen_35 : decode cX16_reopen 35 = .ok (.aload_n 0, 1) := by decide +kernel
theorem dX16_reopen_36 : decode cX16_reopen 36 = .ok (.aload_n 0, 1) := by decide +kernel
theorem dX16_reopen_37 : decode cX16_reopen 37 = .ok (.getfield 365, 3) := by decide +kernel
theorem dX16_reopen_40 : decode cX16_reopen 40 = .ok (.invokevirtual 994, 3) := by decide +kernel
theorem dX16_reopen_43 : decode cX16_reopen 43 = .ok (.ireturn, 1) := by decide +kernel
set_option maxRecDepth 20000 in
theorem a_X16_reopen_25 {Q : Sg → Int → Prop} {X : Sg → String → Prop} (K : MC R p s m args c cX16_reopen 1 RX16 D cA tys A n0 s0 5 117 []) (hQ : HQI p l e R s m args below meth c cX16_reopen D cA A n0 s0 QM dm ra jx rm Q) (hX : HX p l e R s m args below meth c 1 D cA A n0 s0 QM dm ra jx rm X) : ∀ (σ : Sg), w_X16_reopen_25 ra jx rm Q X σ → RG σ → Shp dm ra jx rm σ → JJ p l e R s m args below meth c 1 D cA A n0 s0 QM σ 25 [(0, .ref rm)] [] := by
  intro σ h hGσ hS H locs ls hH hl hc
  have B := K.1
  unfold w_X16_reopen_25 at h
  refine lv_aload_n B.1 B.2.1 dX16_reopen_25 rfl (lv_at hl 0 rfl) ?_
  refine lv_iconst (v := i32 0) B.1 B.2.1 dX16_reopen_26 (by decide) ?_
  obtain ⟨σ11, eσ11⟩ : ∃ z, z = pI σ rm 32 0 := ⟨_, rfl⟩
  have h := h σ11 eσ11
  refine r_puti B hH hS 32 (ty := .boolean) (by decide) wf_X16_688 rfl rfl rfl rfl rfl rfl dX16_reopen_27 (fun H locs hH => ?_)
  have hH : Hd D cA A s (pI σ rm 32 0) H locs := hH
  rw [← eσ11] at hH
  have hGσ11 : RG σ11 := by rw [eσ11]; exact hGσ.pI (by unfold rng; omega)
  have hS : Shp dm ra jx rm σ11 := by rw [eσ11]; exact hS
  have hc : CB n0 s0 σ11 := by rw [eσ11]; exact hc
  rw [show gc σ = gc σ11 by rw [eσ11], show gs σ = gs σ11 by rw [eσ11]]
  refine lv_aload_n B.1 B.2.1 dX16_reopen_30 rfl (lv_at hl 0 rfl) ?_
  refine lv_iconst (v := i32 (-1)) B.1 B.2.1 dX16_reopen_31 (by decide) ?_
  obtain ⟨σ12, eσ12⟩ : ∃ z, z = pI σ11 rm 96 (-1) := ⟨_, rfl⟩
  have h := h σ12 eσ12
  refine r_puti B hH hS 96 (ty := .int) (by decide) wf_X16_685 rfl rfl rfl rfl rfl rfl dX16_reopen_32 (fun H locs hH => ?_)
  have hH : Hd D cA A s (pI σ11 rm 96 (-1)) H locs := hH
  rw [← eσ12] at hH
  have hGσ12 : RG σ12 := by rw [eσ12]; exact hGσ11.pI (by unfold rng; omega)
  have hS : Shp dm ra jx rm σ12 := by rw [eσ12]; exact hS
  have hc : CB n0 s0 σ12 := by rw [eσ12]; exact hc
  rw [show gc σ11 = gc σ12 by rw [eσ12], show gs σ11 = gs σ12 by rw [eσ12]]
  refine lv_aload_n B.1 B.2.1 dX16_reopen_35 rfl (lv_at hl 0 rfl) ?_
  refine lv_aload_n B.1 B.2.1 dX16_reopen_36 rfl (lv_at hl 0 rfl) ?_
  refine r_geti B hH hS 33 (by decide) wf_X16_365 rfl rfl dX16_reopen_37 ?_
  refine c_V B hH hl hc K.2.2.1 (C := RX16) (T := TX16) (N := 123) (ci := 16) (As := [.int (i32 (gI σ12 rm 33))]) (ok_X16_beginAgain K.2.1 σ12 (gI σ12 rm 33) (hGσ12 _ _) hGσ12 hS h) wc_X16_994 1 hd_X16_beginAgain ⟨Nat.le_trans (Nat.le_of_ble_eq_true rfl) K.2.2.2.1, Nat.le_trans (Nat.le_of_ble_eq_true rfl) K.2.2.2.2.1⟩ hS.1.1 hS.1.2 (by decide) rfl rfl (rest := []) rfl (Nat.le_of_ble_eq_true rfl) dX16_reopen_40 (fun σ13 w hq => ?_) (fun σ9 E9 hx9 => hX σ9 E9 _ _ _ (tb_out K.2.2.2.2.2 rfl) hx9.1 hx9.2.1 hx9.2.2)
  obtain ⟨r14, rfl, gr14, h, hGσ13, hS⟩ := hq
  intro H locs ls hH hl hc
  refine W.eq (g2 := F0 m 43 ls [.int (i32 r14)]) (rfl) ?_
  try dsimp only at h
  exact hQ _ _ _ _ _ _ gr14 dX16_reopen_43 hH hc h hGσ13 hS
set_option maxRecDepth 20000 in
theorem a_X16_reopen_23 {Q : Sg → Int → Prop} {X : Sg → String → Prop} (K : MC R p s m args c cX16_reopen 1 RX16 D cA tys A n0 s0 5 117 []) (hQ : HQI p l e R s m args below meth c cX16_reopen D cA A n0 s0 QM dm ra jx rm Q) (hX : HX p l e R s m args below meth c 1 D cA A n0 s0 QM dm ra jx rm X) : ∀ (σ : Sg), w_X16_reopen_23 ra jx rm Q X σ → RG σ → Shp dm ra jx rm σ → JJ p l e R s m args below meth c 1 D cA A n0 s0 QM σ 23 [(0, .ref rm)] [] := by
  intro σ h hGσ hS H locs ls hH hl hc
  have B := K.1
  unfold w_X16_reopen_23 at h
  refine lv_iconst (v := i32 0) B.1 B.2.1 dX16_reopen_23 (by decide) ?_
  exact hQ _ _ _ _ _ _ (by unfold rng; omega) dX16_reopen_24 hH hc h hGσ hS
set_option maxRecDepth 20000 in
theorem a_X16_reopen_13 {Q : Sg → Int → Prop} {X : Sg → String → Prop} (K : MC R p s m args c cX16_reopen 1 RX16 D cA tys A n0 s0 5 117 []) (hQ : HQI p l e R s m args below meth c cX16_reopen D cA A n0 s0 QM dm ra jx rm Q) (hX : HX p l e R s m args below meth c 1 D cA A n0 s0 QM dm ra jx rm X) : ∀ (σ : Sg) (u0 : Int) (gu0 : rng u0), w_X16_reopen_13 ra jx rm Q X σ u0 → RG σ → Shp dm ra jx rm σ → JJ p l e R s m args below meth c 1 D cA A n0 s0 QM σ 13 [(0, .ref rm)] [.int (i32 u0), .ref rm] := by
  intro σ u0 gu0 h hGσ hS H locs ls hH hl hc
  have B := K.1
  unfold w_X16_reopen_13 at h
  obtain ⟨σ15, eσ15⟩ : ∃ z, z = pI σ rm 0 u0 := ⟨_, rfl⟩
  have h := h σ15 eσ15
  refine r_puti B hH hS 0 (ty := .int) (by decide) wf_X16_1 rfl rfl rfl rfl rfl rfl dX16_reopen_13 (fun H locs hH => ?_)
  have hH : Hd D cA A s (pI σ rm 0 u0) H locs := hH
  rw [← eσ15] at hH
  have hGσ15 : RG σ15 := by rw [eσ15]; exact hGσ.pI gu0
  have hS : Shp dm ra jx rm σ15 := by rw [eσ15]; exact hS
  have hc : CB n0 s0 σ15 := by rw [eσ15]; exact hc
  rw [show gc σ = gc σ15 by rw [eσ15], show gs σ = gs σ15 by rw [eσ15]]
  refine lv_aload_n B.1 B.2.1 dX16_reopen_16 rfl (lv_at hl 0 rfl) ?_
  refine r_geti B hH hS 0 (by decide) wf_X16_1 rfl rfl dX16_reopen_17 ?_
  refine lv_if_le (tgt := 25) B.1 B.2.1 dX16_reopen_20 (by decide) (fun h9 => ?_) (fun h9 => ?_)
  · rw [if_pos ((z_le (hGσ15 _ _)).mp h9)] at h
    exact a_X16_reopen_25 K hQ hX _ h hGσ15 hS _ _ _ hH (lv_sub (l' := [(0, .ref rm)]) hl [0] rfl) hc
  · rw [if_neg (fun q => h9 ((z_le (hGσ15 _ _)).mpr q))] at h
    exact a_X16_reopen_23 K hQ hX _ h hGσ15 hS _ _ _ hH (lv_sub (l' := [(0, .ref rm)]) hl [0] rfl) hc
set_option maxRecDepth 20000 in
theorem a_X16_reopen_12 {Q : Sg → Int → Prop} {X : Sg → String → Prop} (K : MC R p s m args c cX16_reopen 1 RX16 D cA tys A n0 s0 5 117 []) (hQ : HQI p l e R s m args below meth c cX16_reopen D cA A n0 s0 QM dm ra jx rm Q) (hX : HX p l e R s m args below meth c 1 D cA A n0 s0 QM dm ra jx rm X) : ∀ (σ : Sg), w_X16_reopen_12 ra jx rm Q X σ → RG σ → Shp dm ra jx rm σ → JJ p l e R s m args below meth c 1 D cA A n0 s0 QM σ 12 [(0, .ref rm)] [.ref rm] := by
  intro σ h hGσ hS H locs ls hH hl hc
  have B := K.1
  unfold w_X16_reopen_12 at h
  refine lv_iconst (v := i32 0) B.1 B.2.1 dX16_reopen_12 (by decide) ?_
  exact a_X16_reopen_13 K hQ hX _ _ (by unfold rng; omega) h hGσ hS _ _ _ hH (lv_sub (l' := [(0, .ref rm)]) hl [0] rfl) hc
set_option maxRecDepth 20000 in
theorem a_X16_reopen_8 {Q : Sg → Int → Prop} {X : Sg → String → Prop} (K : MC R p s m args c cX16_reopen 1 RX16 D cA tys A n0 s0 5 117 []) (hQ : HQI p l e R s m args below meth c cX16_reopen D cA A n0 s0 QM dm ra jx rm Q) (hX : HX p l e R s m args below meth c 1 D cA A n0 s0 QM dm ra jx rm X) : ∀ (σ : Sg), w_X16_reopen_8 ra jx rm Q X σ → RG σ → Shp dm ra jx rm σ → JJ p l e R s m args below meth c 1 D cA A n0 s0 QM σ 8 [(0, .ref rm)] [.ref rm] := by
  intro σ h hGσ hS H locs ls hH hl hc
  have B := K.1
  unfold w_X16_reopen_8 at h
  refine lv_iconst (v := i32 1) B.1 B.2.1 dX16_reopen_8 (by decide) ?_
  refine lv_goto (tgt := 13) B.1 B.2.1 dX16_reopen_9 (by decide) ?_
  exact a_X16_reopen_13 K hQ hX _ _ (by unfold rng; omega) h hGσ hS _ _ _ hH (lv_sub (l' := [(0, .ref rm)]) hl [0] rfl) hc
set_option maxRecDepth 20000 in
theorem a_X16_reopen_0 {Q : Sg → Int → Prop} {X : Sg → String → Prop} (K : MC R p s m args c cX16_reopen 1 RX16 D cA tys A n0 s0 5 117 []) (hQ : HQI p l e R s m args below meth c cX16_reopen D cA A n0 s0 QM dm ra jx rm Q) (hX : HX p l e R s m args below meth c 1 D cA A n0 s0 QM dm ra jx rm X) : ∀ (σ : Sg), w_X16_reopen_0 ra jx rm Q X σ → RG σ → Shp dm ra jx rm σ → JJ p l e R s m args below meth c 1 D cA A n0 s0 QM σ 0 [(0, .ref rm)] [] := by
  intro σ h hGσ hS H locs ls hH hl hc
  have B := K.1
  unfold w_X16_reopen_0 at h
  refine lv_aload_n B.1 B.2.1 dX16_reopen_0 rfl (lv_at hl 0 rfl) ?_
  refine lv_aload_n B.1 B.2.1 dX16_reopen_1 rfl (lv_at hl 0 rfl) ?_
  refine r_geti B hH hS 32 (by decide) wf_X16_688 rfl rfl dX16_reopen_2 ?_
  refine lv_if_ne (tgt := 12) B.1 B.2.1 dX16_reopen_5 (by decide) (fun h9 => ?_) (fun h9 => ?_)
  · rw [if_pos (fun q => h9 ((z_eq (hGσ _ _)).mpr q))] at h
    exact a_X16_reopen_12 K hQ hX _ h hGσ hS _ _ _ hH (lv_sub (l' := [(0, .ref rm)]) hl [0] rfl) hc
  · rw [if_neg (fun q => q ((z_eq (hGσ _ _)).mp h9))] at h
    exact a_X16_reopen_8 K hQ hX _ h hGσ hS _ _ _ hH (lv_sub (l' := [(0, .ref rm)]) hl [0] rfl) hc
theorem ok_X16_reopen (hT : Tys cA tys) {Q : Sg → Int → Prop} {X : Sg → String → Prop} (σ : Sg) (hG : RG σ) (hS : Shp dm ra jx rm σ) (h : wp_X16_reopen ra jx rm σ Q X) : Ok l D cA tys A yX16_reopen (.code yX16_reopen cX16_reopen 1 (some .int)) 5 117 [.ref rm] σ (QnI dm ra jx rm Q) (QxR dm ra jx rm X) := by
  unfold wp_X16_reopen at h
  exact ok_I (plainFor_of_name (by decide)) (by exact Nat.le_of_ble_eq_true rfl) hT (fun p e R s m args below meth c K hQ hX H locs ls hH hl hc => a_X16_reopen_0 K hQ hX σ h hG hS H locs ls hH (lv_sub (l' := [(0, .ref rm)]) hl [0] rfl) hc)
theorem dX16_rescale_0 : decode cX16_rescale 0 = .ok (.aload_n 0, 1) := by decide +kernel
theorem dX16_rescale_1 : decode cX16_rescale 1 = .ok (.aload_n 0, 1) := by decide +kernel
theorem dX16_rescale_2 : decode cX16_rescale 2 = .ok (.getfield 852, 3) := by decide +kernel
theorem dX16_rescale_5 : decode cX16_rescale 5 = .ok (.ifCond .eq 10, 3) := by decide +kernel
theorem dX16_rescale_8 : decode cX16_rescale 8 = .ok (.aload_n 0, 1) := by decide +kernel
theorem dX16_rescale_9 : decode cX16_rescale 9 = .ok (.getfield 688, 3) := by decide +kernel
theorem dX16_rescale_12 : decode cX16_rescale 12 = .ok (.ifCond .eq 7, 3) := by decide +kernel
theorem dX16_rescale_15 : decode cX16_rescale 15 = .ok (.iconst 1, 1) := by decide +kernel
theorem dX16_rescale_16 : decode cX16_rescale 16 = .ok (.goto 20, 3) := by decide +kernel
theorem dX16_rescale_19 : decode cX16_rescale 19 = .ok (.iload_n 1, 1) := by decide +kernel
theorem dX16_rescale_20 : decode cX16_rescale 20 = .ok (.i2l, 1) := by decide +kernel
theorem dX16_rescale_21 : decode cX16_rescale 21 = .ok (.lconst 1, 1) := by decide +kernel
theorem dX16_rescale_22 : decode cX16_rescale 22 = .ok (.ldc2_w 359, 3) := by decide +kernel
theorem dX16_rescale_25 : decode cX16_rescale 25 = .ok (.invokestatic 45, 3) := by decide +kernel
theorem dX16_rescale_28 : decode cX16_rescale 28 = .ok (.ifCond .ne 7, 3) := by decide +kernel
theorem dX16_rescale_31 : decode cX16_rescale 31 = .ok (.iconst 2, 1) := by decide +kernel
theorem dX16_rescale_32 : decode cX16_rescale 32 = .ok (.goto 4, 3) := by decide +kernel
theorem dX16_rescale_35 : decode cX16_rescale 35 = .ok (.iconst 0, 1) := by decide +kernel
theorem dX16_rescale_36 : decode cX16_rescale 36 = .ok (.putfield 1, 3) := by decide +kernel
theorem dX16_rescale_39 : decode cX16_rescale 39 = .ok (.aload_n 0, 1) := by decide +kernel
theorem dX16_rescale_40 : decode cX16_rescale 40 = .ok (.getfield 1, 3) := by decide +kernel
theorem dX16_rescale_43 : decode cX16_rescale 43 = .ok (.ifCond .le 7, 3) := by decide +kernel
theorem dX16_rescale_46 : decode cX16_rescale 46 = .ok (.iconst 0, 1) := by decide +kernel
theorem dX16_rescale_47 : decode cX16_rescale 47 = .ok (.goto 8, 3) := by decide +kernel
theorem dX16_rescale_50 : decode cX16_rescale 50 = .ok (.aload_n 0, 1) := by decide +kernel
theorem dX16_rescale_51 : decode cX16_rescale 51 = .ok (.iload_n 1, 1) := by decide +kernel
theorem dX16_rescale_52 : decode cX16_rescale 52 = .ok (.invokevirtual 994, 3) := by decide +kernel
theorem dX16_rescale_55 : decode cX16_rescale 55 = .ok (.ireturn, 1) := by decide +kernel
set_option maxRecDepth 20000 in
theorem a_X16_rescale_55 {Q : Sg → Int → Prop} {X : Sg → String → Prop} (K : MC R p s m args c cX16_rescale 2 RX16 D cA tys A n0 s0 5 117 []) (hQ : HQI p l e R s m args below meth c cX16_rescale D cA A n0 s0 QM dm ra jx rm Q) (hX : HX p l e R s m args below meth c 2 D cA A n0 s0 QM dm ra jx rm X) : ∀ (σ : Sg) (u0 : Int) (gu0 : rng u0), w_X16_rescale_55 ra jx rm Q X σ u0 → RG σ → Shp dm ra jx rm σ → JJ p l e R s m args below meth c 2 D cA A n0 s0 QM σ 55 [(0, .ref rm)] [.int (i32 u0)] := by
  intro σ u0 gu0 h hGσ hS H locs ls hH hl hc
  have B := K.1
  unfold w_X16_rescale_55 at h
  exact hQ _ _ _ _ _ _ gu0 dX16_rescale_55 hH hc h hGσ hS
set_option maxRecDepth 20000 in
theorem a_X16_rescale_50 {Q : Sg → Int → Prop} {X : Sg → String → Prop} (K : MC R p s m args c cX16_rescale 2 RX16 D cA tys A n0 s0 5 117 []) (hQ : HQI p l e R s m args below meth c cX16_rescale D cA A n0 s0 QM dm ra jx rm Q) (hX : HX p l e R s m args below meth c 2 D cA A n0 s0 QM dm ra jx rm X) : ∀ (σ : Sg) (v1 : Int) (g1 : rng v1), w_X16_rescale_50 ra jx rm Q X σ v1 → RG σ → Shp dm ra jx rm σ → JJ p l e R s m args below meth c 2 D cA A n0 s0 QM σ 50 [(0, .ref rm), (1, .int (i32 v1))] [] := by
  intro σ v1 g1 h hGσ hS H locs ls hH hl hc
  have B := K.1
  unfold w_X16_rescale_50 at h
  refine lv_aload_n B.1 B.2.1 dX16_rescale_50 rfl (lv_at hl 0 rfl) ?_
  refine lv_iload_n B.1 B.2.1 dX16_rescale_51 rfl (lv_at hl 1 rfl) ?_
  refine c_V B hH hl hc K.2.2.1 (C := RX16) (T := TX16) (N := 123) (ci := 16) (As := [.int (i32 v1)]) (ok_X16_beginAgain K.2.1 σ v1 g1 hGσ hS h) wc_X16_994 1 hd_X16_beginAgain ⟨Nat.le_trans (Nat.le_of_ble_eq_true rfl) K.2.2.2.1, Nat.le_trans (Nat.le_of_ble_eq_true rfl) K.2.2.2.2.1⟩ hS.1.1 hS.1.2 (by decide) rfl rfl (rest := []) rfl (Nat.le_of_ble_eq_true rfl) dX16_rescale_52 (fun σ11 w hq => ?_) (fun σ9 E9 hx9 => hX σ9 E9 _ _ _ (tb_out K.2.2.2.2.2 rfl) hx9.1 hx9.2.1 hx9.2.2)
  obtain ⟨r12, rfl, gr12, h, hGσ11, hS⟩ := hq
  intro H locs ls hH hl hc
  refine W.eq (g2 := F0 m 55 ls [.int (i32 r12)]) (rfl) ?_
  try dsimp only at h
  exact a_X16_rescale_55 K hQ hX _ _ gr12 h hGσ11 hS _ _ _ hH (lv_sub (l' := [(0, .ref rm)]) hl [0] rfl) hc
set_option maxRecDepth 20000 in
theorem a_X16_rescale_46 {Q : Sg → Int → Prop} {X : Sg → String → Prop} (K : MC R p s m args c cX16_rescale 2 RX16 D cA tys A n0 s0 5 117 []) (hQ : HQI p l e R s m args below meth c cX16_rescale D cA A n0 s0 QM dm ra jx rm Q) (hX : HX p l e R s m args below meth c 2 D cA A n0 s0 QM dm ra jx rm X) : ∀ (σ : Sg), w_X16_rescale_46 ra jx rm Q X σ → RG σ → Shp dm ra jx rm σ → JJ p l e R s m args below meth c 2 D cA A n0 s0 QM σ 46 [(0, .ref rm)] [] := by
  intro σ h hGσ hS H locs ls hH hl hc
  have B := K.1
  unfold w_X16_rescale_46 at h
  refine lv_iconst (v := i32 0) B.1 B.2.1 dX16_rescale_46 (by decide) ?_
  refine lv_goto (tgt := 55) B.1 B.2.1 dX16_rescale_47 (by decide) ?_
  exact a_X16_rescale_55 K hQ hX _ _ (by unfold rng; omega) h hGσ hS _ _ _ hH (lv_sub (l' := [(0, .ref rm)]) hl [0] rfl) hc
set_option maxRecDepth 20000 in
theorem a_X16_rescale_36 {Q : Sg → Int → Prop} {X : Sg → String → Prop} (K : MC R p s m args c cX16_rescale 2 RX16 D cA tys A n0 s0 5 117 []) (hQ : HQI p l e R s m args below meth c cX16_rescale D cA A n0 s0 QM dm ra jx rm Q) (hX : HX p l e R s m args below meth c 2 D cA A n0 s0 QM dm ra jx rm X) : ∀ (σ : Sg) (v1 : Int) (u0 : Int) (g1 : rng v1) (gu0 : rng u0), w_X16_rescale_36 ra jx rm Q X σ v1 u0 → RG σ → Shp dm ra jx rm σ → JJ p l e R s m args below meth c 2 D cA A n0 s0 QM σ 36 [(0, .ref rm), (1, .int (i32 v1))] [.int (i32 u0), .ref rm] := by
  intro σ v1 u0 g1 gu0 h hGσ hS H locs ls hH hl hc
  have B := K.1
  unfold w_X16_rescale_36 at h
  obtain ⟨σ13, eσ13⟩ : ∃ z, z = pI σ rm 0 u0 := ⟨_, rfl⟩
  have h := h σ13 eσ13
  refine r_puti B hH hS 0 (ty := .int) (by decide) wf_X16_1 rfl rfl rfl rfl rfl rfl dX16_rescale_36 (fun H locs hH => ?_)
  have hH : Hd D cA A s (pI σ rm 0 u0) H locs := hH
  rw [← eσ13] at hH
  have hGσ13 : RG σ13 := by rw [eσ13]; exact hGσ.pI gu0
  have hS : Shp dm ra jx rm σ13 := by rw [eσ13]; exact hS
  have hc : CB n0 s0 σ13 := by rw [eσ13]; exact hc
  rw [show gc σ = gc σ13 by rw [eσ13], show gs σ = gs σ13 by rw [eσ13]]
  refine lv_aload_n B.1 B.2.1 dX16_rescale_39 rfl (lv_at hl 0 rfl) ?_
  refine r_geti B hH hS 0 (by decide) wf_X16_1 rfl rfl dX16_rescale_40 ?_
  refine lv_if_le (tgt := 50) B.1 B.2.1 dX16_rescale_43 (by decide) (fun h9 => ?_) (fun h9 => ?_)
  · rw [if_pos ((z_le (hGσ13 _ _)).mp h9)] at h
    exact a_X16_rescale_50 K hQ hX _ _ g1 h hGσ13 hS _ _ _ hH (lv_sub (l' := [(0, .ref rm), (1, .int (i32 v1))]) hl [0, 1] rfl) hc
  · rw [if_neg (fun q => h9 ((z_le (hGσ13 _ _)).mpr q))] at h
    exact a_X16_rescale_46 K hQ hX _ h hGσ13 hS _ _ _ hH (lv_sub (l' := [(0, .ref rm)]) hl [0] rfl) hc
set_option maxRecDepth 20000 in
theorem a_X16_rescale_15 {Q : Sg → Int → Prop} {X : Sg → String → Prop} (K : MC R p s m args c cX16_rescale 2 RX16 D cA tys A n0 s0 5 117 []) (hQ : HQI p l e R s m args below meth c cX16_rescale D cA A n0 s0 QM dm ra jx rm Q) (hX : HX p l e R s m args below meth c 2 D cA A n0 s0 QM dm ra jx rm X) : ∀ (σ : Sg) (v1 : Int) (g1 : rng v1), w_X16_rescale_15 ra jx rm Q X σ v1 → RG σ → Shp dm ra jx rm σ → JJ p l e R s m args below meth c 2 D cA A n0 s0 QM σ 15 [(0, .ref rm), (1, .int (i32 v1))] [.ref rm] := by
  intro σ v1 g1 h hGσ hS H locs ls hH hl hc
  have B := K.1
  unfold w_X16_rescale_15 at h
  refine lv_iconst (v := i32 1) B.1 B.2.1 dX16_rescale_15 (by decide) ?_
  refine lv_goto (tgt := 36) B.1 B.2.1 dX16_rescale_16 (by decide) ?_
  exact a_X16_rescale_36 K hQ hX _ _ _ g1 (by unfold rng; omega) h hGσ hS _ _ _ hH (lv_sub (l' := [(0, .ref rm), (1, .int (i32 v1))]) hl [0, 1] rfl) hc
set_option maxRecDepth 20000 in
theorem a_X16_rescale_35 {Q : Sg → Int → Prop} {X : Sg → String → Prop} (K : MC R p s m args c cX16_rescale 2 RX16 D cA tys A n0 s0 5 117 []) (hQ : HQI p l e R s m args below meth c cX16_rescale D cA A n0 s0 QM dm ra jx rm Q) (hX : HX p l e R s m args below meth c 2 D cA A n0 s0 QM dm ra jx rm X) : ∀ (σ : Sg) (v1 : Int) (g1 : rng v1), w_X16_rescale_35 ra jx rm Q X σ v1 → RG σ → Shp dm ra jx rm σ → JJ p l e R s m args below meth c 2 D cA A n0 s0 QM σ 35 [(0, .ref rm), (1, .int (i32 v1))] [.ref rm] := by
  intro σ v1 g1 h hGσ hS H locs ls hH hl hc
  have B := K.1
  unfold w_X16_rescale_35 at h
  refine lv_iconst (v := i32 0) B.1 B.2.1 dX16_rescale_35 (by decide) ?_
  exact a_X16_rescale_36 K hQ hX _ _ _ g1 (by unfold rng; omega) h hGσ hS _ _ _ hH (lv_sub (l' := [(0, .ref rm), (1, .int (i32 v1))]) hl [0, 1] rfl) hc
set_option maxRecDepth 20000 in
theorem a_X16_rescale_31 {Q : Sg → Int → Prop} {X : Sg → String → Prop} (K : MC R p s m args c cX16_rescale 2 RX16 D cA tys A n0 s0 5 117 []) (hQ : HQI p l e R s m args below meth c cX16_rescale D cA A n0 s0 QM dm ra jx rm Q) (hX : HX p l e R s m args below meth c 2 D cA A n0 s0 QM dm ra jx rm X) : ∀ (σ : Sg) (v1 : Int) (g1 : rng v1), w_X16_rescale_31 ra jx rm Q X σ v1 → RG σ → Shp dm ra jx rm σ → JJ p l e R s m args below meth c 2 D cA A n0 s0 QM σ 31 [(0, .ref rm), (1, .int (i32 v1))] [.ref rm] := by
  intro σ v1 g1 h hGσ hS H locs ls hH hl hc
  have B := K.1
  unfold w_X16_rescale_31 at h
  refine lv_iconst (v := i32 2) B.1 B.2.1 dX16_rescale_31 (by decide) ?_
  refine lv_goto (tgt := 36) B.1 B.2.1 dX16_rescale_32 (by decide) ?_
  exact a_X16_rescale_36 K hQ hX _ _ _ g1 (by unfold rng; omega) h hGσ hS _ _ _ hH (lv_sub (l' := [(0, .ref rm), (1, .int (i32 v1))]) hl [0, 1] rfl) hc
set_option maxRecDepth 20000 in
theorem a_X16_rescale_19 {Q : Sg → Int → Prop} {X : Sg → String → Prop} (K : MC R p s m args c cX16_rescale 2 RX16 D cA tys A n0 s0 5 117 []) (hQ : HQI p l e R s m args below meth c cX16_rescale D cA A n0 s0 QM dm ra jx rm Q) (hX : HX p l e R s m args below meth c 2 D cA A n0 s0 QM dm ra jx rm X) : ∀ (σ : Sg) (v1 : Int) (g1 : rng v1), w_X16_rescale_19 ra jx rm Q X σ v1 → RG σ → Shp dm ra jx rm σ → JJ p l e R s m args below meth c 2 D cA A n0 s0 QM σ 19 [(0, .ref rm), (1, .int (i32 v1))] [.ref rm] := by
  intro σ v1 g1 h hGσ hS H locs ls hH hl hc
  have B := K.1
  unfold w_X16_rescale_19 at h
  refine lv_iload_n B.1 B.2.1 dX16_rescale_19 rfl (lv_at hl 1 rfl) ?_
  refine lv_i2l B.1 B.2.1 dX16_rescale_20 (i32_i64 g1) ?_
  refine lv_lconst (v := 1) B.1 B.2.1 dX16_rescale_21 (by decide) ?_
  refine lv_ldc2 B.1 B.2.1 B.2.2.1 (B.2.2.2.1 _ (wk_X16_359)) dX16_rescale_22 ?_
  refine c_S B hH hl hc K.2.2.1 (As := [.long (Int64.ofInt v1), .long 1, .long 4]) (ok_X16_within K.2.1 σ (Int64.ofInt v1) 1 4 hGσ hS h) wc_X16_45 3 hd_X16_within ⟨Nat.le_trans (Nat.le_of_ble_eq_true rfl) K.2.2.2.1, Nat.le_trans (Nat.le_of_ble_eq_true rfl) K.2.2.2.2.1⟩ rfl (rest := [.ref rm]) rfl (Nat.le_of_ble_eq_true rfl) dX16_rescale_25 (fun σ14 w hq => ?_) (fun σ9 E9 hx9 => hX σ9 E9 _ _ _ (tb_out K.2.2.2.2.2 rfl) hx9.1 hx9.2.1 hx9.2.2)
  obtain ⟨r15, rfl, ⟨gr15, gzr15⟩, h, hGσ14, hS⟩ := hq
  intro H locs ls hH hl hc
  refine W.eq (g2 := F0 m 28 ls [.int (i32 r15), .ref rm]) (rfl) ?_
  try dsimp only at h
  refine lv_if_ne (tgt := 35) B.1 B.2.1 dX16_rescale_28 (by decide) (fun h9 => ?_) (fun h9 => ?_)
  · rw [if_pos (fun q => h9 ((z_eq gr15).mpr q))] at h
    exact a_X16_rescale_35 K hQ hX _ _ g1 h hGσ14 hS _ _ _ hH (lv_sub (l' := [(0, .ref rm), (1, .int (i32 v1))]) hl [0, 1] rfl) hc
  · rw [if_neg (fun q => q ((z_eq gr15).mp h9))] at h
    exact a_X16_rescale_31 K hQ hX _ _ g1 h hGσ14 hS _ _ _ hH (lv_sub (l' := [(0, .ref rm), (1, .int (i32 v1))]) hl [0, 1] rfl) hc
set_option maxRecDepth 20000 in
theorem a_X16_rescale_8 {Q : Sg → Int → Prop} {X : Sg → String → Prop} (K : MC R p s m args c cX16_rescale 2 RX16 D cA tys A n0 s0 5 117 []) (hQ : HQI p l e R s m args below meth c cX16_rescale D cA A n0 s0 QM dm ra jx rm Q) (hX : HX p l e R s m args below meth c 2 D cA A n0 s0 QM dm ra jx rm X) : ∀ (σ : Sg) (v1 : Int) (g1 : rng v1), w_X16_rescale_8 ra jx rm Q X σ v1 → RG σ → Shp dm ra jx rm σ → JJ p l e R s m args below meth c 2 D cA A n0 s0 QM σ 8 [(0, .ref rm), (1, .int (i32 v1))] [.ref rm] := by
  intro σ v1 g1 h hGσ hS H locs ls hH hl hc
  have B := K.1
  unfold w_X16_rescale_8 at h
  refine lv_aload_n B.1 B.2.1 dX16_rescale_8 rfl (lv_at hl 0 rfl) ?_
  refine r_geti B hH hS 32 (by decide) wf_X16_688 rfl rfl dX16_rescale_9 ?_
  refine lv_if_eq (tgt := 19) B.1 B.2.1 dX16_rescale_12 (by decide) (fun h9 => ?_) (fun h9 => ?_)
  · rw [if_pos ((z_eq (hGσ _ _)).mp h9)] at h
    exact a_X16_rescale_19 K hQ hX _ _ g1 h hGσ hS _ _ _ hH (lv_sub (l' := [(0, .ref rm), (1, .int (i32 v1))]) hl [0, 1] rfl) hc
  · rw [if_neg (fun q => h9 ((z_eq (hGσ _ _)).mpr q))] at h
    exact a_X16_rescale_15 K hQ hX _ _ g1 h hGσ hS _ _ _ hH (lv_sub (l' := [(0, .ref rm), (1, .int (i32 v1))]) hl [0, 1] rfl) hc
set_option maxRecDepth 20000 in
theorem a_X16_rescale_0 {Q : Sg → Int → Prop} {X : Sg → String → Prop} (K : MC R p s m args c cX16_rescale 2 RX16 D cA tys A n0 s0 5 117 []) (hQ : HQI p l e R s m args below meth c cX16_rescale D cA A n0 s0 QM dm ra jx rm Q) (hX : HX p l e R s m args below meth c 2 D cA A n0 s0 QM dm ra jx rm X) : ∀ (σ : Sg) (v1 : Int) (g1 : rng v1), w_X16_rescale_0 ra jx rm Q X σ v1 → RG σ → Shp dm ra jx rm σ → JJ p l e R s m args below meth c 2 D cA A n0 s0 QM σ 0 [(0, .ref rm), (1, .int (i32 v1))] [] := by
  intro σ v1 g1 h hGσ hS H locs ls hH hl hc
  have B := K.1
  unfold w_X16_rescale_0 at h
  refine lv_aload_n B.1 B.2.1 dX16_rescale_0 rfl (lv_at hl 0 rfl) ?_
  refine lv_aload_n B.1 B.2.1 dX16_rescale_1 rfl (lv_at hl 0 rfl) ?_
  refine r_geti B hH hS 30 (by decide) wf_X16_852 rfl rfl dX16_rescale_2 ?_
  refine lv_if_eq (tgt := 15) B.1 B.2.1 dX16_rescale_5 (by decide) (fun h9 => ?_) (fun h9 => ?_)
  · rw [if_pos ((z_eq (hGσ _ _)).mp h9)] at h
    exact a_X16_rescale_15 K hQ hX _ _ g1 h hGσ hS _ _ _ hH (lv_sub (l' := [(0, .ref rm), (1, .int (i32 v1))]) hl [0, 1] rfl) hc
  · rw [if_neg (fun q => h9 ((z_eq (hGσ _ _)).mpr q))] at h
    exact a_X16_rescale_8 K hQ hX _ _ g1 h hGσ hS _ _ _ hH (lv_sub (l' := [(0, .ref rm), (1, .int (i32 v1))]) hl [0, 1] rfl) hc
theorem ok_X16_rescale (hT : Tys cA tys) {Q : Sg → Int → Prop} {X : Sg → String → Prop} (σ : Sg) (v1 : Int) (g1 : rng v1) (hG : RG σ) (hS : Shp dm ra jx rm σ) (h : wp_X16_rescale ra jx rm v1 σ Q X) : Ok l D cA tys A yX16_rescale (.code yX16_rescale cX16_rescale 2 (some .int)) 5 117 [.ref rm, .int (i32 v1)] σ (QnI dm ra jx rm Q) (QxR dm ra jx rm X) := by
  unfold wp_X16_rescale at h
  exact ok_I (plainFor_of_name (by decide)) (by exact Nat.le_of_ble_eq_true rfl) hT (fun p e R s m args below meth c K hQ hX H locs ls hH hl hc => a_X16_rescale_0 K hQ hX σ v1 g1 h hG hS H locs ls hH (lv_sub (l' := [(0, .ref rm), (1, .int (i32 v1))]) hl [0, 1] rfl) hc)
theorem dX16_row_0 : decode cX16_row 0 = .ok (.aload_n 0, 1) := by decide +kernel
theorem dX16_row_1 : decode cX16_row 1 = .ok (.aload_n 0, 1) := by decide +kernel
theorem dX16_row_2 : decode cX16_row 2 = .ok (.iload_n 1, 1) := by decide +kernel
theorem dX16_row_3 : decode cX16_row 3 = .ok (.invokevirtual 997, 3) := by decide +kernel
theorem dX16_row_6 : decode cX16_row 6 = .ok (.ifCond .eq 56, 3) := by decide +kernel
theorem dX16_row_9 : decode cX16_row 9 = .ok (.iload_n 2, 1) := by decide +kernel
theorem dX16_row_10 : decode cX16_row 10 = .ok (.i2l, 1) := by decide +kernel
theorem dX16_row_11 : decode cX16_row 11 = .ok (.lconst 0, 1) := by decide +kernel
theorem dX16_row_12 : decode cX16_row 12 = .ok (.aload_n 0, 1) := by decide +kernel
theorem dX16_row_13 : decode cX16_row 13 = .ok (.getfield 667, 3) := by decide +kernel
theorem dX16_row_16 : decode cX16_row 16 = .ok (.iconst 3, 1) := by decide +kernel
theorem dX16_row_17 : decode cX16_row 17 = .ok (.iload_n 1, 1) := by decide +kernel
theorem dX16_row_18 : decode cX16_row 18 = .ok (.imul, 1) := by decide +kernel
theorem dX16_row_19 : decode cX16_row 19 = .ok (.iconst 2, 1) := by decide +kernel
theorem dX16_row_20 : decode cX16_row 20 = .ok (.iadd, 1) := by decide +kernel
theorem dX16_row_21 : decode cX16_row 21 = .ok (.iaload, 1) := by decide +kernel
theorem dX16_row_22 : decode cX16_row 22 = .ok (.iconst 1, 1) := by decide +kernel
theorem dX16_row_23 : decode cX16_row 23 = .ok (.isub, 1) := by decide +kernel
theorem dX16_row_24 : decode cX16_row 24 = .ok (.i2l, 1) := by decide +kernel
theorem dX16_row_25 : decode cX16_row 25 = .ok (.invokestatic 45, 3) := by decide +kernel
theorem dX16_row_28 : decode cX16_row 28 = .ok (.ifCond .eq 34, 3) := by decide +kernel
theorem dX16_row_31 : decode cX16_row 31 = .ok (.iload_n 3, 1) := by decide +kernel
theorem dX16_row_32 : decode cX16_row 32 = .ok (.i2l, 1) := by decide +kernel
theorem dX16_row_33 : decode cX16_row 33 = .ok (.ldc2_w 417, 3) := by decide +kernel
theorem dX16_row_36 : decode cX16_row 36 = .ok (.aload_n 0, 1) := by decide +kernel
theorem dX16_row_37 : decode cX16_row 37 = .ok (.getfield 356, 3) := by decide +kernel
theorem dX16_row_40 : decode cX16_row 40 = .ok (.getfield 178, 3) := by decide +kernel
theorem dX16_row_43 : decode cX16_row 43 = .ok (.aload_n 0, 1) := by decide +kernel
theorem dX16_row_44 : decode cX16_row 44 = .ok (.iload_n 1, 1) := by decide +kernel
theorem dX16_row_45 : decode cX16_row 45 = .ok (.invokevirtual 682, 3) := by decide +kernel
theorem dX16_row_48 : decode cX16_row 48 = .ok (.iaload, 1) := by decide +kernel
theorem dX16_row_49 : decode cX16_row 49 = .ok (.iconst 1, 1) := by decide +kernel
theorem dX16_row_50 : decode cX16_row 50 = .ok (.isub, 1) := by decide +kernel
theorem dX16_row_51 : decode cX16_row 51 = .ok (.i2l, 1) := by decide +kernel
theorem dX16_row_52 : decode cX16_row 52 = .ok (.invokestatic 45, 3) := by decide +kernel
theorem dX16_row_55 : decode cX16_row 55 = .ok (.ifCond .eq 7, 3) := by decide +kernel
theorem dX16_row_58 : decode cX16_row 58 = .ok (.iconst 0, 1) := by decide +kernel
theorem dX16_row_59 : decode cX16_row 59 = .ok (.goto 4, 3) := by decide +kernel
theorem dX16_row_62 : decode cX16_row 62 = .ok (.iconst 1, 1) := by decide +kernel
theorem dX16_row_63 : decode cX16_row 63 = .ok (.putfield 1, 3) := by decide +kernel
theorem dX16_row_66 : decode cX16_row 66 = .ok (.aload_n 0, 1) := by decide +kernel
theorem dX16_row_67 : decode cX16_row 67 = .ok (.getfield 1, 3) := by decide +kernel
theorem dX16_row_70 : decode cX16_row 70 = .ok (.ifCond .le 5, 3) := by decide +kernel
theorem dX16_row_73 : decode cX16_row 73 = .ok (.lconst 0, 1) := by decide +kernel
theorem dX16_row_74 : decode cX16_row 74 = .ok (.lreturn, 1) := by decide +kernel
theorem dX16_row_75 : decode cX16_row 75 = .ok (.aload_n 0, 1) := by decide +kernel
theorem dX16_row_76 : decode cX16_row 76 = .ok (.iload_n 1, 1) := by decide +kernel
theorem dX16_row_77 : decode cX16_row 77 = .ok (.iload_n 2, 1) := by decide +kernel
theorem dX16_row_78 : decode cX16_row 78 = .ok (.invokevirtual 1000, 3) := by decide +kernel
theorem dX16_row_81 : decode cX16_row 81 = .ok (.istore 4, 2) := by decide +kernel
theorem dX16_row_83 : decode cX16_row 83 = .ok (.iload_n 3, 1) := by decide +kernel
theorem dX16_row_84 : decode cX16_row 84 = .ok (.iconst (-1), 1) := by decide +kernel
theorem dX16_row_85 : decode cX16_row 85 = .ok (.if_icmp .ne 13, 3) := by decide +kernel
theorem dX16_row_88 : decode cX16_row 88 = .ok (.aload_n 0, 1) := by decide +kernel
theorem dX16_row_89 : decode cX16_row 89 = .ok (.getfield 670, 3) := by decide +kernel
theorem dX16_row_92 : decode cX16_row 92 = .ok (.iload 4, 2) := by decide +kernel
theorem dX16_row_94 : decode cX16_row 94 = .ok (.laload, 1) := by decide +kernel
theorem dX16_row_95 : decode cX16_row 95 = .ok (.goto 15, 3) := by decide +kernel
theorem dX16_row_98 : decode cX16_row 98 = .ok (.aload_n 0, 1) := by decide +kernel
theorem dX16_row_99 : decode cX16_row 99 = .ok (.getfield 673, 3) := by decide +kernel
theorem dX16_row_102 : decode cX16_row 102 = .ok (.bipush 8, 2) := by decide +kernel
theorem dX16_row_104 : decode cX16_row 104 = .ok (.iload 4, 2) := by decide +kernel
theorem dX16_row_106 : decode cX16_row 106 = .ok (.imul, 1) := by decide +kernel
theorem dX16_row_107 : decode cX16_row 107 = .ok (.iload_n 3, 1) := by decide +kernel
theorem dX16_row_108 : decode cX16_row 108 = .ok (.iadd, 1) := by decide +kernel
theorem dX16_row_109 : decode cX16_row 109 = .ok (.laload, 1) := by decide +kernel
theorem dX16_row_110 : decode cX16_row 110 = .ok (.lreturn, 1) := by decide +kernel
set_option maxRecDepth 20000 in
theorem a_X16_row_110 {Q : Sg → Int64 → Prop} {X : Sg → String → Prop} (K : MC R p s m args c cX16_row 5 RX16 D cA tys A n0 s0 2 46 []) (hQ : HQJ p l e R s m args below meth c cX16_row D cA A n0 s0 QM dm ra jx rm Q) (hX : HX p l e R s m args below meth c 5 D cA A n0 s0 QM dm ra jx rm X) : ∀ (σ : Sg) (u0 : Int64), w_X16_row_110 ra jx rm Q X σ u0 → RG σ → Shp dm ra jx rm σ → JJ p l e R s m args below meth c 5 D cA A n0 s0 QM σ 110 [(0, .ref rm)] [.long u0] := by
  intro σ u0 h hGσ hS H locs ls hH hl hc
  have B := K.1
  unfold w_X16_row_110 at h
  exact hQ _ _ _ _ _ _ dX16_row_110 hH hc h hGσ hS
set_option maxRecDepth 20000 in
theorem a_X16_row_98 {Q : Sg → Int64 → Prop} {X : Sg → String → Prop} (K : MC R p s m args c cX16_row 5 RX16 D cA tys A n0 s0 2 46 []) (hQ : HQJ p l e R s m args below meth c cX16_row D cA A n0 s0 QM dm ra jx rm Q) (hX : HX p l e R s m args below meth c 5 D cA A n0 s0 QM dm ra jx rm X) : ∀ (σ : Sg) (v3 : Int) (v4 : Int) (g3 : rng v3) (g4 : rng v4), w_X16_row_98 ra jx rm Q X σ v3 v4 → RG σ → Shp dm ra jx rm σ → JJ p l e R s m args below meth c 5 D cA A n0 s0 QM σ 98 [(0, .ref rm), (3, .int (i32 v3)), (4, .int (i32 v4))] [] := by
  intro σ v3 v4 g3 g4 h hGσ hS H locs ls hH hl hc
  have B := K.1
  unfold w_X16_row_98 at h
  refine lv_aload_n B.1 B.2.1 dX16_row_98 rfl (lv_at hl 0 rfl) ?_
  refine r_arr B hH hS 84 (kd := 101) (n := 16000) (by decide) (by decide) wf_X16_673 rfl rfl dX16_row_99 ?_
  refine lv_bipush (v := i32 8) B.1 B.2.1 dX16_row_102 (by decide) ?_
  refine lv_iload B.1 B.2.1 dX16_row_104 (lv_at hl 2 rfl) ?_
  obtain ⟨q1, h⟩ := h
  refine lv_imul B.1 B.2.1 dX16_row_106 ?_
  rw [i32_mul]
  refine lv_iload_n B.1 B.2.1 dX16_row_107 rfl (lv_at hl 1 rfl) ?_
  obtain ⟨q2, h⟩ := h
  refine lv_iadd B.1 B.2.1 dX16_row_108 ?_
  rw [i32_add]
  obtain ⟨q3, h⟩ := h
  refine x_lald B K.2.1 hH (hS.ar (k := 84) (kd := 101) (n := 16000) (by decide)) (by decide) q3 dX16_row_109 ?_
  exact a_X16_row_110 K hQ hX _ _ h hGσ hS _ _ _ hH (lv_sub (l' := [(0, .ref rm)]) hl [0] rfl) hc
set_option maxRecDepth 20000 in
theorem a_X16_row_88 {Q : Sg → Int64 → Prop} {X : Sg → String → Prop} (K : MC R p s m args c cX16_row 5 RX16 D cA tys A n0 s0 2 46 []) (hQ : HQJ p l e R s m args below meth c cX16_row D cA A n0 s0 QM dm ra jx rm Q) (hX : HX p l e R s m args below meth c 5 D cA A n0 s0 QM dm ra jx rm X) : ∀ (σ : Sg) (v4 : Int) (g4 : rng v4), w_X16_row_88 ra jx rm Q X σ v4 → RG σ → Shp dm ra jx rm σ → JJ p l e R s m args below meth c 5 D cA A n0 s0 QM σ 88 [(0, .ref rm), (4, .int (i32 v4))] [] := by
  intro σ v4 g4 h hGσ hS H locs ls hH hl hc
  have B := K.1
  unfold w_X16_row_88 at h
  refine lv_aload_n B.1 B.2.1 dX16_row_88 rfl (lv_at hl 0 rfl) ?_
  refine r_arr B hH hS 83 (kd := 101) (n := 2000) (by decide) (by decide) wf_X16_670 rfl rfl dX16_row_89 ?_
  refine lv_iload B.1 B.2.1 dX16_row_92 (lv_at hl 1 rfl) ?_
  obtain ⟨q1, h⟩ := h
  refine x_lald B K.2.1 hH (hS.ar (k := 83) (kd := 101) (n := 2000) (by decide)) (by decide) q1 dX16_row_94 ?_
  refine lv_goto (tgt := 110) B.1 B.2.1 dX16_row_95 (by decide) ?_
  exact a_X16_row_110 K hQ hX _ _ h hGσ hS _ _ _ hH (lv_sub (l' := [(0, .ref rm)]) hl [0] rfl) hc
set_option maxRecDepth 20000 in
theorem a_X16_row_75 {Q : Sg → Int64 → Prop} {X : Sg → String → Prop} (K : MC R p s m args c cX16_row 5 RX16 D cA tys A n0 s0 2 46 []) (hQ : HQJ p l e R s m args below meth c cX16_row D cA A n0 s0 QM dm ra jx rm Q) (hX : HX p l e R s m args below meth c 5 D cA A n0 s0 QM dm ra jx rm X) : ∀ (σ : Sg) (v1 : Int) (v2 : Int) (v3 : Int) (g1 : rng v1) (g2 : rng v2) (g3 : rng v3), w_X16_row_75 ra jx rm Q X σ v1 v2 v3 → RG σ → Shp dm ra jx rm σ → JJ p l e R s m args below meth c 5 D cA A n0 s0 QM σ 75 [(0, .ref rm), (1, .int (i32 v1)), (2, .int (i32 v2)), (3, .int (i32 v3))] [] := by
  intro σ v1 v2 v3 g1 g2 g3 h hGσ hS H locs ls hH hl hc
  have B := K.1
  unfold w_X16_row_75 at h
  refine lv_aload_n B.1 B.2.1 dX16_row_75 rfl (lv_at hl 0 rfl) ?_
  refine lv_iload_n B.1 B.2.1 dX16_row_76 rfl (lv_at hl 1 rfl) ?_
  refine lv_iload_n B.1 B.2.1 dX16_row_77 rfl (lv_at hl 2 rfl) ?_
  refine c_V B hH hl hc K.2.2.1 (C := RX16) (T := TX16) (N := 123) (ci := 16) (As := [.int (i32 v1), .int (i32 v2)]) (ok_X16_visibleAt K.2.1 σ v1 v2 g1 g2 hGσ hS h) wc_X16_1000 2 hd_X16_visibleAt ⟨Nat.le_trans (Nat.le_of_ble_eq_true rfl) K.2.2.2.1, Nat.le_trans (Nat.le_of_ble_eq_true rfl) K.2.2.2.2.1⟩ hS.1.1 hS.1.2 (by decide) rfl rfl (rest := []) rfl (Nat.le_of_ble_eq_true rfl) dX16_row_78 (fun σ25 w hq => ?_) (fun σ9 E9 hx9 => hX σ9 E9 _ _ _ (tb_out K.2.2.2.2.2 rfl) hx9.1 hx9.2.1 hx9.2.2)
  obtain ⟨r26, rfl, gr26, h, hGσ25, hS⟩ := hq
  intro H locs ls hH hl hc
  refine W.eq (g2 := F0 m 81 ls [.int (i32 r26)]) (rfl) ?_
  try dsimp only at h
  refine lv_istore (lv' := [(4, .int (i32 r26)), (0, .ref rm), (1, .int (i32 v1)), (2, .int (i32 v2)), (3, .int (i32 v3))]) B.1 B.2.1 dX16_row_81 hl (by decide) rfl (fun ls hl => ?_)
  refine lv_iload_n B.1 B.2.1 dX16_row_83 rfl (lv_at hl 4 rfl) ?_
  refine lv_iconst (v := i32 (-1)) B.1 B.2.1 dX16_row_84 (by decide) ?_
  refine lv_icmp_ne (tgt := 98) B.1 B.2.1 dX16_row_85 (by decide) (fun h9 => ?_) (fun h9 => ?_)
  · rw [if_pos (fun q => h9 ((i32_eq g3 (by unfold rng; omega)).mpr q))] at h
    exact a_X16_row_98 K hQ hX _ _ _ g3 gr26 h hGσ25 hS _ _ _ hH (lv_sub (l' := [(0, .ref rm), (3, .int (i32 v3)), (4, .int (i32 r26))]) hl [1, 4, 0] rfl) hc
  · rw [if_neg (fun q => q ((i32_eq g3 (by unfold rng; omega)).mp h9))] at h
    exact a_X16_row_88 K hQ hX _ _ gr26 h hGσ25 hS _ _ _ hH (lv_sub (l' := [(0, .ref rm), (4, .int (i32 r26))]) hl [1, 0] rfl) hc
set_option maxRecDepth 20000 in
theorem a_X16_row_73 {Q : Sg → Int64 → Prop} {X : Sg → String → Prop} (K : MC R p s m args c cX16_row 5 RX16 D cA tys A n0 s0 2 46 []) (hQ : HQJ p l e R s m args below meth c cX16_row D cA A n0 s0 QM dm ra jx rm Q) (hX : HX p l e R s m args below meth c 5 D cA A n0 s0 QM dm ra jx rm X) : ∀ (σ : Sg), w_X16_row_73 ra jx rm Q X σ → RG σ → Shp dm ra jx rm σ → JJ p l e R s m args below meth c 5 D cA A n0 s0 QM σ 73 [(0, .ref rm)] [] := by
  intro σ h hGσ hS H locs ls hH hl hc
  have B := K.1
  unfold w_X16_row_73 at h
  refine lv_lconst (v := 0) B.1 B.2.1 dX16_row_73 (by decide) ?_
  exact hQ _ _ _ _ _ _ dX16_row_74 hH hc h hGσ hS
set_option maxRecDepth 20000 in
theorem a_X16_row_63 {Q : Sg → Int64 → Prop} {X : Sg → String → Prop} (K : MC R p s m args c cX16_row 5 RX16 D cA tys A n0 s0 2 46 []) (hQ : HQJ p l e R s m args below meth c cX16_row D cA A n0 s0 QM dm ra jx rm Q) (hX : HX p l e R s m args below meth c 5 D cA A n0 s0 QM dm ra jx rm X) : ∀ (σ : Sg) (v1 : Int) (v2 : Int) (v3 : Int) (u0 : Int) (g1 : rng v1) (g2 : rng v2) (g3 : rng v3) (gu0 : rng u0), w_X16_row_63 ra jx rm Q X σ v1 v2 v3 u0 → RG σ → Shp dm ra jx rm σ → JJ p l e R s m args below meth c 5 D cA A n0 s0 QM σ 63 [(0, .ref rm), (1, .int (i32 v1)), (2, .int (i32 v2)), (3, .int (i32 v3))] [.int (i32 u0), .ref rm] := by
  intro σ v1 v2 v3 u0 g1 g2 g3 gu0 h hGσ hS H locs ls hH hl hc
  have B := K.1
  unfold w_X16_row_63 at h
  obtain ⟨σ27, eσ27⟩ : ∃ z, z = pI σ rm 0 u0 := ⟨_, rfl⟩
  have h := h σ27 eσ27
  refine r_puti B hH hS 0 (ty := .int) (by decide) wf_X16_1 rfl rfl rfl rfl rfl rfl dX16_row_63 (fun H locs hH => ?_)
  have hH : Hd D cA A s (pI σ rm 0 u0) H locs := hH
  rw [← eσ27] at hH
  have hGσ27 : RG σ27 := by rw [eσ27]; exact hGσ.pI gu0
  have hS : Shp dm ra jx rm σ27 := by rw [eσ27]; exact hS
  have hc : CB n0 s0 σ27 := by rw [eσ27]; exact hc
  rw [show gc σ = gc σ27 by rw [eσ27], show gs σ = gs σ27 by rw [eσ27]]
  refine lv_aload_n B.1 B.2.1 dX16_row_66 rfl (lv_at hl 0 rfl) ?_
  refine r_geti B hH hS 0 (by decide) wf_X16_1 rfl rfl dX16_row_67 ?_
  refine lv_if_le (tgt := 75) B.1 B.2.1 dX16_row_70 (by decide) (fun h9 => ?_) (fun h9 => ?_)
  · rw [if_pos ((z_le (hGσ27 _ _)).mp h9)] at h
    exact a_X16_row_75 K hQ hX _ _ _ _ g1 g2 g3 h hGσ27 hS _ _ _ hH (lv_sub (l' := [(0, .ref rm), (1, .int (i32 v1)), (2, .int (i32 v2)), (3, .int (i32 v3))]) hl [0, 1, 2, 3] rfl) hc
  · rw [if_neg (fun q => h9 ((z_le (hGσ27 _ _)).mpr q))] at h
    exact a_X16_row_73 K hQ hX _ h hGσ27 hS _ _ _ hH (lv_sub (l' := [(0, .ref rm)]) hl [0] rfl) hc
set_option maxRecDepth 20000 in
theorem a_X16_row_62 {Q : Sg → Int64 → Prop} {X : Sg → String → Prop} (K : MC R p s m args c cX16_row 5 RX16 D cA tys A n0 s0 2 46 []) (hQ : HQJ p l e R s m args below meth c cX16_row D cA A n0 s0 QM dm ra jx rm Q) (hX : HX p l e R s m args below meth c 5 D cA A n0 s0 QM dm ra jx rm X) : ∀ (σ : Sg) (v1 : Int) (v2 : Int) (v3 : Int) (g1 : rng v1) (g2 : rng v2) (g3 : rng v3), w_X16_row_62 ra jx rm Q X σ v1 v2 v3 → RG σ → Shp dm ra jx rm σ → JJ p l e R s m args below meth c 5 D cA A n0 s0 QM σ 62 [(0, .ref rm), (1, .int (i32 v1)), (2, .int (i32 v2)), (3, .int (i32 v3))] [.ref rm] := by
  intro σ v1 v2 v3 g1 g2 g3 h hGσ hS H locs ls hH hl hc
  have B := K.1
  unfold w_X16_row_62 at h
  refine lv_iconst (v := i32 1) B.1 B.2.1 dX16_row_62 (by decide) ?_
  exact a_X16_row_63 K hQ hX _ _ _ _ _ g1 g2 g3 (by unfold rng; omega) h hGσ hS _ _ _ hH (lv_sub (l' := [(0, .ref rm), (1, .int (i32 v1)), (2, .int (i32 v2)), (3, .int (i32 v3))]) hl [0, 1, 2, 3] rfl) hc
set_option maxRecDepth 20000 in
theorem a_X16_row_58 {Q : Sg → Int64 → Prop} {X : Sg → String → Prop} (K : MC R p s m args c cX16_row 5 RX16 D cA tys A n0 s0 2 46 []) (hQ : HQJ p l e R s m args below meth c cX16_row D cA A n0 s0 QM dm ra jx rm Q) (hX : HX p l e R s m args below meth c 5 D cA A n0 s0 QM dm ra jx rm X) : ∀ (σ : Sg) (v1 : Int) (v2 : Int) (v3 : Int) (g1 : rng v1) (g2 : rng v2) (g3 : rng v3), w_X16_row_58 ra jx rm Q X σ v1 v2 v3 → RG σ → Shp dm ra jx rm σ → JJ p l e R s m args below meth c 5 D cA A n0 s0 QM σ 58 [(0, .ref rm), (1, .int (i32 v1)), (2, .int (i32 v2)), (3, .int (i32 v3))] [.ref rm] := by
  intro σ v1 v2 v3 g1 g2 g3 h hGσ hS H locs ls hH hl hc
  have B := K.1
  unfold w_X16_row_58 at h
  refine lv_iconst (v := i32 0) B.1 B.2.1 dX16_row_58 (by decide) ?_
  refine lv_goto (tgt := 63) B.1 B.2.1 dX16_row_59 (by decide) ?_
  exact a_X16_row_63 K hQ hX _ _ _ _ _ g1 g2 g3 (by unfold rng; omega) h hGσ hS _ _ _ hH (lv_sub (l' := [(0, .ref rm), (1, .int (i32 v1)), (2, .int (i32 v2)), (3, .int (i32 v3))]) hl [0, 1, 2, 3] rfl) hc
set_option maxRecDepth 20000 in
theorem a_X16_row_31 {Q : Sg → Int64 → Prop} {X : Sg → String → Prop} (K : MC R p s m args c cX16_row 5 RX16 D cA tys A n0 s0 2 46 []) (hQ : HQJ p l e R s m args below meth c cX16_row D cA A n0 s0 QM dm ra jx rm Q) (hX : HX p l e R s m args below meth c 5 D cA A n0 s0 QM dm ra jx rm X) : ∀ (σ : Sg) (v1 : Int) (v2 : Int) (v3 : Int) (g1 : rng v1) (g2 : rng v2) (g3 : rng v3), w_X16_row_31 ra jx rm Q X σ v1 v2 v3 → RG σ → Shp dm ra jx rm σ → JJ p l e R s m args below meth c 5 D cA A n0 s0 QM σ 31 [(0, .ref rm), (1, .int (i32 v1)), (2, .int (i32 v2)), (3, .int (i32 v3))] [.ref rm] := by
  intro σ v1 v2 v3 g1 g2 g3 h hGσ hS H locs ls hH hl hc
  have B := K.1
  unfold w_X16_row_31 at h
  refine lv_iload_n B.1 B.2.1 dX16_row_31 rfl (lv_at hl 3 rfl) ?_
  refine lv_i2l B.1 B.2.1 dX16_row_32 (i32_i64 g3) ?_
  refine lv_ldc2 B.1 B.2.1 B.2.2.1 (B.2.2.2.1 _ (wk_X16_417)) dX16_row_33 ?_
  refine lv_aload_n B.1 B.2.1 dX16_row_36 rfl (lv_at hl 0 rfl) ?_
  refine r_getp B hH hS 17 (by decide) wf_X16_356 rfl rfl dX16_row_37 ?_
  obtain ⟨a28, ea28, ja28, h⟩ := h
  refine W.eq (g2 := F0 m 40 ls [.ref a28, .long (-1), .long (Int64.ofInt v3), .ref rm]) (by rw [ea28]; rfl) ?_
  refine n_arr B hH hS ja28 6 (kd := 100) (n := 16) (by decide) (by decide) (List.mem_of_getElem? (i := 6) rfl) rfl dX16_row_40 ?_
  refine lv_aload_n B.1 B.2.1 dX16_row_43 rfl (lv_at hl 0 rfl) ?_
  refine lv_iload_n B.1 B.2.1 dX16_row_44 rfl (lv_at hl 1 rfl) ?_
  refine c_V B hH hl hc K.2.2.1 (C := RX16) (T := TX16) (N := 123) (ci := 16) (As := [.int (i32 v1)]) (ok_X16_operatorOfOutput K.2.1 σ v1 g1 hGσ hS h) wc_X16_682 1 hd_X16_operatorOfOutput ⟨Nat.le_trans (Nat.le_of_ble_eq_true rfl) K.2.2.2.1, Nat.le_trans (Nat.le_of_ble_eq_true rfl) K.2.2.2.2.1⟩ hS.1.1 hS.1.2 (by decide) rfl rfl (rest := [.ref (jx a28 6), .long (-1), .long (Int64.ofInt v3), .ref rm]) rfl (Nat.le_of_ble_eq_true rfl) dX16_row_45 (fun σ29 w hq => ?_) (fun σ9 E9 hx9 => hX σ9 E9 _ _ _ (tb_out K.2.2.2.2.2 rfl) hx9.1 hx9.2.1 hx9.2.2)
  obtain ⟨r30, rfl, gr30, h, hGσ29, hS⟩ := hq
  intro H locs ls hH hl hc
  refine W.eq (g2 := F0 m 48 ls [.int (i32 r30), .ref (jx a28 6), .long (-1), .long (Int64.ofInt v3), .ref rm]) (rfl) ?_
  try dsimp only at h
  obtain ⟨q2, h⟩ := h
  refine x_iald B K.2.1 hH (hS.ja ja28 (k := 6) (kd := 100) (n := 16) (by decide)) (by decide) q2 dX16_row_48 ?_
  refine lv_iconst (v := i32 1) B.1 B.2.1 dX16_row_49 (by decide) ?_
  obtain ⟨q3, h⟩ := h
  refine lv_isub B.1 B.2.1 dX16_row_50 ?_
  rw [i32_sub]
  refine lv_i2l B.1 B.2.1 dX16_row_51 (i32_i64 q3) ?_
  refine c_S B hH hl hc K.2.2.1 (As := [.long (Int64.ofInt v3), .long (-1), .long (Int64.ofInt ((gI σ29 (jx a28 6) r30.toNat) - 1))]) (ok_X16_within K.2.1 σ29 (Int64.ofInt v3) (-1) (Int64.ofInt ((gI σ29 (jx a28 6) r30.toNat) - 1)) hGσ29 hS h) wc_X16_45 3 hd_X16_within ⟨Nat.le_trans (Nat.le_of_ble_eq_true rfl) K.2.2.2.1, Nat.le_trans (Nat.le_of_ble_eq_true rfl) K.2.2.2.2.1⟩ rfl (rest := [.ref rm]) rfl (Nat.le_of_ble_eq_true rfl) dX16_row_52 (fun σ31 w hq => ?_) (fun σ9 E9 hx9 => hX σ9 E9 _ _ _ (tb_out K.2.2.2.2.2 rfl) hx9.1 hx9.2.1 hx9.2.2)
  obtain ⟨r32, rfl, ⟨gr32, gzr32⟩, h, hGσ31, hS⟩ := hq
  intro H locs ls hH hl hc
  refine W.eq (g2 := F0 m 55 ls [.int (i32 r32), .ref rm]) (rfl) ?_
  try dsimp only at h
  refine lv_if_eq (tgt := 62) B.1 B.2.1 dX16_row_55 (by decide) (fun h9 => ?_) (fun h9 => ?_)
  · rw [if_pos ((z_eq gr32).mp h9)] at h
    exact a_X16_row_62 K hQ hX _ _ _ _ g1 g2 g3 h hGσ31 hS _ _ _ hH (lv_sub (l' := [(0, .ref rm), (1, .int (i32 v1)), (2, .int (i32 v2)), (3, .int (i32 v3))]) hl [0, 1, 2, 3] rfl) hc
  · rw [if_neg (fun q => h9 ((z_eq gr32).mpr q))] at h
    exact a_X16_row_58 K hQ hX _ _ _ _ g1 g2 g3 h hGσ31 hS _ _ _ hH (lv_sub (l' := [(0, .ref rm), (1, .int (i32 v1)), (2, .int (i32 v2)), (3, .int (i32 v3))]) hl [0, 1, 2, 3] rfl) hc
set_option maxRecDepth 20000 in
theorem a_X16_row_9 {Q : Sg → Int64 → Prop} {X : Sg → String → Prop} (K : MC R p s m args c cX16_row 5 RX16 D cA tys A n0 s0 2 46 []) (hQ : HQJ p l e R s m args below meth c cX16_row D cA A n0 s0 QM dm ra jx rm Q) (hX : HX p l e R s m args below meth c 5 D cA A n0 s0 QM dm ra jx rm X) : ∀ (σ : Sg) (v1 : Int) (v2 : Int) (v3 : Int) (g1 : rng v1) (g2 : rng v2) (g3 : rng v3), w_X16_row_9 ra jx rm Q X σ v1 v2 v3 → RG σ → Shp dm ra jx rm σ → JJ p l e R s m args below meth c 5 D cA A n0 s0 QM σ 9 [(0, .ref rm), (1, .int (i32 v1)), (2, .int (i32 v2)), (3, .int (i32 v3))] [.ref rm] := by
  intro σ v1 v2 v3 g1 g2 g3 h hGσ hS H locs ls hH hl hc
  have B := K.1
  unfold w_X16_row_9 at h
  refine lv_iload_n B.1 B.2.1 dX16_row_9 rfl (lv_at hl 2 rfl) ?_
  refine lv_i2l B.1 B.2.1 dX16_row_10 (i32_i64 g2) ?_
  refine lv_lconst (v := 0) B.1 B.2.1 dX16_row_11 (by decide) ?_
  refine lv_aload_n B.1 B.2.1 dX16_row_12 rfl (lv_at hl 0 rfl) ?_
  refine r_arr B hH hS 89 (kd := 100) (n := 12) (by decide) (by decide) wf_X16_667 rfl rfl dX16_row_13 ?_
  refine lv_iconst (v := i32 3) B.1 B.2.1 dX16_row_16 (by decide) ?_
  refine lv_iload_n B.1 B.2.1 dX16_row_17 rfl (lv_at hl 1 rfl) ?_
  obtain ⟨q1, h⟩ := h
  refine lv_imul B.1 B.2.1 dX16_row_18 ?_
  rw [i32_mul]
  refine lv_iconst (v := i32 2) B.1 B.2.1 dX16_row_19 (by decide) ?_
  obtain ⟨q2, h⟩ := h
  refine lv_iadd B.1 B.2.1 dX16_row_20 ?_
  rw [i32_add]
  obtain ⟨q3, h⟩ := h
  refine x_iald B K.2.1 hH (hS.ar (k := 89) (kd := 100) (n := 12) (by decide)) (by decide) q3 dX16_row_21 ?_
  refine lv_iconst (v := i32 1) B.1 B.2.1 dX16_row_22 (by decide) ?_
  obtain ⟨q4, h⟩ := h
  refine lv_isub B.1 B.2.1 dX16_row_23 ?_
  rw [i32_sub]
  refine lv_i2l B.1 B.2.1 dX16_row_24 (i32_i64 q4) ?_
  refine c_S B hH hl hc K.2.2.1 (As := [.long (Int64.ofInt v2), .long 0, .long (Int64.ofInt ((gI σ (ra 89) ((3 * v1) + 2).toNat) - 1))]) (ok_X16_within K.2.1 σ (Int64.ofInt v2) 0 (Int64.ofInt ((gI σ (ra 89) ((3 * v1) + 2).toNat) - 1)) hGσ hS h) wc_X16_45 3 hd_X16_within ⟨Nat.le_trans (Nat.le_of_ble_eq_true rfl) K.2.2.2.1, Nat.le_trans (Nat.le_of_ble_eq_true rfl) K.2.2.2.2.1⟩ rfl (rest := [.ref rm]) rfl (Nat.le_of_ble_eq_true rfl) dX16_row_25 (fun σ33 w hq => ?_) (fun σ9 E9 hx9 => hX σ9 E9 _ _ _ (tb_out K.2.2.2.2.2 rfl) hx9.1 hx9.2.1 hx9.2.2)
  obtain ⟨r34, rfl, ⟨gr34, gzr34⟩, h, hGσ33, hS⟩ := hq
  intro H locs ls hH hl hc
  refine W.eq (g2 := F0 m 28 ls [.int (i32 r34), .ref rm]) (rfl) ?_
  try dsimp only at h
  refine lv_if_eq (tgt := 62) B.1 B.2.1 dX16_row_28 (by decide) (fun h9 => ?_) (fun h9 => ?_)
  · rw [if_pos ((z_eq gr34).mp h9)] at h
    exact a_X16_row_62 K hQ hX _ _ _ _ g1 g2 g3 h hGσ33 hS _ _ _ hH (lv_sub (l' := [(0, .ref rm), (1, .int (i32 v1)), (2, .int (i32 v2)), (3, .int (i32 v3))]) hl [0, 1, 2, 3] rfl) hc
  · rw [if_neg (fun q => h9 ((z_eq gr34).mpr q))] at h
    exact a_X16_row_31 K hQ hX _ _ _ _ g1 g2 g3 h hGσ33 hS _ _ _ hH (lv_sub (l' := [(0, .ref rm), (1, .int (i32 v1)), (2, .int (i32 v2)), (3, .int (i32 v3))]) hl [0, 1, 2, 3] rfl) hc
set_option maxRecDepth 20000 in
theorem a_X16_row_0 {Q : Sg → Int64 → Prop} {X : Sg → String → Prop} (K : MC R p s m args c cX16_row 5 RX16 D cA tys A n0 s0 2 46 []) (hQ : HQJ p l e R s m args below meth c cX16_row D cA A n0 s0 QM dm ra jx rm Q) (hX : HX p l e R s m args below meth c 5 D cA A n0 s0 QM dm ra jx rm X) : ∀ (σ : Sg) (v1 : Int) (v2 : Int) (v3 : Int) (g1 : rng v1) (g2 : rng v2) (g3 : rng v3), w_X16_row_0 ra jx rm Q X σ v1 v2 v3 → RG σ → Shp dm ra jx rm σ → JJ p l e R s m args below meth c 5 D cA A n0 s0 QM σ 0 [(0, .ref rm), (1, .int (i32 v1)), (2, .int (i32 v2)), (3, .int (i32 v3))] [] := by
  intro σ v1 v2 v3 g1 g2 g3 h hGσ hS H locs ls hH hl hc
  have B := K.1
  unfold w_X16_row_0 at h
  refine lv_aload_n B.1 B.2.1 dX16_row_0 rfl (lv_at hl 0 rfl) ?_
  refine lv_aload_n B.1 B.2.1 dX16_row_1 rfl (lv_at hl 0 rfl) ?_
  refine lv_iload_n B.1 B.2.1 dX16_row_2 rfl (lv_at hl 1 rfl) ?_
  refine c_V B hH hl hc K.2.2.1 (C := RX16) (T := TX16) (N := 123) (ci := 16) (As := [.int (i32 v1)]) (ok_X16_isOutput K.2.1 σ v1 g1 hGσ hS h) wc_X16_997 1 hd_X16_isOutput ⟨Nat.le_trans (Nat.le_of_ble_eq_true rfl) K.2.2.2.1, Nat.le_trans (Nat.le_of_ble_eq_true rfl) K.2.2.2.2.1⟩ hS.1.1 hS.1.2 (by decide) rfl rfl (rest := [.ref rm]) rfl (Nat.le_of_ble_eq_true rfl) dX16_row_3 (fun σ35 w hq => ?_) (fun σ9 E9 hx9 => hX σ9 E9 _ _ _ (tb_out K.2.2.2.2.2 rfl) hx9.1 hx9.2.1 hx9.2.2)
  obtain ⟨r36, rfl, ⟨gr36, gzr36⟩, h, hGσ35, hS⟩ := hq
  intro H locs ls hH hl hc
  refine W.eq (g2 := F0 m 6 ls [.int (i32 r36), .ref rm]) (rfl) ?_
  try dsimp only at h
  refine lv_if_eq (tgt := 62) B.1 B.2.1 dX16_row_6 (by decide) (fun h9 => ?_) (fun h9 => ?_)
  · rw [if_pos ((z_eq gr36).mp h9)] at h
    exact a_X16_row_62 K hQ hX _ _ _ _ g1 g2 g3 h hGσ35 hS _ _ _ hH (lv_sub (l' := [(0, .ref rm), (1, .int (i32 v1)), (2, .int (i32 v2)), (3, .int (i32 v3))]) hl [0, 1, 2, 3] rfl) hc
  · rw [if_neg (fun q => h9 ((z_eq gr36).mpr q))] at h
    exact a_X16_row_9 K hQ hX _ _ _ _ g1 g2 g3 h hGσ35 hS _ _ _ hH (lv_sub (l' := [(0, .ref rm), (1, .int (i32 v1)), (2, .int (i32 v2)), (3, .int (i32 v3))]) hl [0, 1, 2, 3] rfl) hc
theorem ok_X16_row (hT : Tys cA tys) {Q : Sg → Int64 → Prop} {X : Sg → String → Prop} (σ : Sg) (v1 : Int) (v2 : Int) (v3 : Int) (g1 : rng v1) (g2 : rng v2) (g3 : rng v3) (hG : RG σ) (hS : Shp dm ra jx rm σ) (h : wp_X16_row ra jx rm v1 v2 v3 σ Q X) : Ok l D cA tys A yX16_row (.code yX16_row cX16_row 5 (some .long)) 2 46 [.ref rm, .int (i32 v1), .int (i32 v2), .int (i32 v3)] σ (QnJ dm ra jx rm Q) (QxR dm ra jx rm X) := by
  unfold wp_X16_row at h
  exact ok_J (plainFor_of_name (by decide)) (by exact Nat.le_of_ble_eq_true rfl) hT (fun p e R s m args below meth c K hQ hX H locs ls hH hl hc => a_X16_row_0 K hQ hX σ v1 v2 v3 g1 g2 g3 h hG hS H locs ls hH (lv_sub (l' := [(0, .ref rm), (1, .int (i32 v1)), (2, .int (i32 v2)), (3, .int (i32 v3))]) hl [0, 1, 2, 3] rfl) hc)
theorem dX16_start_0 : decode cX16_start 0 = .ok (.aload_n 0, 1) := by decide +kernel
theorem dX16_start_1 : decode cX16_start 1 = .ok (.aload_n 0, 1) := by decide +kernel
theorem dX16_start_2 : decode cX16_start 2 = .ok (.getfield 356, 3) := by decide +kernel
theorem dX16_start_5 : decode cX16_start 5 = .ok (.ifnull 10, 3) := by decide +kernel
theorem dX16_start_8 : decode cX16_start 8 = .ok (.aload_n 0, 1) := by decide +kernel
theorem dX16_start_9 : decode cX16_start 9 = .ok (.getfield 688, 3) := by decide +kernel
theorem dX16_start_12 : decode cX16_start 12 = .ok (.ifCond .eq 7, 3) := by decide +kernel
theorem dX16_start_15 : decode cX16_start 15 = .ok (.iconst 1, 1) := by decide +kernel
theorem dX16_start_16 : decode cX16_start 16 = .ok (.goto 32, 3) := by decide +kernel
theorem dX16_start_19 : decode cX16_start 19 = .ok (.iload_n 1, 1) := by decide +kernel
theorem dX16_start_20 : decode cX16_start 20 = .ok (.i2l, 1) := by decide +kernel
theorem dX16_start_21 : decode cX16_start 21 = .ok (.lconst 1, 1) := by decide +kernel
theorem dX16_start_22 : decode cX16_start 22 = .ok (.ldc2_w 359, 3) := by decide +kernel
theorem dX16_start_25 : decode cX16_start 25 = .ok (.invokestatic 45, 3) := by decide +kernel
theorem dX16_start_28 : decode cX16_start 28 = .ok (.ifCond .eq 15, 3) := by decide +kernel
theorem dX16_start_31 : decode cX16_start 31 = .ok (.iload_n 2, 1) := by decide +kernel
theorem dX16_start_32 : decode cX16_start 32 = .ok (.i2l, 1) := by decide +kernel
theorem dX16_start_33 : decode cX16_start 33 = .ok (.lconst 1, 1) := by decide +kernel
theorem dX16_start_34 : decode cX16_start 34 = .ok (.ldc2_w 250, 3) := by decide +kernel
theorem dX16_start_37 : decode cX16_start 37 = .ok (.invokestatic 45, 3) := by decide +kernel
theorem dX16_start_40 : decode cX16_start 40 = .ok (.ifCond .ne 7, 3) := by decide +kernel
theorem dX16_start_43 : decode cX16_start 43 = .ok (.iconst 2, 1) := by decide +kernel
theorem dX16_start_44 : decode cX16_start 44 = .ok (.goto 4, 3) := by decide +kernel
theorem dX16_start_47 : decode cX16_start 47 = .ok (.iconst 0, 1) := by decide +kernel
theorem dX16_start_48 : decode cX16_start 48 = .ok (.putfield 1, 3) := by decide +kernel
theorem dX16_start_51 : decode cX16_start 51 = .ok (.aload_n 0, 1) := by decide +kernel
theorem dX16_start_52 : decode cX16_start 52 = .ok (.getfield 1, 3) := by decide +kernel
theorem dX16_start_55 : decode cX16_start 55 = .ok (.ifCond .le 5, 3) := by decide +kernel
theorem dX16_start_58 : decode cX16_start 58 = .ok (.iconst 0, 1) := by decide +kernel
theorem dX16_start_59 : decode cX16_start 59 = .ok (.ireturn, 1) := by decide +kernel
theorem dX16_start_60 : decode cX16_start 60 = .ok (.aload_n 0, 1) := by decide +kernel
theorem dX16_start_61 : decode cX16_start 61 = .ok (.invokevirtual 979, 3) := by decide +kernel
theorem dX16_start_64 : decode cX16_start 64 = .ok (.aload_n 0, 1) := by decide +kernel
theorem dX16_start_65 : decode cX16_start 65 = .ok (.iconst 1, 1) := by decide +kernel
theorem dX16_start_66 : decode cX16_start 66 = .ok (.putfield 852, 3) := by decide +kernel
theorem dX16_start_69 : decode cX16_start 69 = .ok (.aload_n 0, 1) := by decide +kernel
theorem dX16_start_70 : decode cX16_start 70 = .ok (.iload_n 1, 1) := by decide +kernel
theorem dX16_start_71 : decode cX16_start 71 = .ok (.putfield 365, 3) := by decide +kernel
theorem dX16_start_74 : decode cX16_start 74 = .ok (.aload_n 0, 1) := by decide +kernel
theorem dX16_start_75 : decode cX16_start 75 = .ok (.iload_n 2, 1) := by decide +kernel
theorem dX16_start_76 : decode cX16_start 76 = .ok (.putfield 489, 3) := by decide +kernel
theorem dX16_start_79 : decode cX16_start 79 = .ok (.aload_n 0, 1) := by decide +kernel
theorem dX16_start_80 : decode cX16_start 80 = .ok (.lload_n 3, 1) := by decide +kernel
theorem dX16_start_81 : decode cX16_start 81 = .ok (.putfield 810, 3) := by decide +kernel
theorem dX16_start_84 : decode cX16_start 84 = .ok (.aload_n 0, 1) := by decide +kernel
theorem dX16_start_85 : decode cX16_start 85 = .ok (.invokevirtual 840, 3) := by decide +kernel
theorem dX16_start_88 : decode cX16_start 88 = .ok (.aload_n 0, 1) := by decide +kernel
theorem dX16_start_89 : decode cX16_start 89 = .ok (.getfield 399, 3) := by decide +kernel
theorem dX16_start_92 : decode cX16_start 92 = .ok (.ireturn, 1) := by decide +kernel
set_option maxRecDepth 20000 in
theorem a_X16_start_60 {Q : Sg → Int → Prop} {X : Sg → String → Prop} (K : MC R p s m args c cX16_start 5 RX16 D cA tys A n0 s0 4 95 []) (hQ : HQI p l e R s m args below meth c cX16_start D cA A n0 s0 QM dm ra jx rm Q) (hX : HX p l e R s m args below meth c 5 D cA A n0 s0 QM dm ra jx rm X) : ∀ (σ : Sg) (v1 : Int) (v2 : Int) (v3 : Int64) (g1 : rng v1) (g2 : rng v2), w_X16_start_60 ra jx rm Q X σ v1 v2 v3 → RG σ → Shp dm ra jx rm σ → JJ p l e R s m args below meth c 5 D cA A n0 s0 QM σ 60 [(0, .ref rm), (1, .int (i32 v1)), (2, .int (i32 v2)), (3, .long v3)] [] := by
  intro σ v1 v2 v3 g1 g2 h hGσ hS H locs ls hH hl hc
  have B := K.1
  unfold w_X16_start_60 at h
  refine lv_aload_n B.1 B.2.1 dX16_start_60 rfl (lv_at hl 0 rfl) ?_
  refine c_V B hH hl hc K.2.2.1 (C := RX16) (T := TX16) (N := 123) (ci := 16) (As := []) (ok_X16_noRun K.2.1 σ hGσ hS h) wc_X16_979 0 hd_X16_noRun ⟨Nat.le_trans (Nat.le_of_ble_eq_true rfl) K.2.2.2.1, Nat.le_trans (Nat.le_of_ble_eq_true rfl) K.2.2.2.2.1⟩ hS.1.1 hS.1.2 (by decide) rfl rfl (rest := []) rfl (Nat.le_of_ble_eq_true rfl) dX16_start_61 (fun σ23 w hq => ?_) (fun σ9 E9 hx9 => hX σ9 E9 _ _ _ (tb_out K.2.2.2.2.2 rfl) hx9.1 hx9.2.1 hx9.2.2)
  obtain ⟨rfl, h, hGσ23, hS⟩ := hq
  intro H locs ls hH hl hc
  refine W.eq (g2 := F0 m 64 ls []) (rfl) ?_
  try dsimp only at h
  refine lv_aload_n B.1 B.2.1 dX16_start_64 rfl (lv_at hl 0 rfl) ?_
  refine lv_iconst (v := i32 1) B.1 B.2.1 dX16_start_65 (by decide) ?_
  obtain ⟨σ24, eσ24⟩ : ∃ z, z = pI σ23 rm 30 1 := ⟨_, rfl⟩
  have h := h σ24 eσ24
  refine r_puti B hH hS 30 (ty := .boolean) (by decide) wf_X16_852 rfl rfl rfl rfl rfl rfl dX16_start_66 (fun H locs hH => ?_)
  have hH : Hd D cA A s (pI σ23 rm 30 1) H locs := hH
  rw [← eσ24] at hH
  have hGσ24 : RG σ24 := by rw [eσ24]; exact hGσ23.pI (by unfold rng; omega)
  have hS : Shp dm ra jx rm σ24 := by rw [eσ24]; exact hS
  have hc : CB n0 s0 σ24 := by rw [eσ24]; exact hc
  rw [show gc σ23 = gc σ24 by rw [eσ24], show gs σ23 = gs σ24 by rw [eσ24]]
  refine lv_aload_n B.1 B.2.1 dX16_start_69 rfl (lv_at hl 0 rfl) ?_
  refine lv_iload_n B.1 B.2.1 dX16_start_70 rfl (lv_at hl 1 rfl) ?_
  obtain ⟨σ25, eσ25⟩ : ∃ z, z = pI σ24 rm 33 v1 := ⟨_, rfl⟩
  have h := h σ25 eσ25
  refine r_puti B hH hS 33 (ty := .int) (by decide) wf_X16_365 rfl rfl rfl rfl rfl rfl dX16_start_71 (fun H locs hH => ?_)
  have hH : Hd D cA A s (pI σ24 rm 33 v1) H locs := hH
  rw [← eσ25] at hH
  have hGσ25 : RG σ25 := by rw [eσ25]; exact hGσ24.pI g1
  have hS : Shp dm ra jx rm σ25 := by rw [eσ25]; exact hS
  have hc : CB n0 s0 σ25 := by rw [eσ25]; exact hc
  rw [show gc σ24 = gc σ25 by rw [eσ25], show gs σ24 = gs σ25 by rw [eσ25]]
  refine lv_aload_n B.1 B.2.1 dX16_start_74 rfl (lv_at hl 0 rfl) ?_
  refine lv_iload_n B.1 B.2.1 dX16_start_75 rfl (lv_at hl 2 rfl) ?_
  obtain ⟨σ26, eσ26⟩ : ∃ z, z = pI σ25 rm 34 v2 := ⟨_, rfl⟩
  have h := h σ26 eσ26
  refine r_puti B hH hS 34 (ty := .int) (by decide) wf_X16_489 rfl rfl rfl rfl rfl rfl dX16_start_76 (fun H locs hH => ?_)
  have hH : Hd D cA A s (pI σ25 rm 34 v2) H locs := hH
  rw [← eσ26] at hH
  have hGσ26 : RG σ26 := by rw [eσ26]; exact hGσ25.pI g2
  have hS : Shp dm ra jx rm σ26 := by rw [eσ26]; exact hS
  have hc : CB n0 s0 σ26 := by rw [eσ26]; exact hc
  rw [show gc σ25 = gc σ26 by rw [eσ26], show gs σ25 = gs σ26 by rw [eσ26]]
  refine lv_aload_n B.1 B.2.1 dX16_start_79 rfl (lv_at hl 0 rfl) ?_
  refine lv_lload_n B.1 B.2.1 dX16_start_80 rfl (lv_at hl 3 rfl) ?_
  obtain ⟨σ27, eσ27⟩ : ∃ z, z = pJ σ26 rm 35 v3 := ⟨_, rfl⟩
  have h := h σ27 eσ27
  refine r_putl B hH hS 35 (by decide) wf_X16_810 rfl rfl rfl rfl dX16_start_81 (fun H locs hH => ?_)
  have hH : Hd D cA A s (pJ σ26 rm 35 v3) H locs := hH
  rw [← eσ27] at hH
  have hGσ27 : RG σ27 := by rw [eσ27]; exact hGσ26.pJ
  have hS : Shp dm ra jx rm σ27 := by rw [eσ27]; exact hS
  have hc : CB n0 s0 σ27 := by rw [eσ27]; exact hc
  rw [show gc σ26 = gc σ27 by rw [eσ27], show gs σ26 = gs σ27 by rw [eσ27]]
  refine lv_aload_n B.1 B.2.1 dX16_start_84 rfl (lv_at hl 0 rfl) ?_
  refine c_V B hH hl hc K.2.2.1 (C := RX16) (T := TX16) (N := 123) (ci := 16) (As := []) (ok_X16_layOut K.2.1 σ27 hGσ27 hS h) wc_X16_840 0 hd_X16_layOut ⟨Nat.le_trans (Nat.le_of_ble_eq_true rfl) K.2.2.2.1, Nat.le_trans (Nat.le_of_ble_eq_true rfl) K.2.2.2.2.1⟩ hS.1.1 hS.1.2 (by decide) rfl rfl (rest := []) rfl (Nat.le_of_ble_eq_true rfl) dX16_start_85 (fun σ28 w hq => ?_) (fun σ9 E9 hx9 => hX σ9 E9 _ _ _ (tb_out K.2.2.2.2.2 rfl) hx9.1 hx9.2.1 hx9.2.2)
  obtain ⟨rfl, h, hGσ28, hS⟩ := hq
  intro H locs ls hH hl hc
  refine W.eq (g2 := F0 m 88 ls []) (rfl) ?_
  try dsimp only at h
  refine lv_aload_n B.1 B.2.1 dX16_start_88 rfl (lv_at hl 0 rfl) ?_
  refine r_geti B hH hS 36 (by decide) wf_X16_399 rfl rfl dX16_start_89 ?_
  exact hQ _ _ _ _ _ _ (hGσ28 _ _) dX16_start_92 hH hc h hGσ28 hS
set_option maxRecDepth 20000 in
theorem a_X16_start_58 {Q : Sg → Int → Prop} {X : Sg → String → Prop} (K : MC R p s m args c cX16_start 5 RX16 D cA tys A n0 s0 4 95 []) (hQ : HQI p l e R s m args below meth c cX16_start D cA A n0 s0 QM dm ra jx rm Q) (hX : HX p l e R s m args below meth c 5 D cA A n0 s0 QM dm ra jx rm X) : ∀ (σ : Sg), w_X16_start_58 ra jx rm Q X σ → RG σ → Shp dm ra jx rm σ → JJ p l e R s m args below meth c 5 D cA A n0 s0 QM σ 58 [(0, .ref rm)] [] := by
  intro σ h hGσ hS H locs ls hH hl hc
  have B := K.1
  unfold w_X16_start_58 at h
  refine lv_iconst (v := i32 0) B.1 B.2.1 dX16_start_58 (by decide) ?_
  exact hQ _ _ _ _ _ _ (by unfold rng; omega) dX16_start_59 hH hc h hGσ hS
set_option maxRecDepth 20000 in
theorem a_X16_start_48 {Q : Sg → Int → Prop} {X : Sg → String → Prop} (K : MC R p s m args c cX16_start 5 RX16 D cA tys A n0 s0 4 95 []) (hQ : HQI p l e R s m args below meth c cX16_start D cA A n0 s0 QM dm ra jx rm Q) (hX : HX p l e R s m args below meth c 5 D cA A n0 s0 QM dm ra jx rm X) : ∀ (σ : Sg) (v1 : Int) (v2 : Int) (v3 : Int64) (u0 : Int) (g1 : rng v1) (g2 : rng v2) (gu0 : rng u0), w_X16_start_48 ra jx rm Q X σ v1 v2 v3 u0 → RG σ → Shp dm ra jx rm σ → JJ p l e R s m args below meth c 5 D cA A n0 s0 QM σ 48 [(0, .ref rm), (1, .int (i32 v1)), (2, .int (i32 v2)), (3, .long v3)] [.int (i32 u0), .ref rm] := by
  intro σ v1 v2 v3 u0 g1 g2 gu0 h hGσ hS H locs ls hH hl hc
  have B := K.1
  unfold w_X16_start_48 at h
  obtain ⟨σ29, eσ29⟩ : ∃ z, z = pI σ rm 0 u0 := ⟨_, rfl⟩
  have h := h σ29 eσ29
  refine r_puti B hH hS 0 (ty := .int) (by decide) wf_X16_1 rfl rfl rfl rfl rfl rfl dX16_start_48 (fun H locs hH => ?_)
  have hH : Hd D cA A s (pI σ rm 0 u0) H locs := hH
  rw [← eσ29] at hH
  have hGσ29 : RG σ29 := by rw [eσ29]; exact hGσ.pI gu0
  have hS : Shp dm ra jx rm σ29 := by rw [eσ29]; exact hS
  have hc : CB n0 s0 σ29 := by rw [eσ29]; exact hc
  rw [show gc σ = gc σ29 by rw [eσ29], show gs σ = gs σ29 by rw [eσ29]]
  refine lv_aload_n B.1 B.2.1 dX16_start_51 rfl (lv_at hl 0 rfl) ?_
  refine r_geti B hH hS 0 (by decide) wf_X16_1 rfl rfl dX16_start_52 ?_
  refine lv_if_le (tgt := 60) B.1 B.2.1 dX16_start_55 (by decide) (fun h9 => ?_) (fun h9 => ?_)
  · rw [if_pos ((z_le (hGσ29 _ _)).mp h9)] at h
    exact a_X16_start_60 K hQ hX _ _ _ _ g1 g2 h hGσ29 hS _ _ _ hH (lv_sub (l' := [(0, .ref rm), (1, .int (i32 v1)), (2, .int (i32 v2)), (3, .long v3)]) hl [0, 1, 2, 3] rfl) hc
  · rw [if_neg (fun q => h9 ((z_le (hGσ29 _ _)).mpr q))] at h
    exact a_X16_start_58 K hQ hX _ h hGσ29 hS _ _ _ hH (lv_sub (l' := [(0, .ref rm)]) hl [0] rfl) hc
set_option maxRecDepth 20000 in
theorem a_X16_start_15 {Q : Sg → Int → Prop} {X : Sg → String → Prop} (K : MC R p s m args c cX16_start 5 RX16 D cA tys A n0 s0 4 95 []) (hQ : HQI p l e R s m args below meth c cX16_start D cA A n0 s0 QM dm ra jx rm Q) (hX : HX p l e R s m args below meth c 5 D cA A n0 s0 QM dm ra jx rm X) : ∀ (σ : Sg) (v1 : Int) (v2 : Int) (v3 : Int64) (g1 : rng v1) (g2 : rng v2), w_X16_start_15 ra jx rm Q X σ v1 v2 v3 → RG σ → Shp dm ra jx rm σ → JJ p l e R s m args below meth c 5 D cA A n0 s0 QM σ 15 [(0, .ref rm), (1, .int (i32 v1)), (2, .int (i32 v2)), (3, .long v3)] [.ref rm] := by
  intro σ v1 v2 v3 g1 g2 h hGσ hS H locs ls hH hl hc
  have B := K.1
  unfold w_X16_start_15 at h
  refine lv_iconst (v := i32 1) B.1 B.2.1 dX16_start_15 (by decide) ?_
  refine lv_goto (tgt := 48) B.1 B.2.1 dX16_start_16 (by decide) ?_
  exact a_X16_start_48 K hQ hX _ _ _ _ _ g1 g2 (by unfold rng; omega) h hGσ hS _ _ _ hH (lv_sub (l' := [(0, .ref rm), (1, .int (i32 v1)), (2, .int (i32 v2)), (3, .long v3)]) hl [0, 1, 2, 3] rfl) hc
set_option maxRecDepth 20000 in
theorem a_X16_start_43 {Q : Sg → Int → Prop} {X : Sg → String → Prop} (K : MC R p s m args c cX16_start 5 RX16 D cA tys A n0 s0 4 95 []) (hQ : HQI p l e R s m args below meth c cX16_start D cA A n0 s0 QM dm ra jx rm Q) (hX : HX p l e R s m args below meth c 5 D cA A n0 s0 QM dm ra jx rm X) : ∀ (σ : Sg) (v1 : Int) (v2 : Int) (v3 : Int64) (g1 : rng v1) (g2 : rng v2), w_X16_start_43 ra jx rm Q X σ v1 v2 v3 → RG σ → Shp dm ra jx rm σ → JJ p l e R s m args below meth c 5 D cA A n0 s0 QM σ 43 [(0, .ref rm), (1, .int (i32 v1)), (2, .int (i32 v2)), (3, .long v3)] [.ref rm] := by
  intro σ v1 v2 v3 g1 g2 h hGσ hS H locs ls hH hl hc
  have B := K.1
  unfold w_X16_start_43 at h
  refine lv_iconst (v := i32 2) B.1 B.2.1 dX16_start_43 (by decide) ?_
  refine lv_goto (tgt := 48) B.1 B.2.1 dX16_start_44 (by decide) ?_
  exact a_X16_start_48 K hQ hX _ _ _ _ _ g1 g2 (by unfold rng; omega) h hGσ hS _ _ _ hH (lv_sub (l' := [(0, .ref rm), (1, .int (i32 v1)), (2, .int (i32 v2)), (3, .long v3)]) hl [0, 1, 2, 3] rfl) hc
set_option maxRecDepth 20000 in
theorem a_X16_start_47 {Q : Sg → Int → Prop} {X : Sg → String → Prop} (K : MC R p s m args c cX16_start 5 RX16 D cA tys A n0 s0 4 95 []) (hQ : HQI p l e R s m args below meth c cX16_start D cA A n0 s0 QM dm ra jx rm Q) (hX : HX p l e R s m args below meth c 5 D cA A n0 s0 QM dm ra jx rm X) : ∀ (σ : Sg) (v1 : Int) (v2 : Int) (v3 : Int64) (g1 : rng v1) (g2 : rng v2), w_X16_start_47 ra jx rm Q X σ v1 v2 v3 → RG σ → Shp dm ra jx rm σ → JJ p l e R s m args below meth c 5 D cA A n0 s0 QM σ 47 [(0, .ref rm), (1, .int (i32 v1)), (2, .int (i32 v2)), (3, .long v3)] [.ref rm] := by
  intro σ v1 v2 v3 g1 g2 h hGσ hS H locs ls hH hl hc
  have B := K.1
  unfold w_X16_start_47 at h
  refine lv_iconst (v := i32 0) B.1 B.2.1 dX16_start_47 (by decide) ?_
  exact a_X16_start_48 K hQ hX _ _ _ _ _ g1 g2 (by unfold rng; omega) h hGσ hS _ _ _ hH (lv_sub (l' := [(0, .ref rm), (1, .int (i32 v1)), (2, .int (i32 v2)), (3, .long v3)]) hl [0, 1, 2, 3] rfl) hc
set_option maxRecDepth 20000 in
theorem a_X16_start_31 {Q : Sg → Int → Prop} {X : Sg → String → Prop} (K : MC R p s m args c cX16_start 5 RX16 D cA tys A n0 s0 4 95 []) (hQ : HQI p l e R s m args below meth c cX16_start D cA A n0 s0 QM dm ra jx rm Q) (hX : HX p l e R s m args below meth c 5 D cA A n0 s0 QM dm ra jx rm X) : ∀ (σ : Sg) (v1 : Int) (v2 : Int) (v3 : Int64) (g1 : rng v1) (g2 : rng v2), w_X16_start_31 ra jx rm Q X σ v1 v2 v3 → RG σ → Shp dm ra jx rm σ → JJ p l e R s m args below meth c 5 D cA A n0 s0 QM σ 31 [(0, .ref rm), (1, .int (i32 v1)), (2, .int (i32 v2)), (3, .long v3)] [.ref rm] := by
  intro σ v1 v2 v3 g1 g2 h hGσ hS H locs ls hH hl hc
  have B := K.1
  unfold w_X16_start_31 at h
  refine lv_iload_n B.1 B.2.1 dX16_start_31 rfl (lv_at hl 2 rfl) ?_
  refine lv_i2l B.1 B.2.1 dX16_start_32 (i32_i64 g2) ?_
  refine lv_lconst (v := 1) B.1 B.2.1 dX16_start_33 (by decide) ?_
  refine lv_ldc2 B.1 B.2.1 B.2.2.1 (B.2.2.2.1 _ (wk_X16_250)) dX16_start_34 ?_
  refine c_S B hH hl hc K.2.2.1 (As := [.long (Int64.ofInt v2), .long 1, .long 8]) (ok_X16_within K.2.1 σ (Int64.ofInt v2) 1 8 hGσ hS h) wc_X16_45 3 hd_X16_within ⟨Nat.le_trans (Nat.le_of_ble_eq_true rfl) K.2.2.2.1, Nat.le_trans (Nat.le_of_ble_eq_true rfl) K.2.2.2.2.1⟩ rfl (rest := [.ref rm]) rfl (Nat.le_of_ble_eq_true rfl) dX16_start_37 (fun σ30 w hq => ?_) (fun σ9 E9 hx9 => hX σ9 E9 _ _ _ (tb_out K.2.2.2.2.2 rfl) hx9.1 hx9.2.1 hx9.2.2)
  obtain ⟨r31, rfl, ⟨gr31, gzr31⟩, h, hGσ30, hS⟩ := hq
  intro H locs ls hH hl hc
  refine W.eq (g2 := F0 m 40 ls [.int (i32 r31), .ref rm]) (rfl) ?_
  try dsimp only at h
  refine lv_if_ne (tgt := 47) B.1 B.2.1 dX16_start_40 (by decide) (fun h9 => ?_) (fun h9 => ?_)
  · rw [if_pos (fun q => h9 ((z_eq gr31).mpr q))] at h
    exact a_X16_start_47 K hQ hX _ _ _ _ g1 g2 h hGσ30 hS _ _ _ hH (lv_sub (l' := [(0, .ref rm), (1, .int (i32 v1)), (2, .int (i32 v2)), (3, .long v3)]) hl [0, 1, 2, 3] rfl) hc
  · rw [if_neg (fun q => q ((z_eq gr31).mp h9))] at h
    exact a_X16_start_43 K hQ hX _ _ _ _ g1 g2 h hGσ30 hS _ _ _ hH (lv_sub (l' := [(0, .ref rm), (1, .int (i32 v1)), (2, .int (i32 v2)), (3, .long v3)]) hl [0, 1, 2, 3] rfl) hc
set_option maxRecDepth 20000 in
theorem a_X16_start_19 {Q : Sg → Int → Prop} {X : Sg → String → Prop} (K : MC R p s m args c cX16_start 5 RX16 D cA tys A n0 s0 4 95 []) (hQ : HQI p l e R s m args below meth c cX16_start D cA A n0 s0 QM dm ra jx rm Q) (hX : HX p l e R s m args below meth c 5 D cA A n0 s0 QM dm ra jx rm X) : ∀ (σ : Sg) (v1 : Int) (v2 : Int) (v3 : Int64) (g1 : rng v1) (g2 : rng v2), w_X16_start_19 ra jx rm Q X σ v1 v2 v3 → RG σ → Shp dm ra jx rm σ → JJ p l e R s m args below meth c 5 D cA A n0 s0 QM σ 19 [(0, .ref rm), (1, .int (i32 v1)), (2, .int (i32 v2)), (3, .long v3)] [.ref rm] := by
  intro σ v1 v2 v3 g1 g2 h hGσ hS H locs ls hH hl hc
  have B := K.1
  unfold w_X16_start_19 at h
  refine lv_iload_n B.1 B.2.1 dX16_start_19 rfl (lv_at hl 1 rfl) ?_
  refine lv_i2l B.1 B.2.1 dX16_start_20 (i32_i64 g1) ?_
  refine lv_lconst (v := 1) B.1 B.2.1 dX16_start_21 (by decide) ?_
  refine lv_ldc2 B.1 B.2.1 B.2.2.1 (B.2.2.2.1 _ (wk_X16_359)) dX16_start_22 ?_
  refine c_S B hH hl hc K.2.2.1 (As := [.long (Int64.ofInt v1), .long 1, .long 4]) (ok_X16_within K.2.1 σ (Int64.ofInt v1) 1 4 hGσ hS h) wc_X16_45 3 hd_X16_within ⟨Nat.le_trans (Nat.le_of_ble_eq_true rfl) K.2.2.2.1, Nat.le_trans (Nat.le_of_ble_eq_true rfl) K.2.2.2.2.1⟩ rfl (rest := [.ref rm]) rfl (Nat.le_of_ble_eq_true rfl) dX16_start_25 (fun σ32 w hq => ?_) (fun σ9 E9 hx9 => hX σ9 E9 _ _ _ (tb_out K.2.2.2.2.2 rfl) hx9.1 hx9.2.1 hx9.2.2)
  obtain ⟨r33, rfl, ⟨gr33, gzr33⟩, h, hGσ32, hS⟩ := hq
  intro H locs ls hH hl hc
  refine W.eq (g2 := F0 m 28 ls [.int (i32 r33), .ref rm]) (rfl) ?_
  try dsimp only at h
  refine lv_if_eq (tgt := 43) B.1 B.2.1 dX16_start_28 (by decide) (fun h9 => ?_) (fun h9 => ?_)
  · rw [if_pos ((z_eq gr33).mp h9)] at h
    exact a_X16_start_43 K hQ hX _ _ _ _ g1 g2 h hGσ32 hS _ _ _ hH (lv_sub (l' := [(0, .ref rm), (1, .int (i32 v1)), (2, .int (i32 v2)), (3, .long v3)]) hl [0, 1, 2, 3] rfl) hc
  · rw [if_neg (fun q => h9 ((z_eq gr33).mpr q))] at h
    exact a_X16_start_31 K hQ hX _ _ _ _ g1 g2 h hGσ32 hS _ _ _ hH (lv_sub (l' := [(0, .ref rm), (1, .int (i32 v1)), (2, .int (i32 v2)), (3, .long v3)]) hl [0, 1, 2, 3] rfl) hc
set_option maxRecDepth 20000 in
theorem a_X16_start_8 {Q : Sg → Int → Prop} {X : Sg → String → Prop} (K : MC R p s m args c cX16_start 5 RX16 D cA tys A n0 s0 4 95 []) (hQ : HQI p l e R s m args below meth c cX16_start D cA A n0 s0 QM dm ra jx rm Q) (hX : HX p l e R s m args below meth c 5 D cA A n0 s0 QM dm ra jx rm X) : ∀ (σ : Sg) (v1 : Int) (v2 : Int) (v3 : Int64) (g1 : rng v1) (g2 : rng v2), w_X16_start_8 ra jx rm Q X σ v1 v2 v3 → RG σ → Shp dm ra jx rm σ → JJ p l e R s m args below meth c 5 D cA A n0 s0 QM σ 8 [(0, .ref rm), (1, .int (i32 v1)), (2, .int (i32 v2)), (3, .long v3)] [.ref rm] := by
  intro σ v1 v2 v3 g1 g2 h hGσ hS H locs ls hH hl hc
  have B := K.1
  unfold w_X16_start_8 at h
  refine lv_aload_n B.1 B.2.1 dX16_start_8 rfl (lv_at hl 0 rfl) ?_
  refine r_geti B hH hS 32 (by decide) wf_X16_688 rfl rfl dX16_start_9 ?_
  refine lv_if_eq (tgt := 19) B.1 B.2.1 dX16_start_12 (by decide) (fun h9 => ?_) (fun h9 => ?_)
  · rw [if_pos ((z_eq (hGσ _ _)).mp h9)] at h
    exact a_X16_start_19 K hQ hX _ _ _ _ g1 g2 h hGσ hS _ _ _ hH (lv_sub (l' := [(0, .ref rm), (1, .int (i32 v1)), (2, .int (i32 v2)), (3, .long v3)]) hl [0, 1, 2, 3] rfl) hc
  · rw [if_neg (fun q => h9 ((z_eq (hGσ _ _)).mpr q))] at h
    exact a_X16_start_15 K hQ hX _ _ _ _ g1 g2 h hGσ hS _ _ _ hH (lv_sub (l' := [(0, .ref rm), (1, .int (i32 v1)), (2, .int (i32 v2)), (3, .long v3)]) hl [0, 1, 2, 3] rfl) hc
set_option maxRecDepth 20000 in
theorem a_X16_start_0 {Q : Sg → Int → Prop} {X : Sg → String → Prop} (K : MC R p s m args c cX16_start 5 RX16 D cA tys A n0 s0 4 95 []) (hQ : HQI p l e R s m args below meth c cX16_start D cA A n0 s0 QM dm ra jx rm Q) (hX : HX p l e R s m args below meth c 5 D cA A n0 s0 QM dm ra jx rm X) : ∀ (σ : Sg) (v1 : Int) (v2 : Int) (v3 : Int64) (g1 : rng v1) (g2 : rng v2), w_X16_start_0 ra jx rm Q X σ v1 v2 v3 → RG σ → Shp dm ra jx rm σ → JJ p l e R s m args below meth c 5 D cA A n0 s0 QM σ 0 [(0, .ref rm), (1, .int (i32 v1)), (2, .int (i32 v2)), (3, .long v3)] [] := by
  intro σ v1 v2 v3 g1 g2 h hGσ hS H locs ls hH hl hc
  have B := K.1
  unfold w_X16_start_0 at h
  refine lv_aload_n B.1 B.2.1 dX16_start_0 rfl (lv_at hl 0 rfl) ?_
  refine lv_aload_n B.1 B.2.1 dX16_start_1 rfl (lv_at hl 0 rfl) ?_
  refine r_getp B hH hS 17 (by decide) wf_X16_356 rfl rfl dX16_start_2 ?_
  refine lv_ifnullQ (tgt := 15) B.1 B.2.1 dX16_start_5 (by decide) (fun h9 => ?_) (fun h9 => ?_)
  · rw [if_pos (h9)] at h
    exact a_X16_start_15 K hQ hX _ _ _ _ g1 g2 h hGσ hS _ _ _ hH (lv_sub (l' := [(0, .ref rm), (1, .int (i32 v1)), (2, .int (i32 v2)), (3, .long v3)]) hl [0, 1, 2, 3] rfl) hc
  · rw [if_neg (h9)] at h
    exact a_X16_start_8 K hQ hX _ _ _ _ g1 g2 h hGσ hS _ _ _ hH (lv_sub (l' := [(0, .ref rm), (1, .int (i32 v1)), (2, .int (i32 v2)), (3, .long v3)]) hl [0, 1, 2, 3] rfl) hc
theorem ok_X16_start (hT : Tys cA tys) {Q : Sg → Int → Prop} {X : Sg → String → Prop} (σ : Sg) (v1 : Int) (v2 : Int) (v3 : Int64) (g1 : rng v1) (g2 : rng v2) (hG : RG σ) (hS : Shp dm ra jx rm σ) (h : wp_X16_start ra jx rm v1 v2 v3 σ Q X) : Ok l D cA tys A yX16_start (.code yX16_start cX16_start 5 (some .int)) 4 95 [.ref rm, .int (i32 v1), .int (i32 v2), .long v3] σ (QnI dm ra jx rm Q) (QxR dm ra jx rm X) := by
  unfold wp_X16_start at h
  exact ok_I (plainFor_of_name (by decide)) (by exact Nat.le_of_ble_eq_true rfl) hT (fun p e R s m args below meth c K hQ hX H locs ls hH hl hc => a_X16_start_0 K hQ hX σ v1 v2 v3 g1 g2 h hG hS H locs ls hH (lv_sub (l' := [(0, .ref rm), (1, .int (i32 v1)), (2, .int (i32 v2)), (3, .long v3)]) hl [0, 1, 2, 3] rfl) hc)
theorem dX16_task_0 : decode cX16_task 0 = .ok (.aload_n 0, 1) := by decide +kernel
theorem dX16_task_1 : decode cX16_task 1 = .ok (.iload_n 1, 1) := by decide +kernel
theorem dX16_task_2 : decode cX16_task 2 = .ok (.i2l, 1) := by decide +kernel
theorem dX16_task_3 : decode cX16_task 3 = .ok (.lconst 0, 1) := by decide +kernel
theorem dX16_task_4 : decode cX16_task 4 = .ok (.aload_n 0, 1) := by decide +kernel
theorem dX16_task_5 : decode cX16_task 5 = .ok (.getfield 399, 3) := by decide +kernel
theorem dX16_task_8 : decode cX16_task 8 = .ok (.iconst 1, 1) := by decide +kernel
theorem dX16_task_9 : decode cX16_task 9 = .ok (.isub, 1) := by decide +kernel
theorem dX16_task_10 : decode cX16_task 10 = .ok (.i2l, 1) := by decide +kernel
theorem dX16_task_11 : decode cX16_task 11 = .ok (.invokestatic 45, 3) := by decide +kernel
theorem dX16_task_14 : decode cX16_task 14 = .ok (.ifCond .ne 7, 3) := by decide +kernel
theorem dX16_task_17 : decode cX16_task 17 = .ok (.iconst 1, 1) := by decide +kernel
theorem dX16_task_18 : decode cX16_task 18 = .ok (.goto 38, 3) := by decide +kernel
theorem dX16_task_21 : decode cX16_task 21 = .ok (.aload_n 0, 1) := by decide +kernel
theorem dX16_task_22 : decode cX16_task 22 = .ok (.getfield 688, 3) := by decide +kernel
theorem dX16_task_25 : decode cX16_task 25 = .ok (.ifCond .ne 10, 3) := by decide +kernel
theorem dX16_task_28 : decode cX16_task 28 = .ok (.aload_n 0, 1) := by decide +kernel
theorem dX16_task_29 : decode cX16_task 29 = .ok (.getfield 831, 3) := by decide +kernel
theorem dX16_task_32 : decode cX16_task 32 = .ok (.ifCond .eq 7, 3) := by decide +kernel
theorem dX16_task_35 : decode cX16_task 35 = .ok (.iconst 2, 1) := by decide +kernel
theorem dX16_task_36 : decode cX16_task 36 = .ok (.goto 20, 3) := by decide +kernel
theorem dX16_task_39 : decode cX16_task 39 = .ok (.iload_n 2, 1) := by decide +kernel
theorem dX16_task_40 : decode cX16_task 40 = .ok (.i2l, 1) := by decide +kernel
theorem dX16_task_41 : decode cX16_task 41 = .ok (.lconst 0, 1) := by decide +kernel
theorem dX16_task_42 : decode cX16_task 42 = .ok (.ldc2_w 250, 3) := by decide +kernel
theorem dX16_task_45 : decode cX16_task 45 = .ok (.invokestatic 45, 3) := by decide +kernel
theorem dX16_task_48 : decode cX16_task 48 = .ok (.ifCond .ne 7, 3) := by decide +kernel
theorem dX16_task_51 : decode cX16_task 51 = .ok (.iconst 3, 1) := by decide +kernel
theorem dX16_task_52 : decode cX16_task 52 = .ok (.goto 4, 3) := by decide +kernel
theorem dX16_task_55 : decode cX16_task 55 = .ok (.iconst 0, 1) := by decide +kernel
theorem dX16_task_56 : decode cX16_task 56 = .ok (.putfield 1, 3) := by decide +kernel
theorem dX16_task_59 : decode cX16_task 59 = .ok (.aload_n 0, 1) := by decide +kernel
theorem dX16_task_60 : decode cX16_task 60 = .ok (.getfield 1, 3) := by decide +kernel
theorem dX16_task_63 : decode cX16_task 63 = .ok (.ifCond .le 5, 3) := by decide +kernel
theorem dX16_task_66 : decode cX16_task 66 = .ok (.lconst 0, 1) := by decide +kernel
theorem dX16_task_67 : decode cX16_task 67 = .ok (.lreturn, 1) := by decide +kernel
theorem dX16_task_68 : decode cX16_task 68 = .ok (.aload_n 0, 1) := by decide +kernel
theorem dX16_task_69 : decode cX16_task 69 = .ok (.getfield 380, 3) := by decide +kernel
theorem dX16_task_72 : decode cX16_task 72 = .ok (.iload_n 1, 1) := by decide +kernel
theorem dX16_task_73 : decode cX16_task 73 = .ok (.iaload, 1) := by decide +kernel
theorem dX16_task_74 : decode cX16_task 74 = .ok (.istore_n 3, 1) := by decide +kernel
theorem dX16_task_75 : decode cX16_task 75 = .ok (.aload_n 0, 1) := by decide +kernel
theorem dX16_task_76 : decode cX16_task 76 = .ok (.getfield 356, 3) := by decide +kernel
theorem dX16_task_79 : decode cX16_task 79 = .ok (.getfield 246, 3) := by decide +kernel
theorem dX16_task_82 : decode cX16_task 82 = .ok (.iload_n 3, 1) := by decide +kernel
theorem dX16_task_83 : decode cX16_task 83 = .ok (.iaload, 1) := by decide +kernel
theorem dX16_task_84 : decode cX16_task 84 = .ok (.istore 4, 2) := by decide +kernel
theorem dX16_task_86 : decode cX16_task 86 = .ok (.iload_n 2, 1) := by decide +kernel
theorem dX16_task_87 : decode cX16_task 87 = .ok (.tableswitch 137 0 7 #[45, 48, 56, 63, 71, 102, 110, 118], 45) := by decide +kernel
theorem dX16_task_132 : decode cX16_task 132 = .ok (.iload_n 3, 1) := by decide +kernel
theorem dX16_task_133 : decode cX16_task 133 = .ok (.i2l, 1) := by decide +kernel
theorem dX16_task_134 : decode cX16_task 134 = .ok (.lreturn, 1) := by decide +kernel
theorem dX16_task_135 : decode cX16_task 135 = .ok (.aload_n 0, 1) := by decide +kernel
theorem dX16_task_136 : decode cX16_task 136 = .ok (.getfield 396, 3) := by decide +kernel
theorem dX16_task_139 : decode cX16_task 139 = .ok (.iload_n 1, 1) := by decide +kernel
theorem dX16_task_140 : decode cX16_task 140 = .ok (.iaload, 1) := by decide +kernel
theorem dX16_task_141 : decode cX16_task 141 = .ok (.i2l, 1) := by decide +kernel
theorem dX16_task_142 : decode cX16_task 142 = .ok (.lreturn, 1) := by decide +kernel
theorem dX16_task_143 : decode cX16_task 143 = .ok (.aload_n 0, 1) := by decide +kernel
theorem dX16_task_144 : decode cX16_task 144 = .ok (.getfield 414, 3) := by decide +kernel
theorem dX16_task_147 : decode cX16_task 147 = .ok (.iload_n 1, 1) := by decide +kernel
theorem dX16_task_148 : decode cX16_task 148 = .ok (.laload, 1) := by decide +kernel
theorem dX16_task_149 : decode cX16_task 149 = .ok (.lreturn, 1) := by decide +kernel
theorem dX16_task_150 : decode cX16_task 150 = .ok (.aload_n 0, 1) := by decide +kernel
theorem dX16_task_151 : decode cX16_task 151 = .ok (.getfield 441, 3) := by decide +kernel
theorem dX16_task_154 : decode cX16_task 154 = .ok (.iload_n 1, 1) := by decide +kernel
theorem dX16_task_155 : decode cX16_task 155 = .ok (.iaload, 1) := by decide +kernel
theorem dX16_task_156 : decode cX16_task 156 = .ok (.i2l, 1) := by decide +kernel
theorem dX16_task_157 : decode cX16_task 157 = .ok (.lreturn, 1) := by decide +kernel
theorem dX16_task_158 : decode cX16_task 158 = .ok (.iload 4, 2) := by decide +kernel
theorem dX16_task_160 : decode cX16_task 160 = .ok (.bipush 11, 2) := by decide +kernel
theorem dX16_task_162 : decode cX16_task 162 = .ok (.if_icmp .ne 19, 3) := by decide +kernel
theorem dX16_task_165 : decode cX16_task 165 = .ok (.aload_n 0, 1) := by decide +kernel
theorem dX16_task_166 : decode cX16_task 166 = .ok (.getfield 667, 3) := by decide +kernel
theorem dX16_task_169 : decode cX16_task 169 = .ok (.iconst 3, 1) := by decide +kernel
theorem dX16_task_170 : decode cX16_task 170 = .ok (.aload_n 0, 1) := by decide +kernel
theorem dX16_task_171 : decode cX16_task 171 = .ok (.iload_n 3, 1) := by decide +kernel
theorem dX16_task_172 : decode cX16_task 172 = .ok (.invokevirtual 571, 3) := by decide +kernel
theorem dX16_task_175 : decode cX16_task 175 = .ok (.imul, 1) := by decide +kernel
theorem dX16_task_176 : decode cX16_task 176 = .ok (.iaload, 1) := by decide +kernel
theorem dX16_task_177 : decode cX16_task 177 = .ok (.i2l, 1) := by decide +kernel
theorem dX16_task_178 : decode cX16_task 178 = .ok (.goto 10, 3) := by decide +kernel
theorem dX16_task_181 : decode cX16_task 181 = .ok (.aload_n 0, 1) := by decide +kernel
theorem dX16_task_182 : decode cX16_task 182 = .ok (.getfield 510, 3) := by decide +kernel
theorem dX16_task_185 : decode cX16_task 185 = .ok (.iload_n 1, 1) := by decide +kernel
theorem dX16_task_186 : decode cX16_task 186 = .ok (.iaload, 1) := by decide +kernel
theorem dX16_task_187 : decode cX16_task 187 = .ok (.i2l, 1) := by decide +kernel
theorem dX16_task_188 : decode cX16_task 188 = .ok (.lreturn, 1) := by decide +kernel
theorem dX16_task_189 : decode cX16_task 189 = .ok (.aload_n 0, 1) := by decide +kernel
theorem dX16_task_190 : decode cX16_task 190 = .ok (.getfield 419, 3) := by decide +kernel
theorem dX16_task_193 : decode cX16_task 193 = .ok (.iload_n 1, 1) := by decide +kernel
theorem dX16_task_194 : decode cX16_task 194 = .ok (.iaload, 1) := by decide +kernel
theorem dX16_task_195 : decode cX16_task 195 = .ok (.i2l, 1) := by decide +kernel
theorem dX16_task_196 : decode cX16_task 196 = .ok (.lreturn, 1) := by decide +kernel
theorem dX16_task_197 : decode cX16_task 197 = .ok (.aload_n 0, 1) := by decide +kernel
theorem dX16_task_198 : decode cX16_task 198 = .ok (.getfield 422, 3) := by decide +kernel
theorem dX16_task_201 : decode cX16_task 201 = .ok (.iload_n 1, 1) := by decide +kernel
theorem dX16_task_202 : decode cX16_task 202 = .ok (.iaload, 1) := by decide +kernel
theorem dX16_task_203 : decode cX16_task 203 = .ok (.i2l, 1) := by decide +kernel
theorem dX16_task_204 : decode cX16_task 204 = .ok (.lreturn, 1) := by decide +kernel
theorem dX16_task_205 : decode cX16_task 205 = .ok (.iload 4, 2) := by decide +kernel
theorem dX16_task_207 : decode cX16_task 207 = .ok (.ifCond .ne 13, 3) := by decide +kernel
theorem dX16_task_210 : decode cX16_task 210 = .ok (.aload_n 0, 1) := by decide +kernel
theorem dX16_task_211 : decode cX16_task 211 = .ok (.getfield 425, 3) := by decide +kernel
theorem dX16_task_214 : decode cX16_task 214 = .ok (.iload_n 1, 1) := by decide +kernel
theorem dX16_task_215 : decode cX16_task 215 = .ok (.iaload, 1) := by decide +kernel
theorem dX16_task_216 : decode cX16_task 216 = .ok (.i2l, 1) := by decide +kernel
theorem dX16_task_217 : decode cX16_task 217 = .ok (.goto 6, 3) := by decide +kernel
theorem dX16_task_220 : decode cX16_task 220 = .ok (.ldc2_w 417, 3) := by decide +kernel
theorem dX16_task_223 : decode cX16_task 223 = .ok (.lreturn, 1) := by decide +kernel
theorem dX16_task_224 : decode cX16_task 224 = .ok (.aload_n 0, 1) := by decide +kernel
theorem dX16_task_225 : decode cX16_task 225 = .ok (.getfield 742, 3) := by decide +kernel
theorem dX16_task_228 : decode cX16_task 228 = .ok (.ifCond .le 16, 3) := by decide +kernel
theorem dX16_task_231 : decode cX16_task 231 = .ok (.aload_n 0, 1) := by decide +kernel
theorem dX16_task_232 : decode cX16_task 232 = .ok (.getfield 428, 3) := by decide +kernel
theorem dX16_task_235 : decode cX16_task 235 = .ok (.iload_n 1, 1) := by decide +kernel
theorem dX16_task_236 : decode cX16_task 236 = .ok (.baload, 1) := by decide +kernel
theorem dX16_task_237 : decode cX16_task 237 = .ok (.ifCond .eq 7, 3) := by decide +kernel
theorem dX16_task_240 : decode cX16_task 240 = .ok (.lconst 1, 1) := by decide +kernel
theorem dX16_task_241 : decode cX16_task 241 = .ok (.goto 4, 3) := by decide +kernel
theorem dX16_task_244 : decode cX16_task 244 = .ok (.lconst 0, 1) := by decide +kernel
theorem dX16_task_245 : decode cX16_task 245 = .ok (.lreturn, 1) := by decide +kernel
set_option maxRecDepth 20000 in
theorem a_X16_task_132 {Q : Sg → Int64 → Prop} {X : Sg → String → Prop} (K : MC R p s m args c cX16_task 5 RX16 D cA tys A n0 s0 1 25 []) (hQ : HQJ p l e R s m args below meth c cX16_task D cA A n0 s0 QM dm ra jx rm Q) (hX : HX p l e R s m args below meth c 5 D cA A n0 s0 QM dm ra jx rm X) : ∀ (σ : Sg) (v3 : Int) (g3 : rng v3), w_X16_task_132 ra jx rm Q X σ v3 → RG σ → Shp dm ra jx rm σ → JJ p l e R s m args below meth c 5 D cA A n0 s0 QM σ 132 [(0, .ref rm), (3, .int (i32 v3))] [] := by
  intro σ v3 g3 h hGσ hS H locs ls hH hl hc
  have B := K.1
  unfold w_X16_task_132 at h
  refine lv_iload_n B.1 B.2.1 dX16_task_132 rfl (lv_at hl 1 rfl) ?_
  refine lv_i2l B.1 B.2.1 dX16_task_133 (i32_i64 g3) ?_
  exact hQ _ _ _ _ _ _ dX16_task_134 hH hc h hGσ hS
set_option maxRecDepth 20000 in
theorem a_X16_task_135 {Q : Sg → Int64 → Prop} {X : Sg → String → Prop} (K : MC R p s m args c cX16_task 5 RX16 D cA tys A n0 s0 1 25 []) (hQ : HQJ p l e R s m args below meth c cX16_task D cA A n0 s0 QM dm ra jx rm Q) (hX : HX p l e R s m args below meth c 5 D cA A n0 s0 QM dm ra jx rm X) : ∀ (σ : Sg) (v1 : Int) (g1 : rng v1), w_X16_task_135 ra jx rm Q X σ v1 → RG σ → Shp dm ra jx rm σ → JJ p l e R s m args below meth c 5 D cA A n0 s0 QM σ 135 [(0, .ref rm), (1, .int (i32 v1))] [] := by
  intro σ v1 g1 h hGσ hS H locs ls hH hl hc
  have B := K.1
  unfold w_X16_task_135 at h
  refine lv_aload_n B.1 B.2.1 dX16_task_135 rfl (lv_at hl 0 rfl) ?_
  refine r_arr B hH hS 39 (kd := 100) (n := 64) (by decide) (by decide) wf_X16_396 rfl rfl dX16_task_136 ?_
  refine lv_iload_n B.1 B.2.1 dX16_task_139 rfl (lv_at hl 1 rfl) ?_
  obtain ⟨q1, h⟩ := h
  refine x_iald B K.2.1 hH (hS.ar (k := 39) (kd := 100) (n := 64) (by decide)) (by decide) q1 dX16_task_140 ?_
  refine lv_i2l B.1 B.2.1 dX16_task_141 (i32_i64 (hGσ _ _)) ?_
  exact hQ _ _ _ _ _ _ dX16_task_142 hH hc h hGσ hS
set_option maxRecDepth 20000 in
theorem a_X16_task_143 {Q : Sg → Int64 → Prop} {X : Sg → String → Prop} (K : MC R p s m args c cX16_task 5 RX16 D cA tys A n0 s0 1 25 []) (hQ : HQJ p l e R s m args below meth c cX16_task D cA A n0 s0 QM dm ra jx rm Q) (hX : HX p l e R s m args below meth c 5 D cA A n0 s0 QM dm ra jx rm X) : ∀ (σ : Sg) (v1 : Int) (g1 : rng v1), w_X16_task_143 ra jx rm Q X σ v1 → RG σ → Shp dm ra jx rm σ → JJ p l e R s m args below meth c 5 D cA A n0 s0 QM σ 143 [(0, .ref rm), (1, .int (i32 v1))] [] := by
  intro σ v1 g1 h hGσ hS H locs ls hH hl hc
  have B := K.1
  unfold w_X16_task_143 at h
  refine lv_aload_n B.1 B.2.1 dX16_task_143 rfl (lv_at hl 0 rfl) ?_
  refine r_arr B hH hS 40 (kd := 101) (n := 64) (by decide) (by decide) wf_X16_414 rfl rfl dX16_task_144 ?_
  refine lv_iload_n B.1 B.2.1 dX16_task_147 rfl (lv_at hl 1 rfl) ?_
  obtain ⟨q1, h⟩ := h
  refine x_lald B K.2.1 hH (hS.ar (k := 40) (kd := 101) (n := 64) (by decide)) (by decide) q1 dX16_task_148 ?_
  exact hQ _ _ _ _ _ _ dX16_task_149 hH hc h hGσ hS
set_option maxRecDepth 20000 in
theorem a_X16_task_150 {Q : Sg → Int64 → Prop} {X : Sg → String → Prop} (K : MC R p s m args c cX16_task 5 RX16 D cA tys A n0 s0 1 25 []) (hQ : HQJ p l e R s m args below meth c cX16_task D cA A n0 s0 QM dm ra jx rm Q) (hX : HX p l e R s m args below meth c 5 D cA A n0 s0 QM dm ra jx rm X) : ∀ (σ : Sg) (v1 : Int) (g1 : rng v1), w_X16_task_150 ra jx rm Q X σ v1 → RG σ → Shp dm ra jx rm σ → JJ p l e R s m args below meth c 5 D cA A n0 s0 QM σ 150 [(0, .ref rm), (1, .int (i32 v1))] [] := by
  intro σ v1 g1 h hGσ hS H locs ls hH hl hc
  have B := K.1
  unfold w_X16_task_150 at h
  refine lv_aload_n B.1 B.2.1 dX16_task_150 rfl (lv_at hl 0 rfl) ?_
  refine r_arr B hH hS 48 (kd := 100) (n := 64) (by decide) (by decide) wf_X16_441 rfl rfl dX16_task_151 ?_
  refine lv_iload_n B.1 B.2.1 dX16_task_154 rfl (lv_at hl 1 rfl) ?_
  obtain ⟨q1, h⟩ := h
  refine x_iald B K.2.1 hH (hS.ar (k := 48) (kd := 100) (n := 64) (by decide)) (by decide) q1 dX16_task_155 ?_
  refine lv_i2l B.1 B.2.1 dX16_task_156 (i32_i64 (hGσ _ _)) ?_
  exact hQ _ _ _ _ _ _ dX16_task_157 hH hc h hGσ hS
set_option maxRecDepth 20000 in
theorem a_X16_task_188 {Q : Sg → Int64 → Prop} {X : Sg → String → Prop} (K : MC R p s m args c cX16_task 5 RX16 D cA tys A n0 s0 1 25 []) (hQ : HQJ p l e R s m args below meth c cX16_task D cA A n0 s0 QM dm ra jx rm Q) (hX : HX p l e R s m args below meth c 5 D cA A n0 s0 QM dm ra jx rm X) : ∀ (σ : Sg) (u0 : Int64), w_X16_task_188 ra jx rm Q X σ u0 → RG σ → Shp dm ra jx rm σ → JJ p l e R s m args below meth c 5 D cA A n0 s0 QM σ 188 [(0, .ref rm)] [.long u0] := by
  intro σ u0 h hGσ hS H locs ls hH hl hc
  have B := K.1
  unfold w_X16_task_188 at h
  exact hQ _ _ _ _ _ _ dX16_task_188 hH hc h hGσ hS
set_option maxRecDepth 20000 in
theorem a_X16_task_181 {Q : Sg → Int64 → Prop} {X : Sg → String → Prop} (K : MC R p s m args c cX16_task 5 RX16 D cA tys A n0 s0 1 25 []) (hQ : HQJ p l e R s m args below meth c cX16_task D cA A n0 s0 QM dm ra jx rm Q) (hX : HX p l e R s m args below meth c 5 D cA A n0 s0 QM dm ra jx rm X) : ∀ (σ : Sg) (v1 : Int) (g1 : rng v1), w_X16_task_181 ra jx rm Q X σ v1 → RG σ → Shp dm ra jx rm σ → JJ p l e R s m args below meth c 5 D cA A n0 s0 QM σ 181 [(0, .ref rm), (1, .int (i32 v1))] [] := by
  intro σ v1 g1 h hGσ hS H locs ls hH hl hc
  have B := K.1
  unfold w_X16_task_181 at h
  refine lv_aload_n B.1 B.2.1 dX16_task_181 rfl (lv_at hl 0 rfl) ?_
  refine r_arr B hH hS 78 (kd := 100) (n := 64) (by decide) (by decide) wf_X16_510 rfl rfl dX16_task_182 ?_
  refine lv_iload_n B.1 B.2.1 dX16_task_185 rfl (lv_at hl 1 rfl) ?_
  obtain ⟨q1, h⟩ := h
  refine x_iald B K.2.1 hH (hS.ar (k := 78) (kd := 100) (n := 64) (by decide)) (by decide) q1 dX16_task_186 ?_
  refine lv_i2l B.1 B.2.1 dX16_task_187 (i32_i64 (hGσ _ _)) ?_
  exact a_X16_task_188 K hQ hX _ _ h hGσ hS _ _ _ hH (lv_sub (l' := [(0, .ref rm)]) hl [0] rfl) hc
set_option maxRecDepth 20000 in
theorem a_X16_task_165 {Q : Sg → Int64 → Prop} {X : Sg → String → Prop} (K : MC R p s m args c cX16_task 5 RX16 D cA tys A n0 s0 1 25 []) (hQ : HQJ p l e R s m args below meth c cX16_task D cA A n0 s0 QM dm ra jx rm Q) (hX : HX p l e R s m args below meth c 5 D cA A n0 s0 QM dm ra jx rm X) : ∀ (σ : Sg) (v3 : Int) (g3 : rng v3), w_X16_task_165 ra jx rm Q X σ v3 → RG σ → Shp dm ra jx rm σ → JJ p l e R s m args below meth c 5 D cA A n0 s0 QM σ 165 [(0, .ref rm), (3, .int (i32 v3))] [] := by
  intro σ v3 g3 h hGσ hS H locs ls hH hl hc
  have B := K.1
  unfold w_X16_task_165 at h
  refine lv_aload_n B.1 B.2.1 dX16_task_165 rfl (lv_at hl 0 rfl) ?_
  refine r_arr B hH hS 89 (kd := 100) (n := 12) (by decide) (by decide) wf_X16_667 rfl rfl dX16_task_166 ?_
  refine lv_iconst (v := i32 3) B.1 B.2.1 dX16_task_169 (by decide) ?_
  refine lv_aload_n B.1 B.2.1 dX16_task_170 rfl (lv_at hl 0 rfl) ?_
  refine lv_iload_n B.1 B.2.1 dX16_task_171 rfl (lv_at hl 1 rfl) ?_
  refine c_V B hH hl hc K.2.2.1 (C := RX16) (T := TX16) (N := 123) (ci := 16) (As := [.int (i32 v3)]) (ok_X16_outputOf K.2.1 σ v3 g3 hGσ hS h) wc_X16_571 1 hd_X16_outputOf ⟨Nat.le_trans (Nat.le_of_ble_eq_true rfl) K.2.2.2.1, Nat.le_trans (Nat.le_of_ble_eq_true rfl) K.2.2.2.2.1⟩ hS.1.1 hS.1.2 (by decide) rfl rfl (rest := [.int (i32 3), .ref (ra 89)]) rfl (Nat.le_of_ble_eq_true rfl) dX16_task_172 (fun σ17 w hq => ?_) (fun σ9 E9 hx9 => hX σ9 E9 _ _ _ (tb_out K.2.2.2.2.2 rfl) hx9.1 hx9.2.1 hx9.2.2)
  obtain ⟨r18, rfl, gr18, h, hGσ17, hS⟩ := hq
  intro H locs ls hH hl hc
  refine W.eq (g2 := F0 m 175 ls [.int (i32 r18), .int (i32 3), .ref (ra 89)]) (rfl) ?_
  try dsimp only at h
  obtain ⟨q1, h⟩ := h
  refine lv_imul B.1 B.2.1 dX16_task_175 ?_
  rw [i32_mul]
  obtain ⟨q2, h⟩ := h
  refine x_iald B K.2.1 hH (hS.ar (k := 89) (kd := 100) (n := 12) (by decide)) (by decide) q2 dX16_task_176 ?_
  refine lv_i2l B.1 B.2.1 dX16_task_177 (i32_i64 (hGσ17 _ _)) ?_
  refine lv_goto (tgt := 188) B.1 B.2.1 dX16_task_178 (by decide) ?_
  exact a_X16_task_188 K hQ hX _ _ h hGσ17 hS _ _ _ hH (lv_sub (l' := [(0, .ref rm)]) hl [0] rfl) hc
set_option maxRecDepth 20000 in
theorem a_X16_task_158 {Q : Sg → Int64 → Prop} {X : Sg → String → Prop} (K : MC R p s m args c cX16_task 5 RX16 D cA tys A n0 s0 1 25 []) (hQ : HQJ p l e R s m args below meth c cX16_task D cA A n0 s0 QM dm ra jx rm Q) (hX : HX p l e R s m args below meth c 5 D cA A n0 s0 QM dm ra jx rm X) : ∀ (σ : Sg) (v1 : Int) (v3 : Int) (v4 : Int) (g1 : rng v1) (g3 : rng v3) (g4 : rng v4), w_X16_task_158 ra jx rm Q X σ v1 v3 v4 → RG σ → Shp dm ra jx rm σ → JJ p l e R s m args below meth c 5 D cA A n0 s0 QM σ 158 [(0, .ref rm), (1, .int (i32 v1)), (3, .int (i32 v3)), (4, .int (i32 v4))] [] := by
  intro σ v1 v3 v4 g1 g3 g4 h hGσ hS H locs ls hH hl hc
  have B := K.1
  unfold w_X16_task_158 at h
  refine lv_iload B.1 B.2.1 dX16_task_158 (lv_at hl 3 rfl) ?_
  refine lv_bipush (v := i32 11) B.1 B.2.1 dX16_task_160 (by decide) ?_
  refine lv_icmp_ne (tgt := 181) B.1 B.2.1 dX16_task_162 (by decide) (fun h9 => ?_) (fun h9 => ?_)
  · rw [if_pos (fun q => h9 ((i32_eq g4 (by unfold rng; omega)).mpr q))] at h
    exact a_X16_task_181 K hQ hX _ _ g1 h hGσ hS _ _ _ hH (lv_sub (l' := [(0, .ref rm), (1, .int (i32 v1))]) hl [0, 1] rfl) hc
  · rw [if_neg (fun q => q ((i32_eq g4 (by unfold rng; omega)).mp h9))] at h
    exact a_X16_task_165 K hQ hX _ _ g3 h hGσ hS _ _ _ hH (lv_sub (l' := [(0, .ref rm), (3, .int (i32 v3))]) hl [0, 2] rfl) hc
set_option maxRecDepth 20000 in
theorem a_X16_task_189 {Q : Sg → Int64 → Prop} {X : Sg → String → Prop} (K : MC R p s m args c cX16_task 5 RX16 D cA tys A n0 s0 1 25 []) (hQ : HQJ p l e R s m args below meth c cX16_task D cA A n0 s0 QM dm ra jx rm Q) (hX : HX p l e R s m args below meth c 5 D cA A n0 s0 QM dm ra jx rm X) : ∀ (σ : Sg) (v1 : Int) (g1 : rng v1), w_X16_task_189 ra jx rm Q X σ v1 → RG σ → Shp dm ra jx rm σ → JJ p l e R s m args below meth c 5 D cA A n0 s0 QM σ 189 [(0, .ref rm), (1, .int (i32 v1))] [] := by
  intro σ v1 g1 h hGσ hS H locs ls hH hl hc
  have B := K.1
  unfold w_X16_task_189 at h
  refine lv_aload_n B.1 B.2.1 dX16_task_189 rfl (lv_at hl 0 rfl) ?_
  refine r_arr B hH hS 41 (kd := 100) (n := 64) (by decide) (by decide) wf_X16_419 rfl rfl dX16_task_190 ?_
  refine lv_iload_n B.1 B.2.1 dX16_task_193 rfl (lv_at hl 1 rfl) ?_
  obtain ⟨q1, h⟩ := h
  refine x_iald B K.2.1 hH (hS.ar (k := 41) (kd := 100) (n := 64) (by decide)) (by decide) q1 dX16_task_194 ?_
  refine lv_i2l B.1 B.2.1 dX16_task_195 (i32_i64 (hGσ _ _)) ?_
  exact hQ _ _ _ _ _ _ dX16_task_196 hH hc h hGσ hS
set_option maxRecDepth 20000 in
theorem a_X16_task_197 {Q : Sg → Int64 → Prop} {X : Sg → String → Prop} (K : MC R p s m args c cX16_task 5 RX16 D cA tys A n0 s0 1 25 []) (hQ : HQJ p l e R s m args below meth c cX16_task D cA A n0 s0 QM dm ra jx rm Q) (hX : HX p l e R s m args below meth c 5 D cA A n0 s0 QM dm ra jx rm X) : ∀ (σ : Sg) (v1 : Int) (g1 : rng v1), w_X16_task_197 ra jx rm Q X σ v1 → RG σ → Shp dm ra jx rm σ → JJ p l e R s m args below meth c 5 D cA A n0 s0 QM σ 197 [(0, .ref rm), (1, .int (i32 v1))] [] := by
  intro σ v1 g1 h hGσ hS H locs ls hH hl hc
  have B := K.1
  unfold w_X16_task_197 at h
  refine lv_aload_n B.1 B.2.1 dX16_task_197 rfl (lv_at hl 0 rfl) ?_
  refine r_arr B hH hS 42 (kd := 100) (n := 64) (by decide) (by decide) wf_X16_422 rfl rfl dX16_task_198 ?_
  refine lv_iload_n B.1 B.2.1 dX16_task_201 rfl (lv_at hl 1 rfl) ?_
  obtain ⟨q1, h⟩ := h
  refine x_iald B K.2.1 hH (hS.ar (k := 42) (kd := 100) (n := 64) (by decide)) (by decide) q1 dX16_task_202 ?_
  refine lv_i2l B.1 B.2.1 dX16_task_203 (i32_i64 (hGσ _ _)) ?_
  exact hQ _ _ _ _ _ _ dX16_task_204 hH hc h hGσ hS
set_option maxRecDepth 20000 in
theorem a_X16_task_223 {Q : Sg → Int64 → Prop} {X : Sg → String → Prop} (K : MC R p s m args c cX16_task 5 RX16 D cA tys A n0 s0 1 25 []) (hQ : HQJ p l e R s m args below meth c cX16_task D cA A n0 s0 QM dm ra jx rm Q) (hX : HX p l e R s m args below meth c 5 D cA A n0 s0 QM dm ra jx rm X) : ∀ (σ : Sg) (u0 : Int64), w_X16_task_223 ra jx rm Q X σ u0 → RG σ → Shp dm ra jx rm σ → JJ p l e R s m args below meth c 5 D cA A n0 s0 QM σ 223 [(0, .ref rm)] [.long u0] := by
  intro σ u0 h hGσ hS H locs ls hH hl hc
  have B := K.1
  unfold w_X16_task_223 at h
  exact hQ _ _ _ _ _ _ dX16_task_223 hH hc h hGσ hS
set_option maxRecDepth 20000 in
theorem a_X16_task_220 {Q : Sg → Int64 → Prop} {X : Sg → String → Prop} (K : MC R p s m args c cX16_task 5 RX16 D cA tys A n0 s0 1 25 []) (hQ : HQJ p l e R s m args below meth c cX16_task D cA A n0 s0 QM dm ra jx rm Q) (hX : HX p l e R s m args below meth c 5 D cA A n0 s0 QM dm ra jx rm X) : ∀ (σ : Sg), w_X16_task_220 ra jx rm Q X σ → RG σ → Shp dm ra jx rm σ → JJ p l e R s m args below meth c 5 D cA A n0 s0 QM σ 220 [(0, .ref rm)] [] := by
  intro σ h hGσ hS H locs ls hH hl hc
  have B := K.1
  unfold w_X16_task_220 at h
  refine lv_ldc2 B.1 B.2.1 B.2.2.1 (B.2.2.2.1 _ (wk_X16_417)) dX16_task_220 ?_
  exact a_X16_task_223 K hQ hX _ _ h hGσ hS _ _ _ hH (lv_sub (l' := [(0, .ref rm)]) hl [0] rfl) hc
set_option maxRecDepth 20000 in
theorem a_X16_task_210 {Q : Sg → Int64 → Prop} {X : Sg → String → Prop} (K : MC R p s m args c cX16_task 5 RX16 D cA tys A n0 s0 1 25 []) (hQ : HQJ p l e R s m args below meth c cX16_task D cA A n0 s0 QM dm ra jx rm Q) (hX : HX p l e R s m args below meth c 5 D cA A n0 s0 QM dm ra jx rm X) : ∀ (σ : Sg) (v1 : Int) (g1 : rng v1), w_X16_task_210 ra jx rm Q X σ v1 → RG σ → Shp dm ra jx rm σ → JJ p l e R s m args below meth c 5 D cA A n0 s0 QM σ 210 [(0, .ref rm), (1, .int (i32 v1))] [] := by
  intro σ v1 g1 h hGσ hS H locs ls hH hl hc
  have B := K.1
  unfold w_X16_task_210 at h
  refine lv_aload_n B.1 B.2.1 dX16_task_210 rfl (lv_at hl 0 rfl) ?_
  refine r_arr B hH hS 43 (kd := 100) (n := 64) (by decide) (by decide) wf_X16_425 rfl rfl dX16_task_211 ?_
  refine lv_iload_n B.1 B.2.1 dX16_task_214 rfl (lv_at hl 1 rfl) ?_
  obtain ⟨q1, h⟩ := h
  refine x_iald B K.2.1 hH (hS.ar (k := 43) (kd := 100) (n := 64) (by decide)) (by decide) q1 dX16_task_215 ?_
  refine lv_i2l B.1 B.2.1 dX16_task_216 (i32_i64 (hGσ _ _)) ?_
  refine lv_goto (tgt := 223) B.1 B.2.1 dX16_task_217 (by decide) ?_
  exact a_X16_task_223 K hQ hX _ _ h hGσ hS _ _ _ hH (lv_sub (l' := [(0, .ref rm)]) hl [0] rfl) hc
set_option maxRecDepth 20000 in
theorem a_X16_task_205 {Q : Sg → Int64 → Prop} {X : Sg → String → Prop} (K : MC R p s m args c cX16_task 5 RX16 D cA tys A n0 s0 1 25 []) (hQ : HQJ p l e R s m args below meth c cX16_task D cA A n0 s0 QM dm ra jx rm Q) (hX : HX p l e R s m args below meth c 5 D cA A n0 s0 QM dm ra jx rm X) : ∀ (σ : Sg) (v1 : Int) (v4 : Int) (g1 : rng v1) (g4 : rng v4), w_X16_task_205 ra jx rm Q X σ v1 v4 → RG σ → Shp dm ra jx rm σ → JJ p l e R s m args below meth c 5 D cA A n0 s0 QM σ 205 [(0, .ref rm), (1, .int (i32 v1)), (4, .int (i32 v4))] [] := by
  intro σ v1 v4 g1 g4 h hGσ hS H locs ls hH hl hc
  have B := K.1
  unfold w_X16_task_205 at h
  refine lv_iload B.1 B.2.1 dX16_task_205 (lv_at hl 2 rfl) ?_
  refine lv_if_ne (tgt := 220) B.1 B.2.1 dX16_task_207 (by decide) (fun h9 => ?_) (fun h9 => ?_)
  · rw [if_pos (fun q => h9 ((z_eq g4).mpr q))] at h
    exact a_X16_task_220 K hQ hX _ h hGσ hS _ _ _ hH (lv_sub (l' := [(0, .ref rm)]) hl [0] rfl) hc
  · rw [if_neg (fun q => q ((z_eq g4).mp h9))] at h
    exact a_X16_task_210 K hQ hX _ _ g1 h hGσ hS _ _ _ hH (lv_sub (l' := [(0, .ref rm), (1, .int (i32 v1))]) hl [0, 1] rfl) hc
set_option maxRecDepth 20000 in
theorem a_X16_task_245 {Q : Sg → Int64 → Prop} {X : Sg → String → Prop} (K : MC R p s m args c cX16_task 5 RX16 D cA tys A n0 s0 1 25 []) (hQ : HQJ p l e R s m args below meth c cX16_task D cA A n0 s0 QM dm ra jx rm Q) (hX : HX p l e R s m args below meth c 5 D cA A n0 s0 QM dm ra jx rm X) : ∀ (σ : Sg) (u0 : Int64), w_X16_task_245 ra jx rm Q X σ u0 → RG σ → Shp dm ra jx rm σ → JJ p l e R s m args below meth c 5 D cA A n0 s0 QM σ 245 [(0, .ref rm)] [.long u0] := by
  intro σ u0 h hGσ hS H locs ls hH hl hc
  have B := K.1
  unfold w_X16_task_245 at h
  exact hQ _ _ _ _ _ _ dX16_task_245 hH hc h hGσ hS
set_option maxRecDepth 20000 in
theorem a_X16_task_244 {Q : Sg → Int64 → Prop} {X : Sg → String → Prop} (K : MC R p s m args c cX16_task 5 RX16 D cA tys A n0 s0 1 25 []) (hQ : HQJ p l e R s m args below meth c cX16_task D cA A n0 s0 QM dm ra jx rm Q) (hX : HX p l e R s m args below meth c 5 D cA A n0 s0 QM dm ra jx rm X) : ∀ (σ : Sg), w_X16_task_244 ra jx rm Q X σ → RG σ → Shp dm ra jx rm σ → JJ p l e R s m args below meth c 5 D cA A n0 s0 QM σ 244 [(0, .ref rm)] [] := by
  intro σ h hGσ hS H locs ls hH hl hc
  have B := K.1
  unfold w_X16_task_244 at h
  refine lv_lconst (v := 0) B.1 B.2.1 dX16_task_244 (by decide) ?_
  exact a_X16_task_245 K hQ hX _ _ h hGσ hS _ _ _ hH (lv_sub (l' := [(0, .ref rm)]) hl [0] rfl) hc
set_option maxRecDepth 20000 in
theorem a_X16_task_240 {Q : Sg → Int64 → Prop} {X : Sg → String → Prop} (K : MC R p s m args c cX16_task 5 RX16 D cA tys A n0 s0 1 25 []) (hQ : HQJ p l e R s m args below meth c cX16_task D cA A n0 s0 QM dm ra jx rm Q) (hX : HX p l e R s m args below meth c 5 D cA A n0 s0 QM dm ra jx rm X) : ∀ (σ : Sg), w_X16_task_240 ra jx rm Q X σ → RG σ → Shp dm ra jx rm σ → JJ p l e R s m args below meth c 5 D cA A n0 s0 QM σ 240 [(0, .ref rm)] [] := by
  intro σ h hGσ hS H locs ls hH hl hc
  have B := K.1
  unfold w_X16_task_240 at h
  refine lv_lconst (v := 1) B.1 B.2.1 dX16_task_240 (by decide) ?_
  refine lv_goto (tgt := 245) B.1 B.2.1 dX16_task_241 (by decide) ?_
  exact a_X16_task_245 K hQ hX _ _ h hGσ hS _ _ _ hH (lv_sub (l' := [(0, .ref rm)]) hl [0] rfl) hc
set_option maxRecDepth 20000 in
theorem a_X16_task_231 {Q : Sg → Int64 → Prop} {X : Sg → String → Prop} (K : MC R p s m args c cX16_task 5 RX16 D cA tys A n0 s0 1 25 []) (hQ : HQJ p l e R s m args below meth c cX16_task D cA A n0 s0 QM dm ra jx rm Q) (hX : HX p l e R s m args below meth c 5 D cA A n0 s0 QM dm ra jx rm X) : ∀ (σ : Sg) (v1 : Int) (g1 : rng v1), w_X16_task_231 ra jx rm Q X σ v1 → RG σ → Shp dm ra jx rm σ → JJ p l e R s m args below meth c 5 D cA A n0 s0 QM σ 231 [(0, .ref rm), (1, .int (i32 v1))] [] := by
  intro σ v1 g1 h hGσ hS H locs ls hH hl hc
  have B := K.1
  unfold w_X16_task_231 at h
  refine lv_aload_n B.1 B.2.1 dX16_task_231 rfl (lv_at hl 0 rfl) ?_
  refine r_arr B hH hS 44 (kd := 103) (n := 64) (by decide) (by decide) wf_X16_428 rfl rfl dX16_task_232 ?_
  refine lv_iload_n B.1 B.2.1 dX16_task_235 rfl (lv_at hl 1 rfl) ?_
  obtain ⟨q1, h⟩ := h
  refine x_zald B K.2.1 hH (hS.ar (k := 44) (kd := 103) (n := 64) (by decide)) (by decide) q1 dX16_task_236 ?_
  refine lv_if_eq (tgt := 244) B.1 B.2.1 dX16_task_237 (by decide) (fun h9 => ?_) (fun h9 => ?_)
  · rw [if_pos ((z_eq (hGσ _ _)).mp h9)] at h
    exact a_X16_task_244 K hQ hX _ h hGσ hS _ _ _ hH (lv_sub (l' := [(0, .ref rm)]) hl [0] rfl) hc
  · rw [if_neg (fun q => h9 ((z_eq (hGσ _ _)).mpr q))] at h
    exact a_X16_task_240 K hQ hX _ h hGσ hS _ _ _ hH (lv_sub (l' := [(0, .ref rm)]) hl [0] rfl) hc
set_option maxRecDepth 20000 in
theorem a_X16_task_224 {Q : Sg → Int64 → Prop} {X : Sg → String → Prop} (K : MC R p s m args c cX16_task 5 RX16 D cA tys A n0 s0 1 25 []) (hQ : HQJ p l e R s m args below meth c cX16_task D cA A n0 s0 QM dm ra jx rm Q) (hX : HX p l e R s m args below meth c 5 D cA A n0 s0 QM dm ra jx rm X) : ∀ (σ : Sg) (v1 : Int) (g1 : rng v1), w_X16_task_224 ra jx rm Q X σ v1 → RG σ → Shp dm ra jx rm σ → JJ p l e R s m args below meth c 5 D cA A n0 s0 QM σ 224 [(0, .ref rm), (1, .int (i32 v1))] [] := by
  intro σ v1 g1 h hGσ hS H locs ls hH hl hc
  have B := K.1
  unfold w_X16_task_224 at h
  refine lv_aload_n B.1 B.2.1 dX16_task_224 rfl (lv_at hl 0 rfl) ?_
  refine r_geti B hH hS 93 (by decide) wf_X16_742 rfl rfl dX16_task_225 ?_
  refine lv_if_le (tgt := 244) B.1 B.2.1 dX16_task_228 (by decide) (fun h9 => ?_) (fun h9 => ?_)
  · rw [if_pos ((z_le (hGσ _ _)).mp h9)] at h
    exact a_X16_task_244 K hQ hX _ h hGσ hS _ _ _ hH (lv_sub (l' := [(0, .ref rm)]) hl [0] rfl) hc
  · rw [if_neg (fun q => h9 ((z_le (hGσ _ _)).mpr q))] at h
    exact a_X16_task_231 K hQ hX _ _ g1 h hGσ hS _ _ _ hH (lv_sub (l' := [(0, .ref rm), (1, .int (i32 v1))]) hl [0, 1] rfl) hc
set_option maxRecDepth 20000 in
theorem a_X16_task_68 {Q : Sg → Int64 → Prop} {X : Sg → String → Prop} (K : MC R p s m args c cX16_task 5 RX16 D cA tys A n0 s0 1 25 []) (hQ : HQJ p l e R s m args below meth c cX16_task D cA A n0 s0 QM dm ra jx rm Q) (hX : HX p l e R s m args below meth c 5 D cA A n0 s0 QM dm ra jx rm X) : ∀ (σ : Sg) (v1 : Int) (v2 : Int) (g1 : rng v1) (g2 : rng v2), w_X16_task_68 ra jx rm Q X σ v1 v2 → RG σ → Shp dm ra jx rm σ → JJ p l e R s m args below meth c 5 D cA A n0 s0 QM σ 68 [(0, .ref rm), (1, .int (i32 v1)), (2, .int (i32 v2))] [] := by
  intro σ v1 v2 g1 g2 h hGσ hS H locs ls hH hl hc
  have B := K.1
  unfold w_X16_task_68 at h
  refine lv_aload_n B.1 B.2.1 dX16_task_68 rfl (lv_at hl 0 rfl) ?_
  refine r_arr B hH hS 38 (kd := 100) (n := 64) (by decide) (by decide) wf_X16_380 rfl rfl dX16_task_69 ?_
  refine lv_iload_n B.1 B.2.1 dX16_task_72 rfl (lv_at hl 1 rfl) ?_
  obtain ⟨q1, h⟩ := h
  refine x_iald B K.2.1 hH (hS.ar (k := 38) (kd := 100) (n := 64) (by decide)) (by decide) q1 dX16_task_73 ?_
  refine lv_istore_n (lv' := [(3, .int (i32 (gI σ (ra 38) v1.toNat))), (0, .ref rm), (1, .int (i32 v1)), (2, .int (i32 v2))]) B.1 B.2.1 dX16_task_74 rfl hl (by decide) rfl (fun ls hl => ?_)
  refine lv_aload_n B.1 B.2.1 dX16_task_75 rfl (lv_at hl 1 rfl) ?_
  refine r_getp B hH hS 17 (by decide) wf_X16_356 rfl rfl dX16_task_76 ?_
  obtain ⟨a19, ea19, ja19, h⟩ := h
  refine W.eq (g2 := F0 m 79 ls [.ref a19]) (by rw [ea19]; rfl) ?_
  refine n_arr B hH hS ja19 2 (kd := 100) (n := 16) (by decide) (by decide) (List.mem_of_getElem? (i := 2) rfl) rfl dX16_task_79 ?_
  refine lv_iload_n B.1 B.2.1 dX16_task_82 rfl (lv_at hl 0 rfl) ?_
  obtain ⟨q3, h⟩ := h
  refine x_iald B K.2.1 hH (hS.ja ja19 (k := 2) (kd := 100) (n := 16) (by decide)) (by decide) q3 dX16_task_83 ?_
  refine lv_istore (lv' := [(4, .int (i32 (gI σ (jx a19 2) (gI σ (ra 38) v1.toNat).toNat))), (3, .int (i32 (gI σ (ra 38) v1.toNat))), (0, .ref rm), (1, .int (i32 v1)), (2, .int (i32 v2))]) B.1 B.2.1 dX16_task_84 hl (by decide) rfl (fun ls hl => ?_)
  refine lv_iload_n B.1 B.2.1 dX16_task_86 rfl (lv_at hl 4 rfl) ?_
  rcases Classical.em (v2 = 0) with e9 | e9
  · rw [if_pos e9] at h
    refine lv_tableIn (off := 45) (tgt := 132) B.1 B.2.1 dX16_task_87 (by rw [i32_toInt g2, e9]; decide) (by rw [i32_toInt g2, e9]; decide) (by rw [i32_toInt g2, e9]; rfl) (by decide) ?_
    exact a_X16_task_132 K hQ hX _ _ (hGσ _ _) h hGσ hS _ _ _ hH (lv_sub (l' := [(0, .ref rm), (3, .int (i32 (gI σ (ra 38) v1.toNat)))]) hl [2, 1] rfl) hc
  rw [if_neg e9] at h
  have k4 := e9
  rcases Classical.em (v2 = 1) with e9 | e9
  · rw [if_pos e9] at h
    refine lv_tableIn (off := 48) (tgt := 135) B.1 B.2.1 dX16_task_87 (by rw [i32_toInt g2, e9]; decide) (by rw [i32_toInt g2, e9]; decide) (by rw [i32_toInt g2, e9]; rfl) (by decide) ?_
    exact a_X16_task_135 K hQ hX _ _ g1 h hGσ hS _ _ _ hH (lv_sub (l' := [(0, .ref rm), (1, .int (i32 v1))]) hl [2, 3] rfl) hc
  rw [if_neg e9] at h
  have k5 := e9
  rcases Classical.em (v2 = 2) with e9 | e9
  · rw [if_pos e9] at h
    refine lv_tableIn (off := 56) (tgt := 143) B.1 B.2.1 dX16_task_87 (by rw [i32_toInt g2, e9]; decide) (by rw [i32_toInt g2, e9]; decide) (by rw [i32_toInt g2, e9]; rfl) (by decide) ?_
    exact a_X16_task_143 K hQ hX _ _ g1 h hGσ hS _ _ _ hH (lv_sub (l' := [(0, .ref rm), (1, .int (i32 v1))]) hl [2, 3] rfl) hc
  rw [if_neg e9] at h
  have k6 := e9
  rcases Classical.em (v2 = 3) with e9 | e9
  · rw [if_pos e9] at h
    refine lv_tableIn (off := 63) (tgt := 150) B.1 B.2.1 dX16_task_87 (by rw [i32_toInt g2, e9]; decide) (by rw [i32_toInt g2, e9]; decide) (by rw [i32_toInt g2, e9]; rfl) (by decide) ?_
    exact a_X16_task_150 K hQ hX _ _ g1 h hGσ hS _ _ _ hH (lv_sub (l' := [(0, .ref rm), (1, .int (i32 v1))]) hl [2, 3] rfl) hc
  rw [if_neg e9] at h
  have k7 := e9
  rcases Classical.em (v2 = 4) with e9 | e9
  · rw [if_pos e9] at h
    refine lv_tableIn (off := 71) (tgt := 158) B.1 B.2.1 dX16_task_87 (by rw [i32_toInt g2, e9]; decide) (by rw [i32_toInt g2, e9]; decide) (by rw [i32_toInt g2, e9]; rfl) (by decide) ?_
    exact a_X16_task_158 K hQ hX _ _ _ _ g1 (hGσ _ _) (hGσ _ _) h hGσ hS _ _ _ hH (lv_sub (l' := [(0, .ref rm), (1, .int (i32 v1)), (3, .int (i32 (gI σ (ra 38) v1.toNat))), (4, .int (i32 (gI σ (jx a19 2) (gI σ (ra 38) v1.toNat).toNat)))]) hl [2, 3, 1, 0] rfl) hc
  rw [if_neg e9] at h
  have k8 := e9
  rcases Classical.em (v2 = 5) with e9 | e9
  · rw [if_pos e9] at h
    refine lv_tableIn (off := 102) (tgt := 189) B.1 B.2.1 dX16_task_87 (by rw [i32_toInt g2, e9]; decide) (by rw [i32_toInt g2, e9]; decide) (by rw [i32_toInt g2, e9]; rfl) (by decide) ?_
    exact a_X16_task_189 K hQ hX _ _ g1 h hGσ hS _ _ _ hH (lv_sub (l' := [(0, .ref rm), (1, .int (i32 v1))]) hl [2, 3] rfl) hc
  rw [if_neg e9] at h
  have k9 := e9
  rcases Classical.em (v2 = 6) with e9 | e9
  · rw [if_pos e9] at h
    refine lv_tableIn (off := 110) (tgt := 197) B.1 B.2.1 dX16_task_87 (by rw [i32_toInt g2, e9]; decide) (by rw [i32_toInt g2, e9]; decide) (by rw [i32_toInt g2, e9]; rfl) (by decide) ?_
    exact a_X16_task_197 K hQ hX _ _ g1 h hGσ hS _ _ _ hH (lv_sub (l' := [(0, .ref rm), (1, .int (i32 v1))]) hl [2, 3] rfl) hc
  rw [if_neg e9] at h
  have k10 := e9
  rcases Classical.em (v2 = 7) with e9 | e9
  · rw [if_pos e9] at h
    refine lv_tableIn (off := 118) (tgt := 205) B.1 B.2.1 dX16_task_87 (by rw [i32_toInt g2, e9]; decide) (by rw [i32_toInt g2, e9]; decide) (by rw [i32_toInt g2, e9]; rfl) (by decide) ?_
    exact a_X16_task_205 K hQ hX _ _ _ g1 (hGσ _ _) h hGσ hS _ _ _ hH (lv_sub (l' := [(0, .ref rm), (1, .int (i32 v1)), (4, .int (i32 (gI σ (jx a19 2) (gI σ (ra 38) v1.toNat).toNat)))]) hl [2, 3, 0] rfl) hc
  rw [if_neg e9] at h
  have k11 := e9
  rcases (show (v2 < 0 ∨ 7 < v2) ∨ False by omega) with e9 | e9
  · refine lv_tableOut (tgt := 224) B.1 B.2.1 dX16_task_87 (by rw [i32_toInt g2]; exact e9) (by decide) ?_
    exact a_X16_task_224 K hQ hX _ _ g1 h hGσ hS _ _ _ hH (lv_sub (l' := [(0, .ref rm), (1, .int (i32 v1))]) hl [2, 3] rfl) hc
  exact e9.elim
set_option maxRecDepth 20000 in
theorem a_X16_task_66 {Q : Sg → Int64 → Prop} {X : Sg → String → Prop} (K : MC R p s m args c cX16_task 5 RX16 D cA tys A n0 s0 1 25 []) (hQ : HQJ p l e R s m args below meth c cX16_task D cA A n0 s0 QM dm ra jx rm Q) (hX : HX p l e R s m args below meth c 5 D cA A n0 s0 QM dm ra jx rm X) : ∀ (σ : Sg), w_X16_task_66 ra jx rm Q X σ → RG σ → Shp dm ra jx rm σ → JJ p l e R s m args below meth c 5 D cA A n0 s0 QM σ 66 [(0, .ref rm)] [] := by
  intro σ h hGσ hS H locs ls hH hl hc
  have B := K.1
  unfold w_X16_task_66 at h
  refine lv_lconst (v := 0) B.1 B.2.1 dX16_task_66 (by decide) ?_
  exact hQ _ _ _ _ _ _ dX16_task_67 hH hc h hGσ hS
set_option maxRecDepth 20000 in
theorem a_X16_task_56 {Q : Sg → Int64 → Prop} {X : Sg → String → Prop} (K : MC R p s m args c cX16_task 5 RX16 D cA tys A n0 s0 1 25 []) (hQ : HQJ p l e R s m args below meth c cX16_task D cA A n0 s0 QM dm ra jx rm Q) (hX : HX p l e R s m args below meth c 5 D cA A n0 s0 QM dm ra jx rm X) : ∀ (σ : Sg) (v1 : Int) (v2 : Int) (u0 : Int) (g1 : rng v1) (g2 : rng v2) (gu0 : rng u0), w_X16_task_56 ra jx rm Q X σ v1 v2 u0 → RG σ → Shp dm ra jx rm σ → JJ p l e R s m args below meth c 5 D cA A n0 s0 QM σ 56 [(0, .ref rm), (1, .int (i32 v1)), (2, .int (i32 v2))] [.int (i32 u0), .ref rm] := by
  intro σ v1 v2 u0 g1 g2 gu0 h hGσ hS H locs ls hH hl hc
  have B := K.1
  unfold w_X16_task_56 at h
  obtain ⟨σ20, eσ20⟩ : ∃ z, z = pI σ rm 0 u0 := ⟨_, rfl⟩
  have h := h σ20 eσ20
  refine r_puti B hH hS 0 (ty := .int) (by decide) wf_X16_1 rfl rfl rfl rfl rfl rfl dX16_task_56 (fun H locs hH => ?_)
  have hH : Hd D cA A s (pI σ rm 0 u0) H locs := hH
  rw [← eσ20] at hH
  have hGσ20 : RG σ20 := by rw [eσ20]; exact hGσ.pI gu0
  have hS : Shp dm ra jx rm σ20 := by rw [eσ20]; exact hS
  have hc : CB n0 s0 σ20 := by rw [eσ20]; exact hc
  rw [show gc σ = gc σ20 by rw [eσ20], show gs σ = gs σ20 by rw [eσ20]]
  refine lv_aload_n B.1 B.2.1 dX16_task_59 rfl (lv_at hl 0 rfl) ?_
  refine r_geti B hH hS 0 (by decide) wf_X16_1 rfl rfl dX16_task_60 ?_
  refine lv_if_le (tgt := 68) B.1 B.2.1 dX16_task_63 (by decide) (fun h9 => ?_) (fun h9 => ?_)
  · rw [if_pos ((z_le (hGσ20 _ _)).mp h9)] at h
    exact a_X16_task_68 K hQ hX _ _ _ g1 g2 h hGσ20 hS _ _ _ hH (lv_sub (l' := [(0, .ref rm), (1, .int (i32 v1)), (2, .int (i32 v2))]) hl [0, 1, 2] rfl) hc
  · rw [if_neg (fun q => h9 ((z_le (hGσ20 _ _)).mpr q))] at h
    exact a_X16_task_66 K hQ hX _ h hGσ20 hS _ _ _ hH (lv_sub (l' := [(0, .ref rm)]) hl [0] rfl) hc
set_option maxRecDepth 20000 in
theorem a_X16_task_35 {Q : Sg → Int64 → Prop} {X : Sg → String → Prop} (K : MC R p s m args c cX16_task 5 RX16 D cA tys A n0 s0 1 25 []) (hQ : HQJ p l e R s m args below meth c cX16_task D cA A n0 s0 QM dm ra jx rm Q) (hX : HX p l e R s m args below meth c 5 D cA A n0 s0 QM dm ra jx rm X) : ∀ (σ : Sg) (v1 : Int) (v2 : Int) (g1 : rng v1) (g2 : rng v2), w_X16_task_35 ra jx rm Q X σ v1 v2 → RG σ → Shp dm ra jx rm σ → JJ p l e R s m args below meth c 5 D cA A n0 s0 QM σ 35 [(0, .ref rm), (1, .int (i32 v1)), (2, .int (i32 v2))] [.ref rm] := by
  intro σ v1 v2 g1 g2 h hGσ hS H locs ls hH hl hc
  have B := K.1
  unfold w_X16_task_35 at h
  refine lv_iconst (v := i32 2) B.1 B.2.1 dX16_task_35 (by decide) ?_
  refine lv_goto (tgt := 56) B.1 B.2.1 dX16_task_36 (by decide) ?_
  exact a_X16_task_56 K hQ hX _ _ _ _ g1 g2 (by unfold rng; omega) h hGσ hS _ _ _ hH (lv_sub (l' := [(0, .ref rm), (1, .int (i32 v1)), (2, .int (i32 v2))]) hl [0, 1, 2] rfl) hc
set_option maxRecDepth 20000 in
theorem a_X16_task_55 {Q : Sg → Int64 → Prop} {X : Sg → String → Prop} (K : MC R p s m args c cX16_task 5 RX16 D cA tys A n0 s0 1 25 []) (hQ : HQJ p l e R s m args below meth c cX16_task D cA A n0 s0 QM dm ra jx rm Q) (hX : HX p l e R s m args below meth c 5 D cA A n0 s0 QM dm ra jx rm X) : ∀ (σ : Sg) (v1 : Int) (v2 : Int) (g1 : rng v1) (g2 : rng v2), w_X16_task_55 ra jx rm Q X σ v1 v2 → RG σ → Shp dm ra jx rm σ → JJ p l e R s m args below meth c 5 D cA A n0 s0 QM σ 55 [(0, .ref rm), (1, .int (i32 v1)), (2, .int (i32 v2))] [.ref rm] := by
  intro σ v1 v2 g1 g2 h hGσ hS H locs ls hH hl hc
  have B := K.1
  unfold w_X16_task_55 at h
  refine lv_iconst (v := i32 0) B.1 B.2.1 dX16_task_55 (by decide) ?_
  exact a_X16_task_56 K hQ hX _ _ _ _ g1 g2 (by unfold rng; omega) h hGσ hS _ _ _ hH (lv_sub (l' := [(0, .ref rm), (1, .int (i32 v1)), (2, .int (i32 v2))]) hl [0, 1, 2] rfl) hc
set_option maxRecDepth 20000 in
theorem a_X16_task_51 {Q : Sg → Int64 → Prop} {X : Sg → String → Prop} (K : MC R p s m args c cX16_task 5 RX16 D cA tys A n0 s0 1 25 []) (hQ : HQJ p l e R s m args below meth c cX16_task D cA A n0 s0 QM dm ra jx rm Q) (hX : HX p l e R s m args below meth c 5 D cA A n0 s0 QM dm ra jx rm X) : ∀ (σ : Sg) (v1 : Int) (v2 : Int) (g1 : rng v1) (g2 : rng v2), w_X16_task_51 ra jx rm Q X σ v1 v2 → RG σ → Shp dm ra jx rm σ → JJ p l e R s m args below meth c 5 D cA A n0 s0 QM σ 51 [(0, .ref rm), (1, .int (i32 v1)), (2, .int (i32 v2))] [.ref rm] := by
  intro σ v1 v2 g1 g2 h hGσ hS H locs ls hH hl hc
  have B := K.1
  unfold w_X16_task_51 at h
  refine lv_iconst (v := i32 3) B.1 B.2.1 dX16_task_51 (by decide) ?_
  refine lv_goto (tgt := 56) B.1 B.2.1 dX16_task_52 (by decide) ?_
  exact a_X16_task_56 K hQ hX _ _ _ _ g1 g2 (by unfold rng; omega) h hGσ hS _ _ _ hH (lv_sub (l' := [(0, .ref rm), (1, .int (i32 v1)), (2, .int (i32 v2))]) hl [0, 1, 2] rfl) hc
set_option maxRecDepth 20000 in
theorem a_X16_task_39 {Q : Sg → Int64 → Prop} {X : Sg → String → Prop} (K : MC R p s m args c cX16_task 5 RX16 D cA tys A n0 s0 1 25 []) (hQ : HQJ p l e R s m args below meth c cX16_task D cA A n0 s0 QM dm ra jx rm Q) (hX : HX p l e R s m args below meth c 5 D cA A n0 s0 QM dm ra jx rm X) : ∀ (σ : Sg) (v1 : Int) (v2 : Int) (g1 : rng v1) (g2 : rng v2), w_X16_task_39 ra jx rm Q X σ v1 v2 → RG σ → Shp dm ra jx rm σ → JJ p l e R s m args below meth c 5 D cA A n0 s0 QM σ 39 [(0, .ref rm), (1, .int (i32 v1)), (2, .int (i32 v2))] [.ref rm] := by
  intro σ v1 v2 g1 g2 h hGσ hS H locs ls hH hl hc
  have B := K.1
  unfold w_X16_task_39 at h
  refine lv_iload_n B.1 B.2.1 dX16_task_39 rfl (lv_at hl 2 rfl) ?_
  refine lv_i2l B.1 B.2.1 dX16_task_40 (i32_i64 g2) ?_
  refine lv_lconst (v := 0) B.1 B.2.1 dX16_task_41 (by decide) ?_
  refine lv_ldc2 B.1 B.2.1 B.2.2.1 (B.2.2.2.1 _ (wk_X16_250)) dX16_task_42 ?_
  refine c_S B hH hl hc K.2.2.1 (As := [.long (Int64.ofInt v2), .long 0, .long 8]) (ok_X16_within K.2.1 σ (Int64.ofInt v2) 0 8 hGσ hS h) wc_X16_45 3 hd_X16_within ⟨Nat.le_trans (Nat.le_of_ble_eq_true rfl) K.2.2.2.1, Nat.le_trans (Nat.le_of_ble_eq_true rfl) K.2.2.2.2.1⟩ rfl (rest := [.ref rm]) rfl (Nat.le_of_ble_eq_true rfl) dX16_task_45 (fun σ21 w hq => ?_) (fun σ9 E9 hx9 => hX σ9 E9 _ _ _ (tb_out K.2.2.2.2.2 rfl) hx9.1 hx9.2.1 hx9.2.2)
  obtain ⟨r22, rfl, ⟨gr22, gzr22⟩, h, hGσ21, hS⟩ := hq
  intro H locs ls hH hl hc
  refine W.eq (g2 := F0 m 48 ls [.int (i32 r22), .ref rm]) (rfl) ?_
  try dsimp only at h
  refine lv_if_ne (tgt := 55) B.1 B.2.1 dX16_task_48 (by decide) (fun h9 => ?_) (fun h9 => ?_)
  · rw [if_pos (fun q => h9 ((z_eq gr22).mpr q))] at h
    exact a_X16_task_55 K hQ hX _ _ _ g1 g2 h hGσ21 hS _ _ _ hH (lv_sub (l' := [(0, .ref rm), (1, .int (i32 v1)), (2, .int (i32 v2))]) hl [0, 1, 2] rfl) hc
  · rw [if_neg (fun q => q ((z_eq gr22).mp h9))] at h
    exact a_X16_task_51 K hQ hX _ _ _ g1 g2 h hGσ21 hS _ _ _ hH (lv_sub (l' := [(0, .ref rm), (1, .int (i32 v1)), (2, .int (i32 v2))]) hl [0, 1, 2] rfl) hc
set_option maxRecDepth 20000 in
theorem a_X16_task_28 {Q : Sg → Int64 → Prop} {X : Sg → String → Prop} (K : MC R p s m args c cX16_task 5 RX16 D cA tys A n0 s0 1 25 []) (hQ : HQJ p l e R s m args below meth c cX16_task D cA A n0 s0 QM dm ra jx rm Q) (hX : HX p l e R s m args below meth c 5 D cA A n0 s0 QM dm ra jx rm X) : ∀ (σ : Sg) (v1 : Int) (v2 : Int) (g1 : rng v1) (g2 : rng v2), w_X16_task_28 ra jx rm Q X σ v1 v2 → RG σ → Shp dm ra jx rm σ → JJ p l e R s m args below meth c 5 D cA A n0 s0 QM σ 28 [(0, .ref rm), (1, .int (i32 v1)), (2, .int (i32 v2))] [.ref rm] := by
  intro σ v1 v2 g1 g2 h hGσ hS H locs ls hH hl hc
  have B := K.1
  unfold w_X16_task_28 at h
  refine lv_aload_n B.1 B.2.1 dX16_task_28 rfl (lv_at hl 0 rfl) ?_
  refine r_geti B hH hS 31 (by decide) wf_X16_831 rfl rfl dX16_task_29 ?_
  refine lv_if_eq (tgt := 39) B.1 B.2.1 dX16_task_32 (by decide) (fun h9 => ?_) (fun h9 => ?_)
  · rw [if_pos ((z_eq (hGσ _ _)).mp h9)] at h
    exact a_X16_task_39 K hQ hX _ _ _ g1 g2 h hGσ hS _ _ _ hH (lv_sub (l' := [(0, .ref rm), (1, .int (i32 v1)), (2, .int (i32 v2))]) hl [0, 1, 2] rfl) hc
  · rw [if_neg (fun q => h9 ((z_eq (hGσ _ _)).mpr q))] at h
    exact a_X16_task_35 K hQ hX _ _ _ g1 g2 h hGσ hS _ _ _ hH (lv_sub (l' := [(0, .ref rm), (1, .int (i32 v1)), (2, .int (i32 v2))]) hl [0, 1, 2] rfl) hc
set_option maxRecDepth 20000 in
theorem a_X16_task_21 {Q : Sg → Int64 → Prop} {X : Sg → String → Prop} (K : MC R p s m args c cX16_task 5 RX16 D cA tys A n0 s0 1 25 []) (hQ : HQJ p l e R s m args below meth c cX16_task D cA A n0 s0 QM dm ra jx rm Q) (hX : HX p l e R s m args below meth c 5 D cA A n0 s0 QM dm ra jx rm X) : ∀ (σ : Sg) (v1 : Int) (v2 : Int) (g1 : rng v1) (g2 : rng v2), w_X16_task_21 ra jx rm Q X σ v1 v2 → RG σ → Shp dm ra jx rm σ → JJ p l e R s m args below meth c 5 D cA A n0 s0 QM σ 21 [(0, .ref rm), (1, .int (i32 v1)), (2, .int (i32 v2))] [.ref rm] := by
  intro σ v1 v2 g1 g2 h hGσ hS H locs ls hH hl hc
  have B := K.1
  unfold w_X16_task_21 at h
  refine lv_aload_n B.1 B.2.1 dX16_task_21 rfl (lv_at hl 0 rfl) ?_
  refine r_geti B hH hS 32 (by decide) wf_X16_688 rfl rfl dX16_task_22 ?_
  refine lv_if_ne (tgt := 35) B.1 B.2.1 dX16_task_25 (by decide) (fun h9 => ?_) (fun h9 => ?_)
  · rw [if_pos (fun q => h9 ((z_eq (hGσ _ _)).mpr q))] at h
    exact a_X16_task_35 K hQ hX _ _ _ g1 g2 h hGσ hS _ _ _ hH (lv_sub (l' := [(0, .ref rm), (1, .int (i32 v1)), (2, .int (i32 v2))]) hl [0, 1, 2] rfl) hc
  · rw [if_neg (fun q => q ((z_eq (hGσ _ _)).mp h9))] at h
    exact a_X16_task_28 K hQ hX _ _ _ g1 g2 h hGσ hS _ _ _ hH (lv_sub (l' := [(0, .ref rm), (1, .int (i32 v1)), (2, .int (i32 v2))]) hl [0, 1, 2] rfl) hc
set_option maxRecDepth 20000 in
theorem a_X16_task_17 {Q : Sg → Int64 → Prop} {X : Sg → String → Prop} (K : MC R p s m args c cX16_task 5 RX16 D cA tys A n0 s0 1 25 []) (hQ : HQJ p l e R s m args below meth c cX16_task D cA A n0 s0 QM dm ra jx rm Q) (hX : HX p l e R s m args below meth c 5 D cA A n0 s0 QM dm ra jx rm X) : ∀ (σ : Sg) (v1 : Int) (v2 : Int) (g1 : rng v1) (g2 : rng v2), w_X16_task_17 ra jx rm Q X σ v1 v2 → RG σ → Shp dm ra jx rm σ → JJ p l e R s m args below meth c 5 D cA A n0 s0 QM σ 17 [(0, .ref rm), (1, .int (i32 v1)), (2, .int (i32 v2))] [.ref rm] := by
  intro σ v1 v2 g1 g2 h hGσ hS H locs ls hH hl hc
  have B := K.1
  unfold w_X16_task_17 at h
  refine lv_iconst (v := i32 1) B.1 B.2.1 dX16_task_17 (by decide) ?_
  refine lv_goto (tgt := 56) B.1 B.2.1 dX16_task_18 (by decide) ?_
  exact a_X16_task_56 K hQ hX _ _ _ _ g1 g2 (by unfold rng; omega) h hGσ hS _ _ _ hH (lv_sub (l' := [(0, .ref rm), (1, .int (i32 v1)), (2, .int (i32 v2))]) hl [0, 1, 2] rfl) hc
set_option maxRecDepth 20000 in
theorem a_X16_task_0 {Q : Sg → Int64 → Prop} {X : Sg → String → Prop} (K : MC R p s m args c cX16_task 5 RX16 D cA tys A n0 s0 1 25 []) (hQ : HQJ p l e R s m args below meth c cX16_task D cA A n0 s0 QM dm ra jx rm Q) (hX : HX p l e R s m args below meth c 5 D cA A n0 s0 QM dm ra jx rm X) : ∀ (σ : Sg) (v1 : Int) (v2 : Int) (g1 : rng v1) (g2 : rng v2), w_X16_task_0 ra jx rm Q X σ v1 v2 → RG σ → Shp dm ra jx rm σ → JJ p l e R s m args below meth c 5 D cA A n0 s0 QM σ 0 [(0, .ref rm), (1, .int (i32 v1)), (2, .int (i32 v2))] [] := by
  intro σ v1 v2 g1 g2 h hGσ hS H locs ls hH hl hc
  have B := K.1
  unfold w_X16_task_0 at h
  refine lv_aload_n B.1 B.2.1 dX16_task_0 rfl (lv_at hl 0 rfl) ?_
  refine lv_iload_n B.1 B.2.1 dX16_task_1 rfl (lv_at hl 1 rfl) ?_
  refine lv_i2l B.1 B.2.1 dX16_task_2 (i32_i64 g1) ?_
  refine lv_lconst (v := 0) B.1 B.2.1 dX16_task_3 (by decide) ?_
  refine lv_aload_n B.1 B.2.1 dX16_task_4 rfl (lv_at hl 0 rfl) ?_
  refine r_geti B hH hS 36 (by decide) wf_X16_399 rfl rfl dX16_task_5 ?_
  refine lv_iconst (v := i32 1) B.1 B.2.1 dX16_task_8 (by decide) ?_
  obtain ⟨q1, h⟩ := h
  refine lv_isub B.1 B.2.1 dX16_task_9 ?_
  rw [i32_sub]
  refine lv_i2l B.1 B.2.1 dX16_task_10 (i32_i64 q1) ?_
  refine c_S B hH hl hc K.2.2.1 (As := [.long (Int64.ofInt v1), .long 0, .long (Int64.ofInt (gI σ rm 36 - 1))]) (ok_X16_within K.2.1 σ (Int64.ofInt v1) 0 (Int64.ofInt (gI σ rm 36 - 1)) hGσ hS h) wc_X16_45 3 hd_X16_within ⟨Nat.le_trans (Nat.le_of_ble_eq_true rfl) K.2.2.2.1, Nat.le_trans (Nat.le_of_ble_eq_true rfl) K.2.2.2.2.1⟩ rfl (rest := [.ref rm]) rfl (Nat.le_of_ble_eq_true rfl) dX16_task_11 (fun σ23 w hq => ?_) (fun σ9 E9 hx9 => hX σ9 E9 _ _ _ (tb_out K.2.2.2.2.2 rfl) hx9.1 hx9.2.1 hx9.2.2)
  obtain ⟨r24, rfl, ⟨gr24, gzr24⟩, h, hGσ23, hS⟩ := hq
  intro H locs ls hH hl hc
  refine W.eq (g2 := F0 m 14 ls [.int (i32 r24), .ref rm]) (rfl) ?_
  try dsimp only at h
  refine lv_if_ne (tgt := 21) B.1 B.2.1 dX16_task_14 (by decide) (fun h9 => ?_) (fun h9 => ?_)
  · rw [if_pos (fun q => h9 ((z_eq gr24).mpr q))] at h
    exact a_X16_task_21 K hQ hX _ _ _ g1 g2 h hGσ23 hS _ _ _ hH (lv_sub (l' := [(0, .ref rm), (1, .int (i32 v1)), (2, .int (i32 v2))]) hl [0, 1, 2] rfl) hc
  · rw [if_neg (fun q => q ((z_eq gr24).mp h9))] at h
    exact a_X16_task_17 K hQ hX _ _ _ g1 g2 h hGσ23 hS _ _ _ hH (lv_sub (l' := [(0, .ref rm), (1, .int (i32 v1)), (2, .int (i32 v2))]) hl [0, 1, 2] rfl) hc
theorem ok_X16_task (hT : Tys cA tys) {Q : Sg → Int64 → Prop} {X : Sg → String → Prop} (σ : Sg) (v1 : Int) (v2 : Int) (g1 : rng v1) (g2 : rng v2) (hG : RG σ) (hS : Shp dm ra jx rm σ) (h : wp_X16_task ra jx rm v1 v2 σ Q X) : Ok l D cA tys A yX16_task (.code yX16_task cX16_task 5 (some .long)) 1 25 [.ref rm, .int (i32 v1), .int (i32 v2)] σ (QnJ dm ra jx rm Q) (QxR dm ra jx rm X) := by
  unfold wp_X16_task at h
  exact ok_J (plainFor_of_name (by decide)) (by exact Nat.le_of_ble_eq_true rfl) hT (fun p e R s m args below meth c K hQ hX H locs ls hH hl hc => a_X16_task_0 K hQ hX σ v1 v2 g1 g2 h hG hS H locs ls hH (lv_sub (l' := [(0, .ref rm), (1, .int (i32 v1)), (2, .int (i32 v2))]) hl [0, 1, 2] rfl) hc)
theorem dX16_thrown_0 : decode cX16_thrown 0 = .ok (.aload_n 0, 1) := by decide +kernel
theorem dX16_thrown_1 : decode cX16_thrown 1 = .ok (.getfield 1, 3) := by decide +kernel
theorem dX16_thrown_4 : decode cX16_thrown 4 = .ok (.ireturn, 1) := by decide +kernel
set_option maxRecDepth 20000 in
theorem a_X16_thrown_0 {Q : Sg → Int → Prop} {X : Sg → String → Prop} (K : MC R p s m args c cX16_thrown 1 RX16 D cA tys A n0 s0 0 0 []) (hQ : HQI p l e R s m args below meth c cX16_thrown D cA A n0 s0 QM dm ra jx rm Q) (hX : HX p l e R s m args below meth c 1 D cA A n0 s0 QM dm ra jx rm X) : ∀ (σ : Sg), w_X16_thrown_0 ra jx rm Q X σ → RG σ → Shp dm ra jx rm σ → JJ p l e R s m args below meth c 1 D cA A n0 s0 QM σ 0 [(0, .ref rm)] [] := by
  intro σ h hGσ hS H locs ls hH hl hc
  have B := K.1
  unfold w_X16_thrown_0 at h
  refine lv_aload_n B.1 B.2.1 dX16_thrown_0 rfl (lv_at hl 0 rfl) ?_
  refine r_geti B hH hS 0 (by decide) wf_X16_1 rfl rfl dX16_thrown_1 ?_
  exact hQ _ _ _ _ _ _ (hGσ _ _) dX16_thrown_4 hH hc h hGσ hS
theorem ok_X16_thrown (hT : Tys cA tys) {Q : Sg → Int → Prop} {X : Sg → String → Prop} (σ : Sg) (hG : RG σ) (hS : Shp dm ra jx rm σ) (h : wp_X16_thrown ra jx rm σ Q X) : Ok l D cA tys A yX16_thrown (.code yX16_thrown cX16_thrown 1 (some .int)) 0 0 [.ref rm] σ (QnI dm ra jx rm Q) (QxR dm ra jx rm X) := by
  unfold wp_X16_thrown at h
  exact ok_I (plainFor_of_name (by decide)) (by exact Nat.le_of_ble_eq_true rfl) hT (fun p e R s m args below meth c K hQ hX H locs ls hH hl hc => a_X16_thrown_0 K hQ hX σ h hG hS H locs ls hH (lv_sub (l' := [(0, .ref rm)]) hl [0] rfl) hc)
theorem dX16_told_0 : decode cX16_told 0 = .ok (.aload_n 0, 1) := by decide +kernel
theorem dX16_told_1 : decode cX16_told 1 = .ok (.iconst 0, 1) := by decide +kernel
theorem dX16_told_2 : decode cX16_told 2 = .ok (.putfield 1, 3) := by decide +kernel
theorem dX16_told_5 : decode cX16_told 5 = .ok (.iload_n 1, 1) := by decide +kernel
theorem dX16_told_6 : decode cX16_told 6 = .ok (.tableswitch 197 0 14 #[74, 93, 98, 103, 109, 115, 120, 125, 130, 143, 156, 162, 168, 173, 192], 74) := by decide +kernel
theorem dX16_told_80 : decode cX16_told 80 = .ok (.aload_n 0, 1) := by decide +kernel
theorem dX16_told_81 : decode cX16_told 81 = .ok (.getfield 356, 3) := by decide +kernel
theorem dX16_told_84 : decode cX16_told 84 = .ok (.ifnonnull 7, 3) := by decide +kernel
theorem dX16_told_87 : decode cX16_told 87 = .ok (.iconst 0, 1) := by decide +kernel
theorem dX16_told_88 : decode cX16_told 88 = .ok (.goto 10, 3) := by decide +kernel
theorem dX16_told_91 : decode cX16_told 91 = .ok (.aload_n 0, 1) := by decide +kernel
theorem dX16_told_92 : decode cX16_told 92 = .ok (.getfield 356, 3) := by decide +kernel
theorem dX16_told_95 : decode cX16_told 95 = .ok (.getfield 316, 3) := by decide +kernel
theorem dX16_told_98 : decode cX16_told 98 = .ok (.ireturn, 1) := by decide +kernel
theorem dX16_told_99 : decode cX16_told 99 = .ok (.aload_n 0, 1) := by decide +kernel
theorem dX16_told_100 : decode cX16_told 100 = .ok (.getfield 399, 3) := by decide +kernel
theorem dX16_told_103 : decode cX16_told 103 = .ok (.ireturn, 1) := by decide +kernel
theorem dX16_told_104 : decode cX16_told 104 = .ok (.aload_n 0, 1) := by decide +kernel
theorem dX16_told_105 : decode cX16_told 105 = .ok (.getfield 371, 3) := by decide +kernel
theorem dX16_told_108 : decode cX16_told 108 = .ok (.ireturn, 1) := by decide +kernel
theorem dX16_told_109 : decode cX16_told 109 = .ok (.aload_n 0, 1) := by decide +kernel
theorem dX16_told_110 : decode cX16_told 110 = .ok (.getfield 807, 3) := by decide +kernel
theorem dX16_told_113 : decode cX16_told 113 = .ok (.l2i, 1) := by decide +kernel
theorem dX16_told_114 : decode cX16_told 114 = .ok (.ireturn, 1) := by decide +kernel
theorem dX16_told_115 : decode cX16_told 115 = .ok (.aload_n 0, 1) := by decide +kernel
theorem dX16_told_116 : decode cX16_told 116 = .ok (.getfield 826, 3) := by decide +kernel
theorem dX16_told_119 : decode cX16_told 119 = .ok (.l2i, 1) := by decide +kernel
theorem dX16_told_120 : decode cX16_told 120 = .ok (.ireturn, 1) := by decide +kernel
theorem dX16_told_121 : decode cX16_told 121 = .ok (.aload_n 0, 1) := by decide +kernel
theorem dX16_told_122 : decode cX16_told 122 = .ok (.getfield 745, 3) := by decide +kernel
theorem dX16_told_125 : decode cX16_told 125 = .ok (.ireturn, 1) := by decide +kernel
theorem dX16_told_126 : decode cX16_told 126 = .ok (.aload_n 0, 1) := by decide +kernel
theorem dX16_told_127 : decode cX16_told 127 = .ok (.getfield 742, 3) := by decide +kernel
theorem dX16_told_130 : decode cX16_told 130 = .ok (.ireturn, 1) := by decide +kernel
theorem dX16_told_131 : decode cX16_told 131 = .ok (.aload_n 0, 1) := by decide +kernel
theorem dX16_told_132 : decode cX16_told 132 = .ok (.getfield 837, 3) := by decide +kernel
theorem dX16_told_135 : decode cX16_told 135 = .ok (.ireturn, 1) := by decide +kernel
theorem dX16_told_136 : decode cX16_told 136 = .ok (.aload_n 0, 1) := by decide +kernel
theorem dX16_told_137 : decode cX16_told 137 = .ok (.getfield 831, 3) := by decide +kernel
theorem dX16_told_140 : decode cX16_told 140 = .ok (.ifCond .eq 7, 3) := by decide +kernel
theorem dX16_told_143 : decode cX16_told 143 = .ok (.iconst 1, 1) := by decide +kernel
theorem dX16_told_144 : decode cX16_told 144 = .ok (.goto 4, 3) := by decide +kernel
theorem dX16_told_147 : decode cX16_told 147 = .ok (.iconst 0, 1) := by decide +kernel
theorem dX16_told_148 : decode cX16_told 148 = .ok (.ireturn, 1) := by decide +kernel
theorem dX16_told_149 : decode cX16_told 149 = .ok (.aload_n 0, 1) := by decide +kernel
theorem dX16_told_150 : decode cX16_told 150 = .ok (.getfield 688, 3) := by decide +kernel
theorem dX16_told_153 : decode cX16_told 153 = .ok (.ifCond .eq 7, 3) := by decide +kernel
theorem dX16_told_156 : decode cX16_told 156 = .ok (.iconst 1, 1) := by decide +kernel
theorem dX16_told_157 : decode cX16_told 157 = .ok (.goto 4, 3) := by decide +kernel
theorem dX16_told_160 : decode cX16_told 160 = .ok (.iconst 0, 1) := by decide +kernel
theorem dX16_told_161 : decode cX16_told 161 = .ok (.ireturn, 1) := by decide +kernel
theorem dX16_told_162 : decode cX16_told 162 = .ok (.aload_n 0, 1) := by decide +kernel
theorem dX16_told_163 : decode cX16_told 163 = .ok (.iconst 1, 1) := by decide +kernel
theorem dX16_told_164 : decode cX16_told 164 = .ok (.invokevirtual 1008, 3) := by decide +kernel
theorem dX16_told_167 : decode cX16_told 167 = .ok (.ireturn, 1) := by decide +kernel
theorem dX16_told_168 : decode cX16_told 168 = .ok (.aload_n 0, 1) := by decide +kernel
theorem dX16_told_169 : decode cX16_told 169 = .ok (.iconst 0, 1) := by decide +kernel
theorem dX16_told_170 : decode cX16_told 170 = .ok (.invokevirtual 1008, 3) := by decide +kernel
theorem dX16_told_173 : decode cX16_told 173 = .ok (.ireturn, 1) := by decide +kernel
theorem dX16_told_174 : decode cX16_told 174 = .ok (.aload_n 0, 1) := by decide +kernel
theorem dX16_told_175 : decode cX16_told 175 = .ok (.getfield 343, 3) := by decide +kernel
theorem dX16_told_178 : decode cX16_told 178 = .ok (.ireturn, 1) := by decide +kernel
theorem dX16_told_179 : decode cX16_told 179 = .ok (.aload_n 0, 1) := by decide +kernel
theorem dX16_told_180 : decode cX16_told 180 = .ok (.getfield 356, 3) := by decide +kernel
theorem dX16_told_183 : decode cX16_told 183 = .ok (.ifnonnull 7, 3) := by decide +kernel
theorem dX16_told_186 : decode cX16_told 186 = .ok (.iconst 0, 1) := by decide +kernel
theorem dX16_told_187 : decode cX16_told 187 = .ok (.goto 10, 3) := by decide +kernel
theorem dX16_told_190 : decode cX16_told 190 = .ok (.aload_n 0, 1) := by decide +kernel
theorem dX16_told_191 : decode cX16_told 191 = .ok (.getfield 356, 3) := by decide +kernel
theorem dX16_told_194 : decode cX16_told 194 = .ok (.getfield 321, 3) := by decide +kernel
theorem dX16_told_197 : decode cX16_told 197 = .ok (.ireturn, 1) := by decide +kernel
theorem dX16_told_198 : decode cX16_told 198 = .ok (.aload_n 0, 1) := by decide +kernel
theorem dX16_told_199 : decode cX16_told 199 = .ok (.getfield 972, 3) := by decide +kernel
theorem dX16_told_202 : decode cX16_told 202 = .ok (.ireturn, 1) := by decide +kernel
theorem dX16_told_203 : decode cX16_told 203 = .ok (.iconst (-1), 1) := by decide +kernel
theorem dX16_told_204 : decode cX16_told 204 = .ok (.ireturn, 1) := by decide +kernel
set_option maxRecDepth 20000 in
theorem a_X16_told_98 {Q : Sg → Int → Prop} {X : Sg → String → Prop} (K : MC R p s m args c cX16_told 2 RX16 D cA tys A n0 s0 1 23 []) (hQ : HQI p l e R s m args below meth c cX16_told D cA A n0 s0 QM dm ra jx rm Q) (hX : HX p l e R s m args below meth c 2 D cA A n0 s0 QM dm ra jx rm X) : ∀ (σ : Sg) (u0 : Int) (gu0 : rng u0), w_X16_told_98 ra jx rm Q X σ u0 → RG σ → Shp dm ra jx rm σ → JJ p l e R s m args below meth c 2 D cA A n0 s0 QM σ 98 [(0, .ref rm)] [.int (i32 u0)] := by
  intro σ u0 gu0 h hGσ hS H locs ls hH hl hc
  have B := K.1
  unfold w_X16_told_98 at h
  exact hQ _ _ _ _ _ _ gu0 dX16_told_98 hH hc h hGσ hS
set_option maxRecDepth 20000 in
theorem a_X16_told_91 {Q : Sg → Int → Prop} {X : Sg → String → Prop} (K : MC R p s m args c cX16_told 2 RX16 D cA tys A n0 s0 1 23 []) (hQ : HQI p l e R s m args below meth c cX16_told D cA A n0 s0 QM dm ra jx rm Q) (hX : HX p l e R s m args below meth c 2 D cA A n0 s0 QM dm ra jx rm X) : ∀ (σ : Sg), w_X16_told_91 ra jx rm Q X σ → RG σ → Shp dm ra jx rm σ → JJ p l e R s m args below meth c 2 D cA A n0 s0 QM σ 91 [(0, .ref rm)] [] := by
  intro σ h hGσ hS H locs ls hH hl hc
  have B := K.1
  unfold w_X16_told_91 at h
  refine lv_aload_n B.1 B.2.1 dX16_told_91 rfl (lv_at hl 0 rfl) ?_
  refine r_getp B hH hS 17 (by decide) wf_X16_356 rfl rfl dX16_told_92 ?_
  obtain ⟨a15, ea15, ja15, h⟩ := h
  refine W.eq (g2 := F0 m 95 ls [.ref a15]) (by rw [ea15]; rfl) ?_
  refine n_geti B hH hS ja15 0 (by decide) (List.mem_of_getElem? (i := 0) rfl) rfl dX16_told_95 ?_
  exact a_X16_told_98 K hQ hX _ _ (hGσ _ _) h hGσ hS _ _ _ hH (lv_sub (l' := [(0, .ref rm)]) hl [0] rfl) hc
set_option maxRecDepth 20000 in
theorem a_X16_told_87 {Q : Sg → Int → Prop} {X : Sg → String → Prop} (K : MC R p s m args c cX16_told 2 RX16 D cA tys A n0 s0 1 23 []) (hQ : HQI p l e R s m args below meth c cX16_told D cA A n0 s0 QM dm ra jx rm Q) (hX : HX p l e R s m args below meth c 2 D cA A n0 s0 QM dm ra jx rm X) : ∀ (σ : Sg), w_X16_told_87 ra jx rm Q X σ → RG σ → Shp dm ra jx rm σ → JJ p l e R s m args below meth c 2 D cA A n0 s0 QM σ 87 [(0, .ref rm)] [] := by
  intro σ h hGσ hS H locs ls hH hl hc
  have B := K.1
  unfold w_X16_told_87 at h
  refine lv_iconst (v := i32 0) B.1 B.2.1 dX16_told_87 (by decide) ?_
  refine lv_goto (tgt := 98) B.1 B.2.1 dX16_told_88 (by decide) ?_
  exact a_X16_told_98 K hQ hX _ _ (by unfold rng; omega) h hGσ hS _ _ _ hH (lv_sub (l' := [(0, .ref rm)]) hl [0] rfl) hc
set_option maxRecDepth 20000 in
theorem a_X16_told_80 {Q : Sg → Int → Prop} {X : Sg → String → Prop} (K : MC R p s m args c cX16_told 2 RX16 D cA tys A n0 s0 1 23 []) (hQ : HQI p l e R s m args below meth c cX16_told D cA A n0 s0 QM dm ra jx rm Q) (hX : HX p l e R s m args below meth c 2 D cA A n0 s0 QM dm ra jx rm X) : ∀ (σ : Sg), w_X16_told_80 ra jx rm Q X σ → RG σ → Shp dm ra jx rm σ → JJ p l e R s m args below meth c 2 D cA A n0 s0 QM σ 80 [(0, .ref rm)] [] := by
  intro σ h hGσ hS H locs ls hH hl hc
  have B := K.1
  unfold w_X16_told_80 at h
  refine lv_aload_n B.1 B.2.1 dX16_told_80 rfl (lv_at hl 0 rfl) ?_
  refine r_getp B hH hS 17 (by decide) wf_X16_356 rfl rfl dX16_told_81 ?_
  refine lv_ifnonnullQ (tgt := 91) B.1 B.2.1 dX16_told_84 (by decide) (fun h9 => ?_) (fun h9 => ?_)
  · rw [if_pos (h9)] at h
    exact a_X16_told_91 K hQ hX _ h hGσ hS _ _ _ hH (lv_sub (l' := [(0, .ref rm)]) hl [0] rfl) hc
  · rw [if_neg (h9)] at h
    exact a_X16_told_87 K hQ hX _ h hGσ hS _ _ _ hH (lv_sub (l' := [(0, .ref rm)]) hl [0] rfl) hc
set_option maxRecDepth 20000 in
theorem a_X16_told_99 {Q : Sg → Int → Prop} {X : Sg → String → Prop} (K : MC R p s m args c cX16_told 2 RX16 D cA tys A n0 s0 1 23 []) (hQ : HQI p l e R s m args below meth c cX16_told D cA A n0 s0 QM dm ra jx rm Q) (hX : HX p l e R s m args below meth c 2 D cA A n0 s0 QM dm ra jx rm X) : ∀ (σ : Sg), w_X16_told_99 ra jx rm Q X σ → RG σ → Shp dm ra jx rm σ → JJ p l e R s m args below meth c 2 D cA A n0 s0 QM σ 99 [(0, .ref rm)] [] := by
  intro σ h hGσ hS H locs ls hH hl hc
  have B := K.1
  unfold w_X16_told_99 at h
  refine lv_aload_n B.1 B.2.1 dX16_told_99 rfl (lv_at hl 0 rfl) ?_
  refine r_geti B hH hS 36 (by decide) wf_X16_399 rfl rfl dX16_told_100 ?_
  exact hQ _ _ _ _ _ _ (hGσ _ _) dX16_told_103 hH hc h hGσ hS
set_option maxRecDepth 20000 in
theorem a_X16_told_104 {Q : Sg → Int → Prop} {X : Sg → String → Prop} (K : MC R p s m args c cX16_told 2 RX16 D cA tys A n0 s0 1 23 []) (hQ : HQI p l e R s m args below meth c cX16_told D cA A n0 s0 QM dm ra jx rm Q) (hX : HX p l e R s m args below meth c 2 D cA A n0 s0 QM dm ra jx rm X) : ∀ (σ : Sg), w_X16_told_104 ra jx rm Q X σ → RG σ → Shp dm ra jx rm σ → JJ p l e R s m args below meth c 2 D cA A n0 s0 QM σ 104 [(0, .ref rm)] [] := by
  intro σ h hGσ hS H locs ls hH hl hc
  have B := K.1
  unfold w_X16_told_104 at h
  refine lv_aload_n B.1 B.2.1 dX16_told_104 rfl (lv_at hl 0 rfl) ?_
  refine r_geti B hH hS 50 (by decide) wf_X16_371 rfl rfl dX16_told_105 ?_
  exact hQ _ _ _ _ _ _ (hGσ _ _) dX16_told_108 hH hc h hGσ hS
set_option maxRecDepth 20000 in
theorem a_X16_told_109 {Q : Sg → Int → Prop} {X : Sg → String → Prop} (K : MC R p s m args c cX16_told 2 RX16 D cA tys A n0 s0 1 23 []) (hQ : HQI p l e R s m args below meth c cX16_told D cA A n0 s0 QM dm ra jx rm Q) (hX : HX p l e R s m args below meth c 2 D cA A n0 s0 QM dm ra jx rm X) : ∀ (σ : Sg), w_X16_told_109 ra jx rm Q X σ → RG σ → Shp dm ra jx rm σ → JJ p l e R s m args below meth c 2 D cA A n0 s0 QM σ 109 [(0, .ref rm)] [] := by
  intro σ h hGσ hS H locs ls hH hl hc
  have B := K.1
  unfold w_X16_told_109 at h
  refine lv_aload_n B.1 B.2.1 dX16_told_109 rfl (lv_at hl 0 rfl) ?_
  refine r_getl B hH hS 110 (by decide) wf_X16_807 rfl rfl dX16_told_110 ?_
  refine lv_l2i B.1 B.2.1 dX16_told_113 rfl ?_
  refine W.eq (g2 := F0 m 114 ls [.int (i32 ((gJ σ rm 110).toInt32.toInt))]) (by simp only [i32_self]) ?_
  exact hQ _ _ _ _ _ _ (rng_toInt _) dX16_told_114 hH hc h hGσ hS
set_option maxRecDepth 20000 in
theorem a_X16_told_115 {Q : Sg → Int → Prop} {X : Sg → String → Prop} (K : MC R p s m args c cX16_told 2 RX16 D cA tys A n0 s0 1 23 []) (hQ : HQI p l e R s m args below meth c cX16_told D cA A n0 s0 QM dm ra jx rm Q) (hX : HX p l e R s m args below meth c 2 D cA A n0 s0 QM dm ra jx rm X) : ∀ (σ : Sg), w_X16_told_115 ra jx rm Q X σ → RG σ → Shp dm ra jx rm σ → JJ p l e R s m args below meth c 2 D cA A n0 s0 QM σ 115 [(0, .ref rm)] [] := by
  intro σ h hGσ hS H locs ls hH hl hc
  have B := K.1
  unfold w_X16_told_115 at h
  refine lv_aload_n B.1 B.2.1 dX16_told_115 rfl (lv_at hl 0 rfl) ?_
  refine r_getl B hH hS 111 (by decide) wf_X16_826 rfl rfl dX16_told_116 ?_
  refine lv_l2i B.1 B.2.1 dX16_told_119 rfl ?_
  refine W.eq (g2 := F0 m 120 ls [.int (i32 ((gJ σ rm 111).toInt32.toInt))]) (by simp only [i32_self]) ?_
  exact hQ _ _ _ _ _ _ (rng_toInt _) dX16_told_120 hH hc h hGσ hS
set_option maxRecDepth 20000 in
theorem a_X16_told_121 {Q : Sg → Int → Prop} {X : Sg → String → Prop} (K : MC R p s m args c cX16_told 2 RX16 D cA tys A n0 s0 1 23 []) (hQ : HQI p l e R s m args below meth c cX16_told D cA A n0 s0 QM dm ra jx rm Q) (hX : HX p l e R s m args below meth c 2 D cA A n0 s0 QM dm ra jx rm X) : ∀ (σ : Sg), w_X16_told_121 ra jx rm Q X σ → RG σ → Shp dm ra jx rm σ → JJ p l e R s m args below meth c 2 D cA A n0 s0 QM σ 121 [(0, .ref rm)] [] := by
  intro σ h hGσ hS H locs ls hH hl hc
  have B := K.1
  unfold w_X16_told_121 at h
  refine lv_aload_n B.1 B.2.1 dX16_told_121 rfl (lv_at hl 0 rfl) ?_
  refine r_geti B hH hS 92 (by decide) wf_X16_745 rfl rfl dX16_told_122 ?_
  exact hQ _ _ _ _ _ _ (hGσ _ _) dX16_told_125 hH hc h hGσ hS
set_option maxRecDepth 20000 in
theorem a_X16_told_126 {Q : Sg → Int → Prop} {X : Sg → String → Prop} (K : MC R p s m args c cX16_told 2 RX16 D cA tys A n0 s0 1 23 []) (hQ : HQI p l e R s m args below meth c cX16_told D cA A n0 s0 QM dm ra jx rm Q) (hX : HX p l e R s m args below meth c 2 D cA A n0 s0 QM dm ra jx rm X) : ∀ (σ : Sg), w_X16_told_126 ra jx rm Q X σ → RG σ → Shp dm ra jx rm σ → JJ p l e R s m args below meth c 2 D cA A n0 s0 QM σ 126 [(0, .ref rm)] [] := by
  intro σ h hGσ hS H locs ls hH hl hc
  have B := K.1
  unfold w_X16_told_126 at h
  refine lv_aload_n B.1 B.2.1 dX16_told_126 rfl (lv_at hl 0 rfl) ?_
  refine r_geti B hH hS 93 (by decide) wf_X16_742 rfl rfl dX16_told_127 ?_
  exact hQ _ _ _ _ _ _ (hGσ _ _) dX16_told_130 hH hc h hGσ hS
set_option maxRecDepth 20000 in
theorem a_X16_told_131 {Q : Sg → Int → Prop} {X : Sg → String → Prop} (K : MC R p s m args c cX16_told 2 RX16 D cA tys A n0 s0 1 23 []) (hQ : HQI p l e R s m args below meth c cX16_told D cA A n0 s0 QM dm ra jx rm Q) (hX : HX p l e R s m args below meth c 2 D cA A n0 s0 QM dm ra jx rm X) : ∀ (σ : Sg), w_X16_told_131 ra jx rm Q X σ → RG σ → Shp dm ra jx rm σ → JJ p l e R s m args below meth c 2 D cA A n0 s0 QM σ 131 [(0, .ref rm)] [] := by
  intro σ h hGσ hS H locs ls hH hl hc
  have B := K.1
  unfold w_X16_told_131 at h
  refine lv_aload_n B.1 B.2.1 dX16_told_131 rfl (lv_at hl 0 rfl) ?_
  refine r_geti B hH hS 112 (by decide) wf_X16_837 rfl rfl dX16_told_132 ?_
  exact hQ _ _ _ _ _ _ (hGσ _ _) dX16_told_135 hH hc h hGσ hS
set_option maxRecDepth 20000 in
theorem a_X16_told_148 {Q : Sg → Int → Prop} {X : Sg → String → Prop} (K : MC R p s m args c cX16_told 2 RX16 D cA tys A n0 s0 1 23 []) (hQ : HQI p l e R s m args below meth c cX16_told D cA A n0 s0 QM dm ra jx rm Q) (hX : HX p l e R s m args below meth c 2 D cA A n0 s0 QM dm ra jx rm X) : ∀ (σ : Sg) (u0 : Int) (gu0 : rng u0), w_X16_told_148 ra jx rm Q X σ u0 → RG σ → Shp dm ra jx rm σ → JJ p l e R s m args below meth c 2 D cA A n0 s0 QM σ 148 [(0, .ref rm)] [.int (i32 u0)] := by
  intro σ u0 gu0 h hGσ hS H locs ls hH hl hc
  have B := K.1
  unfold w_X16_told_148 at h
  exact hQ _ _ _ _ _ _ gu0 dX16_told_148 hH hc h hGσ hS
set_option maxRecDepth 20000 in
theorem a_X16_told_147 {Q : Sg → Int → Prop} {X : Sg → String → Prop} (K : MC R p s m args c cX16_told 2 RX16 D cA tys A n0 s0 1 23 []) (hQ : HQI p l e R s m args below meth c cX16_told D cA A n0 s0 QM dm ra jx rm Q) (hX : HX p l e R s m args below meth c 2 D cA A n0 s0 QM dm ra jx rm X) : ∀ (σ : Sg), w_X16_told_147 ra jx rm Q X σ → RG σ → Shp dm ra jx rm σ → JJ p l e R s m args below meth c 2 D cA A n0 s0 QM σ 147 [(0, .ref rm)] [] := by
  intro σ h hGσ hS H locs ls hH hl hc
  have B := K.1
  unfold w_X16_told_147 at h
  refine lv_iconst (v := i32 0) B.1 B.2.1 dX16_told_147 (by decide) ?_
  exact a_X16_told_148 K hQ hX _ _ (by unfold rng; omega) h hGσ hS _ _ _ hH (lv_sub (l' := [(0, .ref rm)]) hl [0] rfl) hc
set_option maxRecDepth 20000 in
theorem a_X16_told_143 {Q : Sg → Int → Prop} {X : Sg → String → Prop} (K : MC R p s m args c cX16_told 2 RX16 D cA tys A n0 s0 1 23 []) (hQ : HQI p l e R s m args below meth c cX16_told D cA A n0 s0 QM dm ra jx rm Q) (hX : HX p l e R s m args below meth c 2 D cA A n0 s0 QM dm ra jx rm X) : ∀ (σ : Sg), w_X16_told_143 ra jx rm Q X σ → RG σ → Shp dm ra jx rm σ → JJ p l e R s m args below meth c 2 D cA A n0 s0 QM σ 143 [(0, .ref rm)] [] := by
  intro σ h hGσ hS H locs ls hH hl hc
  have B := K.1
  unfold w_X16_told_143 at h
  refine lv_iconst (v := i32 1) B.1 B.2.1 dX16_told_143 (by decide) ?_
  refine lv_goto (tgt := 148) B.1 B.2.1 dX16_told_144 (by decide) ?_
  exact a_X16_told_148 K hQ hX _ _ (by unfold rng; omega) h hGσ hS _ _ _ hH (lv_sub (l' := [(0, .ref rm)]) hl [0] rfl) hc
set_option maxRecDepth 20000 in
theorem a_X16_told_136 {Q : Sg → Int → Prop} {X : Sg → String → Prop} (K : MC R p s m args c cX16_told 2 RX16 D cA tys A n0 s0 1 23 []) (hQ : HQI p l e R s m args below meth c cX16_told D cA A n0 s0 QM dm ra jx rm Q) (hX : HX p l e R s m args below meth c 2 D cA A n0 s0 QM dm ra jx rm X) : ∀ (σ : Sg), w_X16_told_136 ra jx rm Q X σ → RG σ → Shp dm ra jx rm σ → JJ p l e R s m args below meth c 2 D cA A n0 s0 QM σ 136 [(0, .ref rm)] [] := by
  intro σ h hGσ hS H locs ls hH hl hc
  have B := K.1
  unfold w_X16_told_136 at h
  refine lv_aload_n B.1 B.2.1 dX16_told_136 rfl (lv_at hl 0 rfl) ?_
  refine r_geti B hH hS 31 (by decide) wf_X16_831 rfl rfl dX16_told_137 ?_
  refine lv_if_eq (tgt := 147) B.1 B.2.1 dX16_told_140 (by decide) (fun h9 => ?_) (fun h9 => ?_)
  · rw [if_pos ((z_eq (hGσ _ _)).mp h9)] at h
    exact a_X16_told_147 K hQ hX _ h hGσ hS _ _ _ hH (lv_sub (l' := [(0, .ref rm)]) hl [0] rfl) hc
  · rw [if_neg (fun q => h9 ((z_eq (hGσ _ _)).mpr q))] at h
    exact a_X16_told_143 K hQ hX _ h hGσ hS _ _ _ hH (lv_sub (l' := [(0, .ref rm)]) hl [0] rfl) hc
set_option maxRecDepth 20000 in
theorem a_X16_told_161 {Q : Sg → Int → Prop} {X : Sg → String → Prop} (K : MC R p s m args c cX16_told 2 RX16 D cA tys A n0 s0 1 23 []) (hQ : HQI p l e R s m args below meth c cX16_told D cA A n0 s0 QM dm ra jx rm Q) (hX : HX p l e R s m args below meth c 2 D cA A n0 s0 QM dm ra jx rm X) : ∀ (σ : Sg) (u0 : Int) (gu0 : rng u0), w_X16_told_161 ra jx rm Q X σ u0 → RG σ → Shp dm ra jx rm σ → JJ p l e R s m args below meth c 2 D cA A n0 s0 QM σ 161 [(0, .ref rm)] [.int (i32 u0)] := by
  intro σ u0 gu0 h hGσ hS H locs ls hH hl hc
  have B := K.1
  unfold w_X16_told_161 at h
  exact hQ _ _ _ _ _ _ gu0 dX16_told_161 hH hc h hGσ hS
set_option maxRecDepth 20000 in
theorem a_X16_told_160 {Q : Sg → Int → Prop} {X : Sg → String → Prop} (K : MC R p s m args c cX16_told 2 RX16 D cA tys A n0 s0 1 23 []) (hQ : HQI p l e R s m args below meth c cX16_told D cA A n0 s0 QM dm ra jx rm Q) (hX : HX p l e R s m args below meth c 2 D cA A n0 s0 QM dm ra jx rm X) : ∀ (σ : Sg), w_X16_told_160 ra jx rm Q X σ → RG σ → Shp dm ra jx rm σ → JJ p l e R s m args below meth c 2 D cA A n0 s0 QM σ 160 [(0, .ref rm)] [] := by
  intro σ h hGσ hS H locs ls hH hl hc
  have B := K.1
  unfold w_X16_told_160 at h
  refine lv_iconst (v := i32 0) B.1 B.2.1 dX16_told_160 (by decide) ?_
  exact a_X16_told_161 K hQ hX _ _ (by unfold rng; omega) h hGσ hS _ _ _ hH (lv_sub (l' := [(0, .ref rm)]) hl [0] rfl) hc
set_option maxRecDepth 20000 in
theorem a_X16_told_156 {Q : Sg → Int → Prop} {X : Sg → String → Prop} (K : MC R p s m args c cX16_told 2 RX16 D cA tys A n0 s0 1 23 []) (hQ : HQI p l e R s m args below meth c cX16_told D cA A n0 s0 QM dm ra jx rm Q) (hX : HX p l e R s m args below meth c 2 D cA A n0 s0 QM dm ra jx rm X) : ∀ (σ : Sg), w_X16_told_156 ra jx rm Q X σ → RG σ → Shp dm ra jx rm σ → JJ p l e R s m args below meth c 2 D cA A n0 s0 QM σ 156 [(0, .ref rm)] [] := by
  intro σ h hGσ hS H locs ls hH hl hc
  have B := K.1
  unfold w_X16_told_156 at h
  refine lv_iconst (v := i32 1) B.1 B.2.1 dX16_told_156 (by decide) ?_
  refine lv_goto (tgt := 161) B.1 B.2.1 dX16_told_157 (by decide) ?_
  exact a_X16_told_161 K hQ hX _ _ (by unfold rng; omega) h hGσ hS _ _ _ hH (lv_sub (l' := [(0, .ref rm)]) hl [0] rfl) hc
set_option maxRecDepth 20000 in
theorem a_X16_told_149 {Q : Sg → Int → Prop} {X : Sg → String → Prop} (K : MC R p s m args c cX16_told 2 RX16 D cA tys A n0 s0 1 23 []) (hQ : HQI p l e R s m args below meth c cX16_told D cA A n0 s0 QM dm ra jx rm Q) (hX : HX p l e R s m args below meth c 2 D cA A n0 s0 QM dm ra jx rm X) : ∀ (σ : Sg), w_X16_told_149 ra jx rm Q X σ → RG σ → Shp dm ra jx rm σ → JJ p l e R s m args below meth c 2 D cA A n0 s0 QM σ 149 [(0, .ref rm)] [] := by
  intro σ h hGσ hS H locs ls hH hl hc
  have B := K.1
  unfold w_X16_told_149 at h
  refine lv_aload_n B.1 B.2.1 dX16_told_149 rfl (lv_at hl 0 rfl) ?_
  refine r_geti B hH hS 32 (by decide) wf_X16_688 rfl rfl dX16_told_150 ?_
  refine lv_if_eq (tgt := 160) B.1 B.2.1 dX16_told_153 (by decide) (fun h9 => ?_) (fun h9 => ?_)
  · rw [if_pos ((z_eq (hGσ _ _)).mp h9)] at h
    exact a_X16_told_160 K hQ hX _ h hGσ hS _ _ _ hH (lv_sub (l' := [(0, .ref rm)]) hl [0] rfl) hc
  · rw [if_neg (fun q => h9 ((z_eq (hGσ _ _)).mpr q))] at h
    exact a_X16_told_156 K hQ hX _ h hGσ hS _ _ _ hH (lv_sub (l' := [(0, .ref rm)]) hl [0] rfl) hc
set_option maxRecDepth 20000 in
theorem a_X16_told_162 {Q : Sg → Int → Prop} {X : Sg → String → Prop} (K : MC R p s m args c cX16_told 2 RX16 D cA tys A n0 s0 1 23 []) (hQ : HQI p l e R s m args below meth c cX16_told D cA A n0 s0 QM dm ra jx rm Q) (hX : HX p l e R s m args below meth c 2 D cA A n0 s0 QM dm ra jx rm X) : ∀ (σ : Sg), w_X16_told_162 ra jx rm Q X σ → RG σ → Shp dm ra jx rm σ → JJ p l e R s m args below meth c 2 D cA A n0 s0 QM σ 162 [(0, .ref rm)] [] := by
  intro σ h hGσ hS H locs ls hH hl hc
  have B := K.1
  unfold w_X16_told_162 at h
  refine lv_aload_n B.1 B.2.1 dX16_told_162 rfl (lv_at hl 0 rfl) ?_
  refine lv_iconst (v := i32 1) B.1 B.2.1 dX16_told_163 (by decide) ?_
  refine c_V B hH hl hc K.2.2.1 (C := RX16) (T := TX16) (N := 123) (ci := 16) (As := [.int (i32 1)]) (ok_X16_listed K.2.1 σ 1 (by unfold rng; omega) hGσ hS h) wc_X16_1008 1 hd_X16_listed ⟨Nat.le_trans (Nat.le_of_ble_eq_true rfl) K.2.2.2.1, Nat.le_trans (Nat.le_of_ble_eq_true rfl) K.2.2.2.2.1⟩ hS.1.1 hS.1.2 (by decide) rfl rfl (rest := []) rfl (Nat.le_of_ble_eq_true rfl) dX16_told_164 (fun σ16 w hq => ?_) (fun σ9 E9 hx9 => hX σ9 E9 _ _ _ (tb_out K.2.2.2.2.2 rfl) hx9.1 hx9.2.1 hx9.2.2)
  obtain ⟨r17, rfl, gr17, h, hGσ16, hS⟩ := hq
  intro H locs ls hH hl hc
  refine W.eq (g2 := F0 m 167 ls [.int (i32 r17)]) (rfl) ?_
  try dsimp only at h
  exact hQ _ _ _ _ _ _ gr17 dX16_told_167 hH hc h hGσ16 hS
set_option maxRecDepth 20000 in
theorem a_X16_told_168 {Q : Sg → Int → Prop} {X : Sg → String → Prop} (K : MC R p s m args c cX16_told 2 RX16 D cA tys A n0 s0 1 23 []) (hQ : HQI p l e R s m args below meth c cX16_told D cA A n0 s0 QM dm ra jx rm Q) (hX : HX p l e R s m args below meth c 2 D cA A n0 s0 QM dm ra jx rm X) : ∀ (σ : Sg), w_X16_told_168 ra jx rm Q X σ → RG σ → Shp dm ra jx rm σ → JJ p l e R s m args below meth c 2 D cA A n0 s0 QM σ 168 [(0, .ref rm)] [] := by
  intro σ h hGσ hS H locs ls hH hl hc
  have B := K.1
  unfold w_X16_told_168 at h
  refine lv_aload_n B.1 B.2.1 dX16_told_168 rfl (lv_at hl 0 rfl) ?_
  refine lv_iconst (v := i32 0) B.1 B.2.1 dX16_told_169 (by decide) ?_
  refine c_V B hH hl hc K.2.2.1 (C := RX16) (T := TX16) (N := 123) (ci := 16) (As := [.int (i32 0)]) (ok_X16_listed K.2.1 σ 0 (by unfold rng; omega) hGσ hS h) wc_X16_1008 1 hd_X16_listed ⟨Nat.le_trans (Nat.le_of_ble_eq_true rfl) K.2.2.2.1, Nat.le_trans (Nat.le_of_ble_eq_true rfl) K.2.2.2.2.1⟩ hS.1.1 hS.1.2 (by decide) rfl rfl (rest := []) rfl (Nat.le_of_ble_eq_true rfl) dX16_told_170 (fun σ18 w hq => ?_) (fun σ9 E9 hx9 => hX σ9 E9 _ _ _ (tb_out K.2.2.2.2.2 rfl) hx9.1 hx9.2.1 hx9.2.2)
  obtain ⟨r19, rfl, gr19, h, hGσ18, hS⟩ := hq
  intro H locs ls hH hl hc
  refine W.eq (g2 := F0 m 173 ls [.int (i32 r19)]) (rfl) ?_
  try dsimp only at h
  exact hQ _ _ _ _ _ _ gr19 dX16_told_173 hH hc h hGσ18 hS
set_option maxRecDepth 20000 in
theorem a_X16_told_174 {Q : Sg → Int → Prop} {X : Sg → String → Prop} (K : MC R p s m args c cX16_told 2 RX16 D cA tys A n0 s0 1 23 []) (hQ : HQI p l e R s m args below meth c cX16_told D cA A n0 s0 QM dm ra jx rm Q) (hX : HX p l e R s m args below meth c 2 D cA A n0 s0 QM dm ra jx rm X) : ∀ (σ : Sg), w_X16_told_174 ra jx rm Q X σ → RG σ → Shp dm ra jx rm σ → JJ p l e R s m args below meth c 2 D cA A n0 s0 QM σ 174 [(0, .ref rm)] [] := by
  intro σ h hGσ hS H locs ls hH hl hc
  have B := K.1
  unfold w_X16_told_174 at h
  refine lv_aload_n B.1 B.2.1 dX16_told_174 rfl (lv_at hl 0 rfl) ?_
  refine r_geti B hH hS 27 (by decide) wf_X16_343 rfl rfl dX16_told_175 ?_
  exact hQ _ _ _ _ _ _ (hGσ _ _) dX16_told_178 hH hc h hGσ hS
set_option maxRecDepth 20000 in
theorem a_X16_told_197 {Q : Sg → Int → Prop} {X : Sg → String → Prop} (K : MC R p s m args c cX16_told 2 RX16 D cA tys A n0 s0 1 23 []) (hQ : HQI p l e R s m args below meth c cX16_told D cA A n0 s0 QM dm ra jx rm Q) (hX : HX p l e R s m args below meth c 2 D cA A n0 s0 QM dm ra jx rm X) : ∀ (σ : Sg) (u0 : Int) (gu0 : rng u0), w_X16_told_197 ra jx rm Q X σ u0 → RG σ → Shp dm ra jx rm σ → JJ p l e R s m args below meth c 2 D cA A n0 s0 QM σ 197 [(0, .ref rm)] [.int (i32 u0)] := by
  intro σ u0 gu0 h hGσ hS H locs ls hH hl hc
  have B := K.1
  unfold w_X16_told_197 at h
  exact hQ _ _ _ _ _ _ gu0 dX16_told_197 hH hc h hGσ hS
set_option maxRecDepth 20000 in
theorem a_X16_told_190 {Q : Sg → Int → Prop} {X : Sg → String → Prop} (K : MC R p s m args c cX16_told 2 RX16 D cA tys A n0 s0 1 23 []) (hQ : HQI p l e R s m args below meth c cX16_told D cA A n0 s0 QM dm ra jx rm Q) (hX : HX p l e R s m args below meth c 2 D cA A n0 s0 QM dm ra jx rm X) : ∀ (σ : Sg), w_X16_told_190 ra jx rm Q X σ → RG σ → Shp dm ra jx rm σ → JJ p l e R s m args below meth c 2 D cA A n0 s0 QM σ 190 [(0, .ref rm)] [] := by
  intro σ h hGσ hS H locs ls hH hl hc
  have B := K.1
  unfold w_X16_told_190 at h
  refine lv_aload_n B.1 B.2.1 dX16_told_190 rfl (lv_at hl 0 rfl) ?_
  refine r_getp B hH hS 17 (by decide) wf_X16_356 rfl rfl dX16_told_191 ?_
  obtain ⟨a20, ea20, ja20, h⟩ := h
  refine W.eq (g2 := F0 m 194 ls [.ref a20]) (by rw [ea20]; rfl) ?_
  refine n_geti B hH hS ja20 1 (by decide) (List.mem_of_getElem? (i := 1) rfl) rfl dX16_told_194 ?_
  exact a_X16_told_197 K hQ hX _ _ (hGσ _ _) h hGσ hS _ _ _ hH (lv_sub (l' := [(0, .ref rm)]) hl [0] rfl) hc
set_option maxRecDepth 20000 in
theorem a_X16_told_186 {Q : Sg → Int → Prop} {X : Sg → String → Prop} (K : MC R p s m args c cX16_told 2 RX16 D cA tys A n0 s0 1 23 []) (hQ : HQI p l e R s m args below meth c cX16_told D cA A n0 s0 QM dm ra jx rm Q) (hX : HX p l e R s m args below meth c 2 D cA A n0 s0 QM dm ra jx rm X) : ∀ (σ : Sg), w_X16_told_186 ra jx rm Q X σ → RG σ → Shp dm ra jx rm σ → JJ p l e R s m args below meth c 2 D cA A n0 s0 QM σ 186 [(0, .ref rm)] [] := by
  intro σ h hGσ hS H locs ls hH hl hc
  have B := K.1
  unfold w_X16_told_186 at h
  refine lv_iconst (v := i32 0) B.1 B.2.1 dX16_told_186 (by decide) ?_
  refine lv_goto (tgt := 197) B.1 B.2.1 dX16_told_187 (by decide) ?_
  exact a_X16_told_197 K hQ hX _ _ (by unfold rng; omega) h hGσ hS _ _ _ hH (lv_sub (l' := [(0, .ref rm)]) hl [0] rfl) hc
set_option maxRecDepth 20000 in
theorem a_X16_told_179 {Q : Sg → Int → Prop} {X : Sg → String → Prop} (K : MC R p s m args c cX16_told 2 RX16 D cA tys A n0 s0 1 23 []) (hQ : HQI p l e R s m args below meth c cX16_told D cA A n0 s0 QM dm ra jx rm Q) (hX : HX p l e R s m args below meth c 2 D cA A n0 s0 QM dm ra jx rm X) : ∀ (σ : Sg), w_X16_told_179 ra jx rm Q X σ → RG σ → Shp dm ra jx rm σ → JJ p l e R s m args below meth c 2 D cA A n0 s0 QM σ 179 [(0, .ref rm)] [] := by
  intro σ h hGσ hS H locs ls hH hl hc
  have B := K.1
  unfold w_X16_told_179 at h
  refine lv_aload_n B.1 B.2.1 dX16_told_179 rfl (lv_at hl 0 rfl) ?_
  refine r_getp B hH hS 17 (by decide) wf_X16_356 rfl rfl dX16_told_180 ?_
  refine lv_ifnonnullQ (tgt := 190) B.1 B.2.1 dX16_told_183 (by decide) (fun h9 => ?_) (fun h9 => ?_)
  · rw [if_pos (h9)] at h
    exact a_X16_told_190 K hQ hX _ h hGσ hS _ _ _ hH (lv_sub (l' := [(0, .ref rm)]) hl [0] rfl) hc
  · rw [if_neg (h9)] at h
    exact a_X16_told_186 K hQ hX _ h hGσ hS _ _ _ hH (lv_sub (l' := [(0, .ref rm)]) hl [0] rfl) hc
set_option maxRecDepth 20000 in
theorem a_X16_told_198 {Q : Sg → Int → Prop} {X : Sg → String → Prop} (K : MC R p s m args c cX16_told 2 RX16 D cA tys A n0 s0 1 23 []) (hQ : HQI p l e R s m args below meth c cX16_told D cA A n0 s0 QM dm ra jx rm Q) (hX : HX p l e R s m args below meth c 2 D cA A n0 s0 QM dm ra jx rm X) : ∀ (σ : Sg), w_X16_told_198 ra jx rm Q X σ → RG σ → Shp dm ra jx rm σ → JJ p l e R s m args below meth c 2 D cA A n0 s0 QM σ 198 [(0, .ref rm)] [] := by
  intro σ h hGσ hS H locs ls hH hl hc
  have B := K.1
  unfold w_X16_told_198 at h
  refine lv_aload_n B.1 B.2.1 dX16_told_198 rfl (lv_at hl 0 rfl) ?_
  refine r_geti B hH hS 3 (by decide) wf_X16_972 rfl rfl dX16_told_199 ?_
  exact hQ _ _ _ _ _ _ (hGσ _ _) dX16_told_202 hH hc h hGσ hS
set_option maxRecDepth 20000 in
theorem a_X16_told_203 {Q : Sg → Int → Prop} {X : Sg → String → Prop} (K : MC R p s m args c cX16_told 2 RX16 D cA tys A n0 s0 1 23 []) (hQ : HQI p l e R s m args below meth c cX16_told D cA A n0 s0 QM dm ra jx rm Q) (hX : HX p l e R s m args below meth c 2 D cA A n0 s0 QM dm ra jx rm X) : ∀ (σ : Sg), w_X16_told_203 ra jx rm Q X σ → RG σ → Shp dm ra jx rm σ → JJ p l e R s m args below meth c 2 D cA A n0 s0 QM σ 203 [(0, .ref rm)] [] := by
  intro σ h hGσ hS H locs ls hH hl hc
  have B := K.1
  unfold w_X16_told_203 at h
  refine lv_iconst (v := i32 (-1)) B.1 B.2.1 dX16_told_203 (by decide) ?_
  exact hQ _ _ _ _ _ _ (by unfold rng; omega) dX16_told_204 hH hc h hGσ hS
set_option maxRecDepth 20000 in
theorem a_X16_told_0 {Q : Sg → Int → Prop} {X : Sg → String → Prop} (K : MC R p s m args c cX16_told 2 RX16 D cA tys A n0 s0 1 23 []) (hQ : HQI p l e R s m args below meth c cX16_told D cA A n0 s0 QM dm ra jx rm Q) (hX : HX p l e R s m args below meth c 2 D cA A n0 s0 QM dm ra jx rm X) : ∀ (σ : Sg) (v1 : Int) (g1 : rng v1), w_X16_told_0 ra jx rm Q X σ v1 → RG σ → Shp dm ra jx rm σ → JJ p l e R s m args below meth c 2 D cA A n0 s0 QM σ 0 [(0, .ref rm), (1, .int (i32 v1))] [] := by
  intro σ v1 g1 h hGσ hS H locs ls hH hl hc
  have B := K.1
  unfold w_X16_told_0 at h
  refine lv_aload_n B.1 B.2.1 dX16_told_0 rfl (lv_at hl 0 rfl) ?_
  refine lv_iconst (v := i32 0) B.1 B.2.1 dX16_told_1 (by decide) ?_
  obtain ⟨σ21, eσ21⟩ : ∃ z, z = pI σ rm 0 0 := ⟨_, rfl⟩
  have h := h σ21 eσ21
  refine r_puti B hH hS 0 (ty := .int) (by decide) wf_X16_1 rfl rfl rfl rfl rfl rfl dX16_told_2 (fun H locs hH => ?_)
  have hH : Hd D cA A s (pI σ rm 0 0) H locs := hH
  rw [← eσ21] at hH
  have hGσ21 : RG σ21 := by rw [eσ21]; exact hGσ.pI (by unfold rng; omega)
  have hS : Shp dm ra jx rm σ21 := by rw [eσ21]; exact hS
  have hc : CB n0 s0 σ21 := by rw [eσ21]; exact hc
  rw [show gc σ = gc σ21 by rw [eσ21], show gs σ = gs σ21 by rw [eσ21]]
  refine lv_iload_n B.1 B.2.1 dX16_told_5 rfl (lv_at hl 1 rfl) ?_
  rcases Classical.em (v1 = 0) with e9 | e9
  · rw [if_pos e9] at h
    refine lv_tableIn (off := 74) (tgt := 80) B.1 B.2.1 dX16_told_6 (by rw [i32_toInt g1, e9]; decide) (by rw [i32_toInt g1, e9]; decide) (by rw [i32_toInt g1, e9]; rfl) (by decide) ?_
    exact a_X16_told_80 K hQ hX _ h hGσ21 hS _ _ _ hH (lv_sub (l' := [(0, .ref rm)]) hl [0] rfl) hc
  rw [if_neg e9] at h
  have k2 := e9
  rcases Classical.em (v1 = 1) with e9 | e9
  · rw [if_pos e9] at h
    refine lv_tableIn (off := 93) (tgt := 99) B.1 B.2.1 dX16_told_6 (by rw [i32_toInt g1, e9]; decide) (by rw [i32_toInt g1, e9]; decide) (by rw [i32_toInt g1, e9]; rfl) (by decide) ?_
    exact a_X16_told_99 K hQ hX _ h hGσ21 hS _ _ _ hH (lv_sub (l' := [(0, .ref rm)]) hl [0] rfl) hc
  rw [if_neg e9] at h
  have k3 := e9
  rcases Classical.em (v1 = 2) with e9 | e9
  · rw [if_pos e9] at h
    refine lv_tableIn (off := 98) (tgt := 104) B.1 B.2.1 dX16_told_6 (by rw [i32_toInt g1, e9]; decide) (by rw [i32_toInt g1, e9]; decide) (by rw [i32_toInt g1, e9]; rfl) (by decide) ?_
    exact a_X16_told_104 K hQ hX _ h hGσ21 hS _ _ _ hH (lv_sub (l' := [(0, .ref rm)]) hl [0] rfl) hc
  rw [if_neg e9] at h
  have k4 := e9
  rcases Classical.em (v1 = 3) with e9 | e9
  · rw [if_pos e9] at h
    refine lv_tableIn (off := 103) (tgt := 109) B.1 B.2.1 dX16_told_6 (by rw [i32_toInt g1, e9]; decide) (by rw [i32_toInt g1, e9]; decide) (by rw [i32_toInt g1, e9]; rfl) (by decide) ?_
    exact a_X16_told_109 K hQ hX _ h hGσ21 hS _ _ _ hH (lv_sub (l' := [(0, .ref rm)]) hl [0] rfl) hc
  rw [if_neg e9] at h
  have k5 := e9
  rcases Classical.em (v1 = 4) with e9 | e9
  · rw [if_pos e9] at h
    refine lv_tableIn (off := 109) (tgt := 115) B.1 B.2.1 dX16_told_6 (by rw [i32_toInt g1, e9]; decide) (by rw [i32_toInt g1, e9]; decide) (by rw [i32_toInt g1, e9]; rfl) (by decide) ?_
    exact a_X16_told_115 K hQ hX _ h hGσ21 hS _ _ _ hH (lv_sub (l' := [(0, .ref rm)]) hl [0] rfl) hc
  rw [if_neg e9] at h
  have k6 := e9
  rcases Classical.em (v1 = 5) with e9 | e9
  · rw [if_pos e9] at h
    refine lv_tableIn (off := 115) (tgt := 121) B.1 B.2.1 dX16_told_6 (by rw [i32_toInt g1, e9]; decide) (by rw [i32_toInt g1, e9]; decide) (by rw [i32_toInt g1, e9]; rfl) (by decide) ?_
    exact a_X16_told_121 K hQ hX _ h hGσ21 hS _ _ _ hH (lv_sub (l' := [(0, .ref rm)]) hl [0] rfl) hc
  rw [if_neg e9] at h
  have k7 := e9
  rcases Classical.em (v1 = 6) with e9 | e9
  · rw [if_pos e9] at h
    refine lv_tableIn (off := 120) (tgt := 126) B.1 B.2.1 dX16_told_6 (by rw [i32_toInt g1, e9]; decide) (by rw [i32_toInt g1, e9]; decide) (by rw [i32_toInt g1, e9]; rfl) (by decide) ?_
    exact a_X16_told_126 K hQ hX _ h hGσ21 hS _ _ _ hH (lv_sub (l' := [(0, .ref rm)]) hl [0] rfl) hc
  rw [if_neg e9] at h
  have k8 := e9
  rcases Classical.em (v1 = 7) with e9 | e9
  · rw [if_pos e9] at h
    refine lv_tableIn (off := 125) (tgt := 131) B.1 B.2.1 dX16_told_6 (by rw [i32_toInt g1, e9]; decide) (by rw [i32_toInt g1, e9]; decide) (by rw [i32_toInt g1, e9]; rfl) (by decide) ?_
    exact a_X16_told_131 K hQ hX _ h hGσ21 hS _ _ _ hH (lv_sub (l' := [(0, .ref rm)]) hl [0] rfl) hc
  rw [if_neg e9] at h
  have k9 := e9
  rcases Classical.em (v1 = 8) with e9 | e9
  · rw [if_pos e9] at h
    refine lv_tableIn (off := 130) (tgt := 136) B.1 B.2.1 dX16_told_6 (by rw [i32_toInt g1, e9]; decide) (by rw [i32_toInt g1, e9]; decide) (by rw [i32_toInt g1, e9]; rfl) (by decide) ?_
    exact a_X16_told_136 K hQ hX _ h hGσ21 hS _ _ _ hH (lv_sub (l' := [(0, .ref rm)]) hl [0] rfl) hc
  rw [if_neg e9] at h
  have k10 := e9
  rcases Classical.em (v1 = 9) with e9 | e9
  · rw [if_pos e9] at h
    refine lv_tableIn (off := 143) (tgt := 149) B.1 B.2.1 dX16_told_6 (by rw [i32_toInt g1, e9]; decide) (by rw [i32_toInt g1, e9]; decide) (by rw [i32_toInt g1, e9]; rfl) (by decide) ?_
    exact a_X16_told_149 K hQ hX _ h hGσ21 hS _ _ _ hH (lv_sub (l' := [(0, .ref rm)]) hl [0] rfl) hc
  rw [if_neg e9] at h
  have k11 := e9
  rcases Classical.em (v1 = 10) with e9 | e9
  · rw [if_pos e9] at h
    refine lv_tableIn (off := 156) (tgt := 162) B.1 B.2.1 dX16_told_6 (by rw [i32_toInt g1, e9]; decide) (by rw [i32_toInt g1, e9]; decide) (by rw [i32_toInt g1, e9]; rfl) (by decide) ?_
    exact a_X16_told_162 K hQ hX _ h hGσ21 hS _ _ _ hH (lv_sub (l' := [(0, .ref rm)]) hl [0] rfl) hc
  rw [if_neg e9] at h
  have k12 := e9
  rcases Classical.em (v1 = 11) with e9 | e9
  · rw [if_pos e9] at h
    refine lv_tableIn (off := 162) (tgt := 168) B.1 B.2.1 dX16_told_6 (by rw [i32_toInt g1, e9]; decide) (by rw [i32_toInt g1, e9]; decide) (by rw [i32_toInt g1, e9]; rfl) (by decide) ?_
    exact a_X16_told_168 K hQ hX _ h hGσ21 hS _ _ _ hH (lv_sub (l' := [(0, .ref rm)]) hl [0] rfl) hc
  rw [if_neg e9] at h
  have k13 := e9
  rcases Classical.em (v1 = 12) with e9 | e9
  · rw [if_pos e9] at h
    refine lv_tableIn (off := 168) (tgt := 174) B.1 B.2.1 dX16_told_6 (by rw [i32_toInt g1, e9]; decide) (by rw [i32_toInt g1, e9]; decide) (by rw [i32_toInt g1, e9]; rfl) (by decide) ?_
    exact a_X16_told_174 K hQ hX _ h hGσ21 hS _ _ _ hH (lv_sub (l' := [(0, .ref rm)]) hl [0] rfl) hc
  rw [if_neg e9] at h
  have k14 := e9
  rcases Classical.em (v1 = 13) with e9 | e9
  · rw [if_pos e9] at h
    refine lv_tableIn (off := 173) (tgt := 179) B.1 B.2.1 dX16_told_6 (by rw [i32_toInt g1, e9]; decide) (by rw [i32_toInt g1, e9]; decide) (by rw [i32_toInt g1, e9]; rfl) (by decide) ?_
    exact a_X16_told_179 K hQ hX _ h hGσ21 hS _ _ _ hH (lv_sub (l' := [(0, .ref rm)]) hl [0] rfl) hc
  rw [if_neg e9] at h
  have k15 := e9
  rcases Classical.em (v1 = 14) with e9 | e9
  · rw [if_pos e9] at h
    refine lv_tableIn (off := 192) (tgt := 198) B.1 B.2.1 dX16_told_6 (by rw [i32_toInt g1, e9]; decide) (by rw [i32_toInt g1, e9]; decide) (by rw [i32_toInt g1, e9]; rfl) (by decide) ?_
    exact a_X16_told_198 K hQ hX _ h hGσ21 hS _ _ _ hH (lv_sub (l' := [(0, .ref rm)]) hl [0] rfl) hc
  rw [if_neg e9] at h
  have k16 := e9
  rcases (show (v1 < 0 ∨ 14 < v1) ∨ False by omega) with e9 | e9
  · refine lv_tableOut (tgt := 203) B.1 B.2.1 dX16_told_6 (by rw [i32_toInt g1]; exact e9) (by decide) ?_
    exact a_X16_told_203 K hQ hX _ h hGσ21 hS _ _ _ hH (lv_sub (l' := [(0, .ref rm)]) hl [0] rfl) hc
  exact e9.elim
theorem ok_X16_told (hT : Tys cA tys) {Q : Sg → Int → Prop} {X : Sg → String → Prop} (σ : Sg) (v1 : Int) (g1 : rng v1) (hG : RG σ) (hS : Shp dm ra jx rm σ) (h : wp_X16_told ra jx rm v1 σ Q X) : Ok l D cA tys A yX16_told (.code yX16_told cX16_told 2 (some .int)) 1 23 [.ref rm, .int (i32 v1)] σ (QnI dm ra jx rm Q) (QxR dm ra jx rm X) := by
  unfold wp_X16_told at h
  exact ok_I (plainFor_of_name (by decide)) (by exact Nat.le_of_ble_eq_true rfl) hT (fun p e R s m args below meth c K hQ hX H locs ls hH hl hc => a_X16_told_0 K hQ hX σ v1 g1 h hG hS H locs ls hH (lv_sub (l' := [(0, .ref rm), (1, .int (i32 v1))]) hl [0, 1] rfl) hc)
theorem dX16_turn_0 : decode cX16_turn 0 = .ok (.aload_n 0, 1) := by decide +kernel
theorem dX16_turn_1 : decode cX16_turn 1 = .ok (.aload_n 0, 1) := by decide +kernel
theorem dX16_turn_2 : decode cX16_turn 2 = .ok (.getfield 852, 3) := by decide +kernel
theorem dX16_turn_5 : decode cX16_turn 5 = .ok (.ifCond .eq 10, 3) := by decide +kernel
theorem dX16_turn_8 : decode cX16_turn 8 = .ok (.aload_n 0, 1) := by decide +kernel
theorem dX16_turn_9 : decode cX16_turn 9 = .ok (.getfield 688, 3) := by decide +kernel
theorem dX16_turn_12 : decode cX16_turn 12 = .ok (.ifCond .eq 7, 3) := by decide +kernel
theorem dX16_turn_15 : decode cX16_turn 15 = .ok (.iconst 1, 1) := by decide +kernel
theorem dX16_turn_16 : decode cX16_turn 16 = .ok (.goto 20, 3) := by decide +kernel
theorem dX16_turn_19 : decode cX16_turn 19 = .ok (.iload_n 1, 1) := by decide +kernel
theorem dX16_turn_20 : decode cX16_turn 20 = .ok (.i2l, 1) := by decide +kernel
theorem dX16_turn_21 : decode cX16_turn 21 = .ok (.lconst 1, 1) := by decide +kernel
theorem dX16_turn_22 : decode cX16_turn 22 = .ok (.ldc2_w 989, 3) := by decide +kernel
theorem dX16_turn_25 : decode cX16_turn 25 = .ok (.invokestatic 45, 3) := by decide +kernel
theorem dX16_turn_28 : decode cX16_turn 28 = .ok (.ifCond .ne 7, 3) := by decide +kernel
theorem dX16_turn_31 : decode cX16_turn 31 = .ok (.iconst 2, 1) := by decide +kernel
theorem dX16_turn_32 : decode cX16_turn 32 = .ok (.goto 4, 3) := by decide +kernel
theorem dX16_turn_35 : decode cX16_turn 35 = .ok (.iconst 0, 1) := by decide +kernel
theorem dX16_turn_36 : decode cX16_turn 36 = .ok (.putfield 1, 3) := by decide +kernel
theorem dX16_turn_39 : decode cX16_turn 39 = .ok (.iconst 0, 1) := by decide +kernel
theorem dX16_turn_40 : decode cX16_turn 40 = .ok (.istore_n 2, 1) := by decide +kernel
theorem dX16_turn_41 : decode cX16_turn 41 = .ok (.iconst 0, 1) := by decide +kernel
theorem dX16_turn_42 : decode cX16_turn 42 = .ok (.istore_n 3, 1) := by decide +kernel
theorem dX16_turn_43 : decode cX16_turn 43 = .ok (.iload_n 3, 1) := by decide +kernel
theorem dX16_turn_44 : decode cX16_turn 44 = .ok (.iload_n 1, 1) := by decide +kernel
theorem dX16_turn_45 : decode cX16_turn 45 = .ok (.if_icmp .ge 37, 3) := by decide +kernel
theorem dX16_turn_48 : decode cX16_turn 48 = .ok (.aload_n 0, 1) := by decide +kernel
theorem dX16_turn_49 : decode cX16_turn 49 = .ok (.getfield 1, 3) := by decide +kernel
theorem dX16_turn_52 : decode cX16_turn 52 = .ok (.ifCond .ne 30, 3) := by decide +kernel
theorem dX16_turn_55 : decode cX16_turn 55 = .ok (.aload_n 0, 1) := by decide +kernel
theorem dX16_turn_56 : decode cX16_turn 56 = .ok (.getfield 831, 3) := by decide +kernel
theorem dX16_turn_59 : decode cX16_turn 59 = .ok (.ifCond .ne 23, 3) := by decide +kernel
theorem dX16_turn_62 : decode cX16_turn 62 = .ok (.aload_n 0, 1) := by decide +kernel
theorem dX16_turn_63 : decode cX16_turn 63 = .ok (.getfield 688, 3) := by decide +kernel
theorem dX16_turn_66 : decode cX16_turn 66 = .ok (.ifCond .ne 16, 3) := by decide +kernel
theorem dX16_turn_69 : decode cX16_turn 69 = .ok (.iload_n 2, 1) := by decide +kernel
theorem dX16_turn_70 : decode cX16_turn 70 = .ok (.aload_n 0, 1) := by decide +kernel
theorem dX16_turn_71 : decode cX16_turn 71 = .ok (.invokevirtual 991, 3) := by decide +kernel
theorem dX16_turn_74 : decode cX16_turn 74 = .ok (.iadd, 1) := by decide +kernel
theorem dX16_turn_75 : decode cX16_turn 75 = .ok (.istore_n 2, 1) := by decide +kernel
theorem dX16_turn_76 : decode cX16_turn 76 = .ok (.iinc 3 1, 3) := by decide +kernel
theorem dX16_turn_79 : decode cX16_turn 79 = .ok (.goto (-36), 3) := by decide +kernel
theorem dX16_turn_82 : decode cX16_turn 82 = .ok (.iload_n 2, 1) := by decide +kernel
theorem dX16_turn_83 : decode cX16_turn 83 = .ok (.ireturn, 1) := by decide +kernel
set_option maxRecDepth 20000 in
theorem a_X16_turn_82 {Q : Sg → Int → Prop} {X : Sg → String → Prop} (K : MC R p s m args c cX16_turn 4 RX16 D cA tys A n0 s0 9 250 []) (hQ : HQI p l e R s m args below meth c cX16_turn D cA A n0 s0 QM dm ra jx rm Q) (hX : HX p l e R s m args below meth c 4 D cA A n0 s0 QM dm ra jx rm X) : ∀ (σ : Sg) (v2 : Int) (g2 : rng v2), w_X16_turn_82 ra jx rm Q X σ v2 → RG σ → Shp dm ra jx rm σ → JJ p l e R s m args below meth c 4 D cA A n0 s0 QM σ 82 [(0, .ref rm), (2, .int (i32 v2))] [] := by
  intro σ v2 g2 h hGσ hS H locs ls hH hl hc
  have B := K.1
  unfold w_X16_turn_82 at h
  refine lv_iload_n B.1 B.2.1 dX16_turn_82 rfl (lv_at hl 1 rfl) ?_
  exact hQ _ _ _ _ _ _ g2 dX16_turn_83 hH hc h hGσ hS
set_option maxRecDepth 20000 in
theorem a_X16_turn_69 {Q : Sg → Int → Prop} {X : Sg → String → Prop} (K : MC R p s m args c cX16_turn 4 RX16 D cA tys A n0 s0 9 250 []) (hQ : HQI p l e R s m args below meth c cX16_turn D cA A n0 s0 QM dm ra jx rm Q) (hX : HX p l e R s m args below meth c 4 D cA A n0 s0 QM dm ra jx rm X) {K43 : Sg → Int → Int → Int → Prop} (hK43 : ∀ (σ : Sg) (v1 : Int) (v2 : Int) (v3 : Int) (g1 : rng v1) (g2 : rng v2) (g3 : rng v3), K43 σ v1 v2 v3 → RG σ → Shp dm ra jx rm σ → JJ p l e R s m args below meth c 4 D cA A n0 s0 QM σ 43 [(0, .ref rm), (1, .int (i32 v1)), (2, .int (i32 v2)), (3, .int (i32 v3))] []) : ∀ (σ : Sg) (v1 : Int) (v2 : Int) (v3 : Int) (g1 : rng v1) (g2 : rng v2) (g3 : rng v3), w_X16_turn_69 ra jx rm K43 Q X σ v1 v2 v3 → RG σ → Shp dm ra jx rm σ → JJ p l e R s m args below meth c 4 D cA A n0 s0 QM σ 69 [(0, .ref rm), (1, .int (i32 v1)), (2, .int (i32 v2)), (3, .int (i32 v3))] [] := by
  intro σ v1 v2 v3 g1 g2 g3 h hGσ hS H locs ls hH hl hc
  have B := K.1
  unfold w_X16_turn_69 at h
  refine lv_iload_n B.1 B.2.1 dX16_turn_69 rfl (lv_at hl 2 rfl) ?_
  refine lv_aload_n B.1 B.2.1 dX16_turn_70 rfl (lv_at hl 0 rfl) ?_
  refine c_VH B hH hl hc K.2.2.1 (C := RX16) (T := TX16) (N := 123) (ci := 16) (As := []) (ok_X16_oneTurn K.2.1 σ hGσ hS h) wc_X16_991 0 hd_X16_oneTurn ⟨Nat.le_trans (Nat.le_of_ble_eq_true rfl) K.2.2.2.1, Nat.le_trans (Nat.le_of_ble_eq_true rfl) K.2.2.2.2.1⟩ hS.1.1 hS.1.2 (by decide) rfl rfl (rest := [.int (i32 v2)]) rfl (Nat.le_of_ble_eq_true rfl) dX16_turn_71 (fun σ11 w hq => ?_) (fun σ9 E9 hx9 => hX σ9 E9 _ _ _ (tb_out K.2.2.2.2.2 rfl) hx9.1 hx9.2.1 hx9.2.2)
  obtain ⟨r12, rfl, gr12, h, hGσ11, hS⟩ := hq
  intro H locs ls hH hl hc
  refine W.eq (g2 := F0 m 74 ls [.int (i32 r12), .int (i32 v2)]) (rfl) ?_
  try dsimp only at h
  obtain ⟨q1, h⟩ := h
  refine lv_iadd B.1 B.2.1 dX16_turn_74 ?_
  rw [i32_add]
  refine lv_istore_n (lv' := [(2, .int (i32 (v2 + r12))), (0, .ref rm), (1, .int (i32 v1)), (3, .int (i32 v3))]) B.1 B.2.1 dX16_turn_75 rfl hl (by decide) rfl (fun ls hl => ?_)
  obtain ⟨q2, h⟩ := h
  refine lv_iinc (k := 3) (v := i32 (v3 + 1)) (lv' := [(3, .int (i32 (v3 + 1))), (2, .int (i32 (v2 + r12))), (0, .ref rm), (1, .int (i32 v1))]) B.1 B.2.1 dX16_turn_76 hl rfl (i32_add _ _) (by decide) rfl (fun ls hl => ?_)
  refine lv_goto (tgt := 43) B.1 B.2.1 dX16_turn_79 (by decide) ?_
  exact hK43 _ _ _ _ g1 q1 q2 h hGσ11 hS _ _ _ hH (lv_sub (l' := [(0, .ref rm), (1, .int (i32 v1)), (2, .int (i32 (v2 + r12))), (3, .int (i32 (v3 + 1)))]) hl [2, 3, 1, 0] rfl) hc
set_option maxRecDepth 20000 in
theorem a_X16_turn_62 {Q : Sg → Int → Prop} {X : Sg → String → Prop} (K : MC R p s m args c cX16_turn 4 RX16 D cA tys A n0 s0 9 250 []) (hQ : HQI p l e R s m args below meth c cX16_turn D cA A n0 s0 QM dm ra jx rm Q) (hX : HX p l e R s m args below meth c 4 D cA A n0 s0 QM dm ra jx rm X) {K43 : Sg → Int → Int → Int → Prop} (hK43 : ∀ (σ : Sg) (v1 : Int) (v2 : Int) (v3 : Int) (g1 : rng v1) (g2 : rng v2) (g3 : rng v3), K43 σ v1 v2 v3 → RG σ → Shp dm ra jx rm σ → JJ p l e R s m args below meth c 4 D cA A n0 s0 QM σ 43 [(0, .ref rm), (1, .int (i32 v1)), (2, .int (i32 v2)), (3, .int (i32 v3))] []) : ∀ (σ : Sg) (v1 : Int) (v2 : Int) (v3 : Int) (g1 : rng v1) (g2 : rng v2) (g3 : rng v3), w_X16_turn_62 ra jx rm K43 Q X σ v1 v2 v3 → RG σ → Shp dm ra jx rm σ → JJ p l e R s m args below meth c 4 D cA A n0 s0 QM σ 62 [(0, .ref rm), (1, .int (i32 v1)), (2, .int (i32 v2)), (3, .int (i32 v3))] [] := by
  intro σ v1 v2 v3 g1 g2 g3 h hGσ hS H locs ls hH hl hc
  have B := K.1
  unfold w_X16_turn_62 at h
  refine lv_aload_n B.1 B.2.1 dX16_turn_62 rfl (lv_at hl 0 rfl) ?_
  refine r_geti B hH hS 32 (by decide) wf_X16_688 rfl rfl dX16_turn_63 ?_
  refine lv_if_ne (tgt := 82) B.1 B.2.1 dX16_turn_66 (by decide) (fun h9 => ?_) (fun h9 => ?_)
  · rw [if_pos (fun q => h9 ((z_eq (hGσ _ _)).mpr q))] at h
    exact a_X16_turn_82 K hQ hX _ _ g2 h hGσ hS _ _ _ hH (lv_sub (l' := [(0, .ref rm), (2, .int (i32 v2))]) hl [0, 2] rfl) hc
  · rw [if_neg (fun q => q ((z_eq (hGσ _ _)).mp h9))] at h
    exact a_X16_turn_69 K hQ hX hK43 _ _ _ _ g1 g2 g3 h hGσ hS _ _ _ hH (lv_sub (l' := [(0, .ref rm), (1, .int (i32 v1)), (2, .int (i32 v2)), (3, .int (i32 v3))]) hl [0, 1, 2, 3] rfl) hc
set_option maxRecDepth 20000 in
theorem a_X16_turn_55 {Q : Sg → Int → Prop} {X : Sg → String → Prop} (K : MC R p s m args c cX16_turn 4 RX16 D cA tys A n0 s0 9 250 []) (hQ : HQI p l e R s m args below meth c cX16_turn D cA A n0 s0 QM dm ra jx rm Q) (hX : HX p l e R s m args below meth c 4 D cA A n0 s0 QM dm ra jx rm X) {K43 : Sg → Int → Int → Int → Prop} (hK43 : ∀ (σ : Sg) (v1 : Int) (v2 : Int) (v3 : Int) (g1 : rng v1) (g2 : rng v2) (g3 : rng v3), K43 σ v1 v2 v3 → RG σ → Shp dm ra jx rm σ → JJ p l e R s m args below meth c 4 D cA A n0 s0 QM σ 43 [(0, .ref rm), (1, .int (i32 v1)), (2, .int (i32 v2)), (3, .int (i32 v3))] []) : ∀ (σ : Sg) (v1 : Int) (v2 : Int) (v3 : Int) (g1 : rng v1) (g2 : rng v2) (g3 : rng v3), w_X16_turn_55 ra jx rm K43 Q X σ v1 v2 v3 → RG σ → Shp dm ra jx rm σ → JJ p l e R s m args below meth c 4 D cA A n0 s0 QM σ 55 [(0, .ref rm), (1, .int (i32 v1)), (2, .int (i32 v2)), (3, .int (i32 v3))] [] := by
  intro σ v1 v2 v3 g1 g2 g3 h hGσ hS H locs ls hH hl hc
  have B := K.1
  unfold w_X16_turn_55 at h
  refine lv_aload_n B.1 B.2.1 dX16_turn_55 rfl (lv_at hl 0 rfl) ?_
  refine r_geti B hH hS 31 (by decide) wf_X16_831 rfl rfl dX16_turn_56 ?_
  refine lv_if_ne (tgt := 82) B.1 B.2.1 dX16_turn_59 (by decide) (fun h9 => ?_) (fun h9 => ?_)
  · rw [if_pos (fun q => h9 ((z_eq (hGσ _ _)).mpr q))] at h
    exact a_X16_turn_82 K hQ hX _ _ g2 h hGσ hS _ _ _ hH (lv_sub (l' := [(0, .ref rm), (2, .int (i32 v2))]) hl [0, 2] rfl) hc
  · rw [if_neg (fun q => q ((z_eq (hGσ _ _)).mp h9))] at h
    exact a_X16_turn_62 K hQ hX hK43 _ _ _ _ g1 g2 g3 h hGσ hS _ _ _ hH (lv_sub (l' := [(0, .ref rm), (1, .int (i32 v1)), (2, .int (i32 v2)), (3, .int (i32 v3))]) hl [0, 1, 2, 3] rfl) hc
set_option maxRecDepth 20000 in
theorem a_X16_turn_48 {Q : Sg → Int → Prop} {X : Sg → String → Prop} (K : MC R p s m args c cX16_turn 4 RX16 D cA tys A n0 s0 9 250 []) (hQ : HQI p l e R s m args below meth c cX16_turn D cA A n0 s0 QM dm ra jx rm Q) (hX : HX p l e R s m args below meth c 4 D cA A n0 s0 QM dm ra jx rm X) {K43 : Sg → Int → Int → Int → Prop} (hK43 : ∀ (σ : Sg) (v1 : Int) (v2 : Int) (v3 : Int) (g1 : rng v1) (g2 : rng v2) (g3 : rng v3), K43 σ v1 v2 v3 → RG σ → Shp dm ra jx rm σ → JJ p l e R s m args below meth c 4 D cA A n0 s0 QM σ 43 [(0, .ref rm), (1, .int (i32 v1)), (2, .int (i32 v2)), (3, .int (i32 v3))] []) : ∀ (σ : Sg) (v1 : Int) (v2 : Int) (v3 : Int) (g1 : rng v1) (g2 : rng v2) (g3 : rng v3), w_X16_turn_48 ra jx rm K43 Q X σ v1 v2 v3 → RG σ → Shp dm ra jx rm σ → JJ p l e R s m args below meth c 4 D cA A n0 s0 QM σ 48 [(0, .ref rm), (1, .int (i32 v1)), (2, .int (i32 v2)), (3, .int (i32 v3))] [] := by
  intro σ v1 v2 v3 g1 g2 g3 h hGσ hS H locs ls hH hl hc
  have B := K.1
  unfold w_X16_turn_48 at h
  refine lv_aload_n B.1 B.2.1 dX16_turn_48 rfl (lv_at hl 0 rfl) ?_
  refine r_geti B hH hS 0 (by decide) wf_X16_1 rfl rfl dX16_turn_49 ?_
  refine lv_if_ne (tgt := 82) B.1 B.2.1 dX16_turn_52 (by decide) (fun h9 => ?_) (fun h9 => ?_)
  · rw [if_pos (fun q => h9 ((z_eq (hGσ _ _)).mpr q))] at h
    exact a_X16_turn_82 K hQ hX _ _ g2 h hGσ hS _ _ _ hH (lv_sub (l' := [(0, .ref rm), (2, .int (i32 v2))]) hl [0, 2] rfl) hc
  · rw [if_neg (fun q => q ((z_eq (hGσ _ _)).mp h9))] at h
    exact a_X16_turn_55 K hQ hX hK43 _ _ _ _ g1 g2 g3 h hGσ hS _ _ _ hH (lv_sub (l' := [(0, .ref rm), (1, .int (i32 v1)), (2, .int (i32 v2)), (3, .int (i32 v3))]) hl [0, 1, 2, 3] rfl) hc
set_option maxRecDepth 20000 in
theorem a_X16_turn_43 {Q : Sg → Int → Prop} {X : Sg → String → Prop} (K : MC R p s m args c cX16_turn 4 RX16 D cA tys A n0 s0 9 250 []) (hQ : HQI p l e R s m args below meth c cX16_turn D cA A n0 s0 QM dm ra jx rm Q) (hX : HX p l e R s m args below meth c 4 D cA A n0 s0 QM dm ra jx rm X) {K43 : Sg → Int → Int → Int → Prop} (hK43 : ∀ (σ : Sg) (v1 : Int) (v2 : Int) (v3 : Int) (g1 : rng v1) (g2 : rng v2) (g3 : rng v3), K43 σ v1 v2 v3 → RG σ → Shp dm ra jx rm σ → JJ p l e R s m args below meth c 4 D cA A n0 s0 QM σ 43 [(0, .ref rm), (1, .int (i32 v1)), (2, .int (i32 v2)), (3, .int (i32 v3))] []) : ∀ (σ : Sg) (v1 : Int) (v2 : Int) (v3 : Int) (g1 : rng v1) (g2 : rng v2) (g3 : rng v3), w_X16_turn_43 ra jx rm K43 Q X σ v1 v2 v3 → RG σ → Shp dm ra jx rm σ → JJ p l e R s m args below meth c 4 D cA A n0 s0 QM σ 43 [(0, .ref rm), (1, .int (i32 v1)), (2, .int (i32 v2)), (3, .int (i32 v3))] [] := by
  intro σ v1 v2 v3 g1 g2 g3 h hGσ hS H locs ls hH hl hc
  have B := K.1
  unfold w_X16_turn_43 at h
  refine lv_iload_n B.1 B.2.1 dX16_turn_43 rfl (lv_at hl 3 rfl) ?_
  refine lv_iload_n B.1 B.2.1 dX16_turn_44 rfl (lv_at hl 1 rfl) ?_
  refine lv_icmp_ge (tgt := 82) B.1 B.2.1 dX16_turn_45 (by decide) (fun h9 => ?_) (fun h9 => ?_)
  · rw [if_pos ((i32_le g1 g3).mp h9)] at h
    exact a_X16_turn_82 K hQ hX _ _ g2 h hGσ hS _ _ _ hH (lv_sub (l' := [(0, .ref rm), (2, .int (i32 v2))]) hl [0, 2] rfl) hc
  · rw [if_neg (fun q => h9 ((i32_le g1 g3).mpr q))] at h
    exact a_X16_turn_48 K hQ hX hK43 _ _ _ _ g1 g2 g3 h hGσ hS _ _ _ hH (lv_sub (l' := [(0, .ref rm), (1, .int (i32 v1)), (2, .int (i32 v2)), (3, .int (i32 v3))]) hl [0, 1, 2, 3] rfl) hc
theorem al_X16_turn_43 {Q : Sg → Int → Prop} {X : Sg → String → Prop} (K : MC R p s m args c cX16_turn 4 RX16 D cA tys A n0 s0 9 250 []) (hQ : HQI p l e R s m args below meth c cX16_turn D cA A n0 s0 QM dm ra jx rm Q) (hX : HX p l e R s m args below meth c 4 D cA A n0 s0 QM dm ra jx rm X) : ∀ (n : Nat), ∀ (σ : Sg) (v1 : Int) (v2 : Int) (v3 : Int) (g1 : rng v1) (g2 : rng v2) (g3 : rng v3), wl_X16_turn_43 ra jx rm Q X n σ v1 v2 v3 → RG σ → Shp dm ra jx rm σ → JJ p l e R s m args below meth c 4 D cA A n0 s0 QM σ 43 [(0, .ref rm), (1, .int (i32 v1)), (2, .int (i32 v2)), (3, .int (i32 v3))] [] := by
  intro n
  induction n with
  | zero => intro σ v1 v2 v3 g1 g2 g3 h; exact h.elim
  | succ n ih => exact fun σ v1 v2 v3 g1 g2 g3 h => a_X16_turn_43 K hQ hX ih σ v1 v2 v3 g1 g2 g3 h
set_option maxRecDepth 20000 in
theorem a_X16_turn_36 {Q : Sg → Int → Prop} {X : Sg → String → Prop} (K : MC R p s m args c cX16_turn 4 RX16 D cA tys A n0 s0 9 250 []) (hQ : HQI p l e R s m args below meth c cX16_turn D cA A n0 s0 QM dm ra jx rm Q) (hX : HX p l e R s m args below meth c 4 D cA A n0 s0 QM dm ra jx rm X) : ∀ (σ : Sg) (v1 : Int) (u0 : Int) (g1 : rng v1) (gu0 : rng u0), w_X16_turn_36 ra jx rm Q X σ v1 u0 → RG σ → Shp dm ra jx rm σ → JJ p l e R s m args below meth c 4 D cA A n0 s0 QM σ 36 [(0, .ref rm), (1, .int (i32 v1))] [.int (i32 u0), .ref rm] := by
  intro σ v1 u0 g1 gu0 h hGσ hS H locs ls hH hl hc
  have B := K.1
  unfold w_X16_turn_36 at h
  obtain ⟨σ13, eσ13⟩ : ∃ z, z = pI σ rm 0 u0 := ⟨_, rfl⟩
  have h := h σ13 eσ13
  refine r_puti B hH hS 0 (ty := .int) (by decide) wf_X16_1 rfl rfl rfl rfl rfl rfl dX16_turn_36 (fun H locs hH => ?_)
  have hH : Hd D cA A s (pI σ rm 0 u0) H locs := hH
  rw [← eσ13] at hH
  have hGσ13 : RG σ13 := by rw [eσ13]; exact hGσ.pI gu0
  have hS : Shp dm ra jx rm σ13 := by rw [eσ13]; exact hS
  have hc : CB n0 s0 σ13 := by rw [eσ13]; exact hc
  rw [show gc σ = gc σ13 by rw [eσ13], show gs σ = gs σ13 by rw [eσ13]]
  refine lv_iconst (v := i32 0) B.1 B.2.1 dX16_turn_39 (by decide) ?_
  refine lv_istore_n (lv' := [(2, .int (i32 0)), (0, .ref rm), (1, .int (i32 v1))]) B.1 B.2.1 dX16_turn_40 rfl hl (by decide) rfl (fun ls hl => ?_)
  refine lv_iconst (v := i32 0) B.1 B.2.1 dX16_turn_41 (by decide) ?_
  refine lv_istore_n (lv' := [(3, .int (i32 0)), (2, .int (i32 0)), (0, .ref rm), (1, .int (i32 v1))]) B.1 B.2.1 dX16_turn_42 rfl hl (by decide) rfl (fun ls hl => ?_)
  obtain ⟨n9, h⟩ := h
  exact al_X16_turn_43 K hQ hX n9 _ _ _ _ g1 (by unfold rng; omega) (by unfold rng; omega) h hGσ13 hS _ _ _ hH (lv_sub (l' := [(0, .ref rm), (1, .int (i32 v1)), (2, .int (i32 0)), (3, .int (i32 0))]) hl [2, 3, 1, 0] rfl) hc
set_option maxRecDepth 20000 in
theorem a_X16_turn_15 {Q : Sg → Int → Prop} {X : Sg → String → Prop} (K : MC R p s m args c cX16_turn 4 RX16 D cA tys A n0 s0 9 250 []) (hQ : HQI p l e R s m args below meth c cX16_turn D cA A n0 s0 QM dm ra jx rm Q) (hX : HX p l e R s m args below meth c 4 D cA A n0 s0 QM dm ra jx rm X) : ∀ (σ : Sg) (v1 : Int) (g1 : rng v1), w_X16_turn_15 ra jx rm Q X σ v1 → RG σ → Shp dm ra jx rm σ → JJ p l e R s m args below meth c 4 D cA A n0 s0 QM σ 15 [(0, .ref rm), (1, .int (i32 v1))] [.ref rm] := by
  intro σ v1 g1 h hGσ hS H locs ls hH hl hc
  have B := K.1
  unfold w_X16_turn_15 at h
  refine lv_iconst (v := i32 1) B.1 B.2.1 dX16_turn_15 (by decide) ?_
  refine lv_goto (tgt := 36) B.1 B.2.1 dX16_turn_16 (by decide) ?_
  exact a_X16_turn_36 K hQ hX _ _ _ g1 (by unfold rng; omega) h hGσ hS _ _ _ hH (lv_sub (l' := [(0, .ref rm), (1, .int (i32 v1))]) hl [0, 1] rfl) hc
set_option maxRecDepth 20000 in
theorem a_X16_turn_35 {Q : Sg → Int → Prop} {X : Sg → String → Prop} (K : MC R p s m args c cX16_turn 4 RX16 D cA tys A n0 s0 9 250 []) (hQ : HQI p l e R s m args below meth c cX16_turn D cA A n0 s0 QM dm ra jx rm Q) (hX : HX p l e R s m args below meth c 4 D cA A n0 s0 QM dm ra jx rm X) : ∀ (σ : Sg) (v1 : Int) (g1 : rng v1), w_X16_turn_35 ra jx rm Q X σ v1 → RG σ → Shp dm ra jx rm σ → JJ p l e R s m args below meth c 4 D cA A n0 s0 QM σ 35 [(0, .ref rm), (1, .int (i32 v1))] [.ref rm] := by
  intro σ v1 g1 h hGσ hS H locs ls hH hl hc
  have B := K.1
  unfold w_X16_turn_35 at h
  refine lv_iconst (v := i32 0) B.1 B.2.1 dX16_turn_35 (by decide) ?_
  exact a_X16_turn_36 K hQ hX _ _ _ g1 (by unfold rng; omega) h hGσ hS _ _ _ hH (lv_sub (l' := [(0, .ref rm), (1, .int (i32 v1))]) hl [0, 1] rfl) hc
set_option maxRecDepth 20000 in
theorem a_X16_turn_31 {Q : Sg → Int → Prop} {X : Sg → String → Prop} (K : MC R p s m args c cX16_turn 4 RX16 D cA tys A n0 s0 9 250 []) (hQ : HQI p l e R s m args below meth c cX16_turn D cA A n0 s0 QM dm ra jx rm Q) (hX : HX p l e R s m args below meth c 4 D cA A n0 s0 QM dm ra jx rm X) : ∀ (σ : Sg) (v1 : Int) (g1 : rng v1), w_X16_turn_31 ra jx rm Q X σ v1 → RG σ → Shp dm ra jx rm σ → JJ p l e R s m args below meth c 4 D cA A n0 s0 QM σ 31 [(0, .ref rm), (1, .int (i32 v1))] [.ref rm] := by
  intro σ v1 g1 h hGσ hS H locs ls hH hl hc
  have B := K.1
  unfold w_X16_turn_31 at h
  refine lv_iconst (v := i32 2) B.1 B.2.1 dX16_turn_31 (by decide) ?_
  refine lv_goto (tgt := 36) B.1 B.2.1 dX16_turn_32 (by decide) ?_
  exact a_X16_turn_36 K hQ hX _ _ _ g1 (by unfold rng; omega) h hGσ hS _ _ _ hH (lv_sub (l' := [(0, .ref rm), (1, .int (i32 v1))]) hl [0, 1] rfl) hc
set_option maxRecDepth 20000 in
theorem a_X16_turn_19 {Q : Sg → Int → Prop} {X : Sg → String → Prop} (K : MC R p s m args c cX16_turn 4 RX16 D cA tys A n0 s0 9 250 []) (hQ : HQI p l e R s m args below meth c cX16_turn D cA A n0 s0 QM dm ra jx rm Q) (hX : HX p l e R s m args below meth c 4 D cA A n0 s0 QM dm ra jx rm X) : ∀ (σ : Sg) (v1 : Int) (g1 : rng v1), w_X16_turn_19 ra jx rm Q X σ v1 → RG σ → Shp dm ra jx rm σ → JJ p l e R s m args below meth c 4 D cA A n0 s0 QM σ 19 [(0, .ref rm), (1, .int (i32 v1))] [.ref rm] := by
  intro σ v1 g1 h hGσ hS H locs ls hH hl hc
  have B := K.1
  unfold w_X16_turn_19 at h
  refine lv_iload_n B.1 B.2.1 dX16_turn_19 rfl (lv_at hl 1 rfl) ?_
  refine lv_i2l B.1 B.2.1 dX16_turn_20 (i32_i64 g1) ?_
  refine lv_lconst (v := 1) B.1 B.2.1 dX16_turn_21 (by decide) ?_
  refine lv_ldc2 B.1 B.2.1 B.2.2.1 (B.2.2.2.1 _ (wk_X16_989)) dX16_turn_22 ?_
  refine c_S B hH hl hc K.2.2.1 (As := [.long (Int64.ofInt v1), .long 1, .long 5000]) (ok_X16_within K.2.1 σ (Int64.ofInt v1) 1 5000 hGσ hS h) wc_X16_45 3 hd_X16_within ⟨Nat.le_trans (Nat.le_of_ble_eq_true rfl) K.2.2.2.1, Nat.le_trans (Nat.le_of_ble_eq_true rfl) K.2.2.2.2.1⟩ rfl (rest := [.ref rm]) rfl (Nat.le_of_ble_eq_true rfl) dX16_turn_25 (fun σ14 w hq => ?_) (fun σ9 E9 hx9 => hX σ9 E9 _ _ _ (tb_out K.2.2.2.2.2 rfl) hx9.1 hx9.2.1 hx9.2.2)
  obtain ⟨r15, rfl, ⟨gr15, gzr15⟩, h, hGσ14, hS⟩ := hq
  intro H locs ls hH hl hc
  refine W.eq (g2 := F0 m 28 ls [.int (i32 r15), .ref rm]) (rfl) ?_
  try dsimp only at h
  refine lv_if_ne (tgt := 35) B.1 B.2.1 dX16_turn_28 (by decide) (fun h9 => ?_) (fun h9 => ?_)
  · rw [if_pos (fun q => h9 ((z_eq gr15).mpr q))] at h
    exact a_X16_turn_35 K hQ hX _ _ g1 h hGσ14 hS _ _ _ hH (lv_sub (l' := [(0, .ref rm), (1, .int (i32 v1))]) hl [0, 1] rfl) hc
  · rw [if_neg (fun q => q ((z_eq gr15).mp h9))] at h
    exact a_X16_turn_31 K hQ hX _ _ g1 h hGσ14 hS _ _ _ hH (lv_sub (l' := [(0, .ref rm), (1, .int (i32 v1))]) hl [0, 1] rfl) hc
set_option maxRecDepth 20000 in
theorem a_X16_turn_8 {Q : Sg → Int → Prop} {X : Sg → String → Prop} (K : MC R p s m args c cX16_turn 4 RX16 D cA tys A n0 s0 9 250 []) (hQ : HQI p l e R s m args below meth c cX16_turn D cA A n0 s0 QM dm ra jx rm Q) (hX : HX p l e R s m args below meth c 4 D cA A n0 s0 QM dm ra jx rm X) : ∀ (σ : Sg) (v1 : Int) (g1 : rng v1), w_X16_turn_8 ra jx rm Q X σ v1 → RG σ → Shp dm ra jx rm σ → JJ p l e R s m args below meth c 4 D cA A n0 s0 QM σ 8 [(0, .ref rm), (1, .int (i32 v1))] [.ref rm] := by
  intro σ v1 g1 h hGσ hS H locs ls hH hl hc
  have B := K.1
  unfold w_X16_turn_8 at h
  refine lv_aload_n B.1 B.2.1 dX16_turn_8 rfl (lv_at hl 0 rfl) ?_
  refine r_geti B hH hS 32 (by decide) wf_X16_688 rfl rfl dX16_turn_9 ?_
  refine lv_if_eq (tgt := 19) B.1 B.2.1 dX16_turn_12 (by decide) (fun h9 => ?_) (fun h9 => ?_)
  · rw [if_pos ((z_eq (hGσ _ _)).mp h9)] at h
    exact a_X16_turn_19 K hQ hX _ _ g1 h hGσ hS _ _ _ hH (lv_sub (l' := [(0, .ref rm), (1, .int (i32 v1))]) hl [0, 1] rfl) hc
  · rw [if_neg (fun q => h9 ((z_eq (hGσ _ _)).mpr q))] at h
    exact a_X16_turn_15 K hQ hX _ _ g1 h hGσ hS _ _ _ hH (lv_sub (l' := [(0, .ref rm), (1, .int (i32 v1))]) hl [0, 1] rfl) hc
set_option maxRecDepth 20000 in
theorem a_X16_turn_0 {Q : Sg → Int → Prop} {X : Sg → String → Prop} (K : MC R p s m args c cX16_turn 4 RX16 D cA tys A n0 s0 9 250 []) (hQ : HQI p l e R s m args below meth c cX16_turn D cA A n0 s0 QM dm ra jx rm Q) (hX : HX p l e R s m args below meth c 4 D cA A n0 s0 QM dm ra jx rm X) : ∀ (σ : Sg) (v1 : Int) (g1 : rng v1), w_X16_turn_0 ra jx rm Q X σ v1 → RG σ → Shp dm ra jx rm σ → JJ p l e R s m args below meth c 4 D cA A n0 s0 QM σ 0 [(0, .ref rm), (1, .int (i32 v1))] [] := by
  intro σ v1 g1 h hGσ hS H locs ls hH hl hc
  have B := K.1
  unfold w_X16_turn_0 at h
  refine lv_aload_n B.1 B.2.1 dX16_turn_0 rfl (lv_at hl 0 rfl) ?_
  refine lv_aload_n B.1 B.2.1 dX16_turn_1 rfl (lv_at hl 0 rfl) ?_
  refine r_geti B hH hS 30 (by decide) wf_X16_852 rfl rfl dX16_turn_2 ?_
  refine lv_if_eq (tgt := 15) B.1 B.2.1 dX16_turn_5 (by decide) (fun h9 => ?_) (fun h9 => ?_)
  · rw [if_pos ((z_eq (hGσ _ _)).mp h9)] at h
    exact a_X16_turn_15 K hQ hX _ _ g1 h hGσ hS _ _ _ hH (lv_sub (l' := [(0, .ref rm), (1, .int (i32 v1))]) hl [0, 1] rfl) hc
  · rw [if_neg (fun q => h9 ((z_eq (hGσ _ _)).mpr q))] at h
    exact a_X16_turn_8 K hQ hX _ _ g1 h hGσ hS _ _ _ hH (lv_sub (l' := [(0, .ref rm), (1, .int (i32 v1))]) hl [0, 1] rfl) hc
theorem ok_X16_turn (hT : Tys cA tys) {Q : Sg → Int → Prop} {X : Sg → String → Prop} (σ : Sg) (v1 : Int) (g1 : rng v1) (hG : RG σ) (hS : Shp dm ra jx rm σ) (h : wp_X16_turn ra jx rm v1 σ Q X) : Ok l D cA tys A yX16_turn (.code yX16_turn cX16_turn 4 (some .int)) 9 250 [.ref rm, .int (i32 v1)] σ (QnI dm ra jx rm Q) (QxR dm ra jx rm X) := by
  unfold wp_X16_turn at h
  exact ok_I (plainFor_of_name (by decide)) (by exact Nat.le_of_ble_eq_true rfl) hT (fun p e R s m args below meth c K hQ hX H locs ls hH hl hc => a_X16_turn_0 K hQ hX σ v1 g1 h hG hS H locs ls hH (lv_sub (l' := [(0, .ref rm), (1, .int (i32 v1))]) hl [0, 1] rfl) hc)
theorem dX16_visible_0 : decode cX16_visible 0 = .ok (.aload_n 0, 1) := by decide +kernel
theorem dX16_visible_1 : decode cX16_visible 1 = .ok (.aload_n 0, 1) := by decide +kernel
theorem dX16_visible_2 : decode cX16_visible 2 = .ok (.iload_n 1, 1) := by decide +kernel
theorem dX16_visible_3 : decode cX16_visible 3 = .ok (.invokevirtual 997, 3) := by decide +kernel
theorem dX16_visible_6 : decode cX16_visible 6 = .ok (.ifCond .eq 7, 3) := by decide +kernel
theorem dX16_visible_9 : decode cX16_visible 9 = .ok (.iconst 0, 1) := by decide +kernel
theorem dX16_visible_10 : decode cX16_visible 10 = .ok (.goto 4, 3) := by decide +kernel
theorem dX16_visible_13 : decode cX16_visible 13 = .ok (.iconst 1, 1) := by decide +kernel
theorem dX16_visible_14 : decode cX16_visible 14 = .ok (.putfield 1, 3) := by decide +kernel
theorem dX16_visible_17 : decode cX16_visible 17 = .ok (.aload_n 0, 1) := by decide +kernel
theorem dX16_visible_18 : decode cX16_visible 18 = .ok (.getfield 1, 3) := by decide +kernel
theorem dX16_visible_21 : decode cX16_visible 21 = .ok (.ifCond .le 7, 3) := by decide +kernel
theorem dX16_visible_24 : decode cX16_visible 24 = .ok (.iconst 0, 1) := by decide +kernel
theorem dX16_visible_25 : decode cX16_visible 25 = .ok (.goto 13, 3) := by decide +kernel
theorem dX16_visible_28 : decode cX16_visible 28 = .ok (.aload_n 0, 1) := by decide +kernel
theorem dX16_visible_29 : decode cX16_visible 29 = .ok (.getfield 667, 3) := by decide +kernel
theorem dX16_visible_32 : decode cX16_visible 32 = .ok (.iconst 3, 1) := by decide +kernel
theorem dX16_visible_33 : decode cX16_visible 33 = .ok (.iload_n 1, 1) := by decide +kernel
theorem dX16_visible_34 : decode cX16_visible 34 = .ok (.imul, 1) := by decide +kernel
theorem dX16_visible_35 : decode cX16_visible 35 = .ok (.iconst 2, 1) := by decide +kernel
theorem dX16_visible_36 : decode cX16_visible 36 = .ok (.iadd, 1) := by decide +kernel
theorem dX16_visible_37 : decode cX16_visible 37 = .ok (.iaload, 1) := by decide +kernel
theorem dX16_visible_38 : decode cX16_visible 38 = .ok (.ireturn, 1) := by decide +kernel
set_option maxRecDepth 20000 in
theorem a_X16_visible_38 {Q : Sg → Int → Prop} {X : Sg → String → Prop} (K : MC R p s m args c cX16_visible 2 RX16 D cA tys A n0 s0 2 46 []) (hQ : HQI p l e R s m args below meth c cX16_visible D cA A n0 s0 QM dm ra jx rm Q) (hX : HX p l e R s m args below meth c 2 D cA A n0 s0 QM dm ra jx rm X) : ∀ (σ : Sg) (u0 : Int) (gu0 : rng u0), w_X16_visible_38 ra jx rm Q X σ u0 → RG σ → Shp dm ra jx rm σ → JJ p l e R s m args below meth c 2 D cA A n0 s0 QM σ 38 [(0, .ref rm)] [.int (i32 u0)] := by
  intro σ u0 gu0 h hGσ hS H locs ls hH hl hc
  have B := K.1
  unfold w_X16_visible_38 at h
  exact hQ _ _ _ _ _ _ gu0 dX16_visible_38 hH hc h hGσ hS
set_option maxRecDepth 20000 in
theorem a_X16_visible_28 {Q : Sg → Int → Prop} {X : Sg → String → Prop} (K : MC R p s m args c cX16_visible 2 RX16 D cA tys A n0 s0 2 46 []) (hQ : HQI p l e R s m args below meth c cX16_visible D cA A n0 s0 QM dm ra jx rm Q) (hX : HX p l e R s m args below meth c 2 D cA A n0 s0 QM dm ra jx rm X) : ∀ (σ : Sg) (v1 : Int) (g1 : rng v1), w_X16_visible_28 ra jx rm Q X σ v1 → RG σ → Shp dm ra jx rm σ → JJ p l e R s m args below meth c 2 D cA A n0 s0 QM σ 28 [(0, .ref rm), (1, .int (i32 v1))] [] := by
  intro σ v1 g1 h hGσ hS H locs ls hH hl hc
  have B := K.1
  unfold w_X16_visible_28 at h
  refine lv_aload_n B.1 B.2.1 dX16_visible_28 rfl (lv_at hl 0 rfl) ?_
  refine r_arr B hH hS 89 (kd := 100) (n := 12) (by decide) (by decide) wf_X16_667 rfl rfl dX16_visible_29 ?_
  refine lv_iconst (v := i32 3) B.1 B.2.1 dX16_visible_32 (by decide) ?_
  refine lv_iload_n B.1 B.2.1 dX16_visible_33 rfl (lv_at hl 1 rfl) ?_
  obtain ⟨q1, h⟩ := h
  refine lv_imul B.1 B.2.1 dX16_visible_34 ?_
  rw [i32_mul]
  refine lv_iconst (v := i32 2) B.1 B.2.1 dX16_visible_35 (by decide) ?_
  obtain ⟨q2, h⟩ := h
  refine lv_iadd B.1 B.2.1 dX16_visible_36 ?_
  rw [i32_add]
  obtain ⟨q3, h⟩ := h
  refine x_iald B K.2.1 hH (hS.ar (k := 89) (kd := 100) (n := 12) (by decide)) (by decide) q3 dX16_visible_37 ?_
  exact a_X16_visible_38 K hQ hX _ _ (hGσ _ _) h hGσ hS _ _ _ hH (lv_sub (l' := [(0, .ref rm)]) hl [0] rfl) hc
set_option maxRecDepth 20000 in
theorem a_X16_visible_24 {Q : Sg → Int → Prop} {X : Sg → String → Prop} (K : MC R p s m args c cX16_visible 2 RX16 D cA tys A n0 s0 2 46 []) (hQ : HQI p l e R s m args below meth c cX16_visible D cA A n0 s0 QM dm ra jx rm Q) (hX : HX p l e R s m args below meth c 2 D cA A n0 s0 QM dm ra jx rm X) : ∀ (σ : Sg), w_X16_visible_24 ra jx rm Q X σ → RG σ → Shp dm ra jx rm σ → JJ p l e R s m args below meth c 2 D cA A n0 s0 QM σ 24 [(0, .ref rm)] [] := by
  intro σ h hGσ hS H locs ls hH hl hc
  have B := K.1
  unfold w_X16_visible_24 at h
  refine lv_iconst (v := i32 0) B.1 B.2.1 dX16_visible_24 (by decide) ?_
  refine lv_goto (tgt := 38) B.1 B.2.1 dX16_visible_25 (by decide) ?_
  exact a_X16_visible_38 K hQ hX _ _ (by unfold rng; omega) h hGσ hS _ _ _ hH (lv_sub (l' := [(0, .ref rm)]) hl [0] rfl) hc
set_option maxRecDepth 20000 in
theorem a_X16_visible_14 {Q : Sg → Int → Prop} {X : Sg → String → Prop} (K : MC R p s m args c cX16_visible 2 RX16 D cA tys A n0 s0 2 46 []) (hQ : HQI p l e R s m args below meth c cX16_visible D cA A n0 s0 QM dm ra jx rm Q) (hX : HX p l e R s m args below meth c 2 D cA A n0 s0 QM dm ra jx rm X) : ∀ (σ : Sg) (v1 : Int) (u0 : Int) (g1 : rng v1) (gu0 : rng u0), w_X16_visible_14 ra jx rm Q X σ v1 u0 → RG σ → Shp dm ra jx rm σ → JJ p l e R s m args below meth c 2 D cA A n0 s0 QM σ 14 [(0, .ref rm), (1, .int (i32 v1))] [.int (i32 u0), .ref rm] := by
  intro σ v1 u0 g1 gu0 h hGσ hS H locs ls hH hl hc
  have B := K.1
  unfold w_X16_visible_14 at h
  obtain ⟨σ7, eσ7⟩ : ∃ z, z = pI σ rm 0 u0 := ⟨_, rfl⟩
  have h := h σ7 eσ7
  refine r_puti B hH hS 0 (ty := .int) (by decide) wf_X16_1 rfl rfl rfl rfl rfl rfl dX16_visible_14 (fun H locs hH => ?_)
  have hH : Hd D cA A s (pI σ rm 0 u0) H locs := hH
  rw [← eσ7] at hH
  have hGσ7 : RG σ7 := by rw [eσ7]; exact hGσ.pI gu0
  have hS : Shp dm ra jx rm σ7 := by rw [eσ7]; exact hS
  have hc : CB n0 s0 σ7 := by rw [eσ7]; exact hc
  rw [show gc σ = gc σ7 by rw [eσ7], show gs σ = gs σ7 by rw [eσ7]]
  refine lv_aload_n B.1 B.2.1 dX16_visible_17 rfl (lv_at hl 0 rfl) ?_
  refine r_geti B hH hS 0 (by decide) wf_X16_1 rfl rfl dX16_visible_18 ?_
  refine lv_if_le (tgt := 28) B.1 B.2.1 dX16_visible_21 (by decide) (fun h9 => ?_) (fun h9 => ?_)
  · rw [if_pos ((z_le (hGσ7 _ _)).mp h9)] at h
    exact a_X16_visible_28 K hQ hX _ _ g1 h hGσ7 hS _ _ _ hH (lv_sub (l' := [(0, .ref rm), (1, .int (i32 v1))]) hl [0, 1] rfl) hc
  · rw [if_neg (fun q => h9 ((z_le (hGσ7 _ _)).mpr q))] at h
    exact a_X16_visible_24 K hQ hX _ h hGσ7 hS _ _ _ hH (lv_sub (l' := [(0, .ref rm)]) hl [0] rfl) hc
set_option maxRecDepth 20000 in
theorem a_X16_visible_13 {Q : Sg → Int → Prop} {X : Sg → String → Prop} (K : MC R p s m args c cX16_visible 2 RX16 D cA tys A n0 s0 2 46 []) (hQ : HQI p l e R s m args below meth c cX16_visible D cA A n0 s0 QM dm ra jx rm Q) (hX : HX p l e R s m args below meth c 2 D cA A n0 s0 QM dm ra jx rm X) : ∀ (σ : Sg) (v1 : Int) (g1 : rng v1), w_X16_visible_13 ra jx rm Q X σ v1 → RG σ → Shp dm ra jx rm σ → JJ p l e R s m args below meth c 2 D cA A n0 s0 QM σ 13 [(0, .ref rm), (1, .int (i32 v1))] [.ref rm] := by
  intro σ v1 g1 h hGσ hS H locs ls hH hl hc
  have B := K.1
  unfold w_X16_visible_13 at h
  refine lv_iconst (v := i32 1) B.1 B.2.1 dX16_visible_13 (by decide) ?_
  exact a_X16_visible_14 K hQ hX _ _ _ g1 (by unfold rng; omega) h hGσ hS _ _ _ hH (lv_sub (l' := [(0, .ref rm), (1, .int (i32 v1))]) hl [0, 1] rfl) hc
set_option maxRecDepth 20000 in
theorem a_X16_visible_9 {Q : Sg → Int → Prop} {X : Sg → String → Prop} (K : MC R p s m args c cX16_visible 2 RX16 D cA tys A n0 s0 2 46 []) (hQ : HQI p l e R s m args below meth c cX16_visible D cA A n0 s0 QM dm ra jx rm Q) (hX : HX p l e R s m args below meth c 2 D cA A n0 s0 QM dm ra jx rm X) : ∀ (σ : Sg) (v1 : Int) (g1 : rng v1), w_X16_visible_9 ra jx rm Q X σ v1 → RG σ → Shp dm ra jx rm σ → JJ p l e R s m args below meth c 2 D cA A n0 s0 QM σ 9 [(0, .ref rm), (1, .int (i32 v1))] [.ref rm] := by
  intro σ v1 g1 h hGσ hS H locs ls hH hl hc
  have B := K.1
  unfold w_X16_visible_9 at h
  refine lv_iconst (v := i32 0) B.1 B.2.1 dX16_visible_9 (by decide) ?_
  refine lv_goto (tgt := 14) B.1 B.2.1 dX16_visible_10 (by decide) ?_
  exact a_X16_visible_14 K hQ hX _ _ _ g1 (by unfold rng; omega) h hGσ hS _ _ _ hH (lv_sub (l' := [(0, .ref rm), (1, .int (i32 v1))]) hl [0, 1] rfl) hc
set_option maxRecDepth 20000 in
theorem a_X16_visible_0 {Q : Sg → Int → Prop} {X : Sg → String → Prop} (K : MC R p s m args c cX16_visible 2 RX16 D cA tys A n0 s0 2 46 []) (hQ : HQI p l e R s m args below meth c cX16_visible D cA A n0 s0 QM dm ra jx rm Q) (hX : HX p l e R s m args below meth c 2 D cA A n0 s0 QM dm ra jx rm X) : ∀ (σ : Sg) (v1 : Int) (g1 : rng v1), w_X16_visible_0 ra jx rm Q X σ v1 → RG σ → Shp dm ra jx rm σ → JJ p l e R s m args below meth c 2 D cA A n0 s0 QM σ 0 [(0, .ref rm), (1, .int (i32 v1))] [] := by
  intro σ v1 g1 h hGσ hS H locs ls hH hl hc
  have B := K.1
  unfold w_X16_visible_0 at h
  refine lv_aload_n B.1 B.2.1 dX16_visible_0 rfl (lv_at hl 0 rfl) ?_
  refine lv_aload_n B.1 B.2.1 dX16_visible_1 rfl (lv_at hl 0 rfl) ?_
  refine lv_iload_n B.1 B.2.1 dX16_visible_2 rfl (lv_at hl 1 rfl) ?_
  refine c_V B hH hl hc K.2.2.1 (C := RX16) (T := TX16) (N := 123) (ci := 16) (As := [.int (i32 v1)]) (ok_X16_isOutput K.2.1 σ v1 g1 hGσ hS h) wc_X16_997 1 hd_X16_isOutput ⟨Nat.le_trans (Nat.le_of_ble_eq_true rfl) K.2.2.2.1, Nat.le_trans (Nat.le_of_ble_eq_true rfl) K.2.2.2.2.1⟩ hS.1.1 hS.1.2 (by decide) rfl rfl (rest := [.ref rm]) rfl (Nat.le_of_ble_eq_true rfl) dX16_visible_3 (fun σ8 w hq => ?_) (fun σ9 E9 hx9 => hX σ9 E9 _ _ _ (tb_out K.2.2.2.2.2 rfl) hx9.1 hx9.2.1 hx9.2.2)
  obtain ⟨r9, rfl, ⟨gr9, gzr9⟩, h, hGσ8, hS⟩ := hq
  intro H locs ls hH hl hc
  refine W.eq (g2 := F0 m 6 ls [.int (i32 r9), .ref rm]) (rfl) ?_
  try dsimp only at h
  refine lv_if_eq (tgt := 13) B.1 B.2.1 dX16_visible_6 (by decide) (fun h9 => ?_) (fun h9 => ?_)
  · rw [if_pos ((z_eq gr9).mp h9)] at h
    exact a_X16_visible_13 K hQ hX _ _ g1 h hGσ8 hS _ _ _ hH (lv_sub (l' := [(0, .ref rm), (1, .int (i32 v1))]) hl [0, 1] rfl) hc
  · rw [if_neg (fun q => h9 ((z_eq gr9).mpr q))] at h
    exact a_X16_visible_9 K hQ hX _ _ g1 h hGσ8 hS _ _ _ hH (lv_sub (l' := [(0, .ref rm), (1, .int (i32 v1))]) hl [0, 1] rfl) hc
theorem ok_X16_visible (hT : Tys cA tys) {Q : Sg → Int → Prop} {X : Sg → String → Prop} (σ : Sg) (v1 : Int) (g1 : rng v1) (hG : RG σ) (hS : Shp dm ra jx rm σ) (h : wp_X16_visible ra jx rm v1 σ Q X) : Ok l D cA tys A yX16_visible (.code yX16_visible cX16_visible 2 (some .int)) 2 46 [.ref rm, .int (i32 v1)] σ (QnI dm ra jx rm Q) (QxR dm ra jx rm X) := by
  unfold wp_X16_visible at h
  exact ok_I (plainFor_of_name (by decide)) (by exact Nat.le_of_ble_eq_true rfl) hT (fun p e R s m args below meth c K hQ hX H locs ls hH hl hc => a_X16_visible_0 K hQ hX σ v1 g1 h hG hS H locs ls hH (lv_sub (l' := [(0, .ref rm), (1, .int (i32 v1))]) hl [0, 1] rfl) hc)
end M66

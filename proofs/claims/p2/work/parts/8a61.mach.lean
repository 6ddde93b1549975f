section M61
variable {p : Program} {l : Launch} {e : Env} {R : Room} {s : State} {m : MethodId} {args : Array Value} {below : List Frame} {meth : Method} {c : Code} {D : va_G} {cA : Nat → ClassId} {tys : List (ClassId × FieldType)} {A : Nat → Prop} {n0 s0 : Nat} {QM : State → Prop} {dm : List Nat × Nat × Nat} {ra : Nat → Nat} {jx : Nat → Nat → Nat} {rm : Nat}
theorem dX16_isWeighed_0 : decode cX16_isWeighed 0 = .ok (.iconst 1, 1) := by decide +kernel
theorem dX16_isWeighed_1 : decode cX16_isWeighed 1 = .ok (.istore 4, 2) := by decide +kernel
theorem dX16_isWeighed_3 : decode cX16_isWeighed 3 = .ok (.iconst 0, 1) := by decide +kernel
theorem dX16_isWeighed_4 : decode cX16_isWeighed 4 = .ok (.istore 5, 2) := by decide +kernel
theorem dX16_isWeighed_6 : decode cX16_isWeighed 6 = .ok (.iload 5, 2) := by decide +kernel
theorem dX16_isWeighed_8 : decode cX16_isWeighed 8 = .ok (.bipush 8, 2) := by decide +kernel
theorem dX16_isWeighed_10 : decode cX16_isWeighed 10 = .ok (.if_icmp .ge 17, 3) := by decide +kernel
theorem dX16_isWeighed_13 : decode cX16_isWeighed 13 = .ok (.aload_n 0, 1) := by decide +kernel
theorem dX16_isWeighed_14 : decode cX16_isWeighed 14 = .ok (.getfield 578, 3) := by decide +kernel
theorem dX16_isWeighed_17 : decode cX16_isWeighed 17 = .ok (.iload 5, 2) := by decide +kernel
theorem dX16_isWeighed_19 : decode cX16_isWeighed 19 = .ok (.lconst 0, 1) := by decide +kernel
theorem dX16_isWeighed_20 : decode cX16_isWeighed 20 = .ok (.lastore, 1) := by decide +kernel
theorem dX16_isWeighed_21 : decode cX16_isWeighed 21 = .ok (.iinc 5 1, 3) := by decide +kernel
theorem dX16_isWeighed_24 : decode cX16_isWeighed 24 = .ok (.goto (-18), 3) := by decide +kernel
theorem dX16_isWeighed_27 : decode cX16_isWeighed 27 = .ok (.iconst 0, 1) := by decide +kernel
theorem dX16_isWeighed_28 : decode cX16_isWeighed 28 = .ok (.istore 5, 2) := by decide +kernel
theorem dX16_isWeighed_30 : decode cX16_isWeighed 30 = .ok (.iload 5, 2) := by decide +kernel
theorem dX16_isWeighed_32 : decode cX16_isWeighed 32 = .ok (.aload_n 0, 1) := by decide +kernel
theorem dX16_isWeighed_33 : decode cX16_isWeighed 33 = .ok (.getfield 356, 3) := by decide +kernel
theorem dX16_isWeighed_36 : decode cX16_isWeighed 36 = .ok (.getfield 222, 3) := by decide +kernel
theorem dX16_isWeighed_39 : decode cX16_isWeighed 39 = .ok (.iload_n 1, 1) := by decide +kernel
theorem dX16_isWeighed_40 : decode cX16_isWeighed 40 = .ok (.iaload, 1) := by decide +kernel
theorem dX16_isWeighed_41 : decode cX16_isWeighed 41 = .ok (.if_icmp .ge 105, 3) := by decide +kernel
theorem dX16_isWeighed_44 : decode cX16_isWeighed 44 = .ok (.iload 4, 2) := by decide +kernel
theorem dX16_isWeighed_46 : decode cX16_isWeighed 46 = .ok (.ifCond .eq 100, 3) := by decide +kernel
theorem dX16_isWeighed_49 : decode cX16_isWeighed 49 = .ok (.aload_n 0, 1) := by decide +kernel
theorem dX16_isWeighed_50 : decode cX16_isWeighed 50 = .ok (.getfield 356, 3) := by decide +kernel
theorem dX16_isWeighed_53 : decode cX16_isWeighed 53 = .ok (.getfield 261, 3) := by decide +kernel
theorem dX16_isWeighed_56 : decode cX16_isWeighed 56 = .ok (.bipush 8, 2) := by decide +kernel
theorem dX16_isWeighed_58 : decode cX16_isWeighed 58 = .ok (.iload_n 1, 1) := by decide +kernel
theorem dX16_isWeighed_59 : decode cX16_isWeighed 59 = .ok (.imul, 1) := by decide +kernel
theorem dX16_isWeighed_60 : decode cX16_isWeighed 60 = .ok (.iload 5, 2) := by decide +kernel
theorem dX16_isWeighed_62 : decode cX16_isWeighed 62 = .ok (.iadd, 1) := by decide +kernel
theorem dX16_isWeighed_63 : decode cX16_isWeighed 63 = .ok (.iaload, 1) := by decide +kernel
theorem dX16_isWeighed_64 : decode cX16_isWeighed 64 = .ok (.ifCond .ne 7, 3) := by decide +kernel
theorem dX16_isWeighed_67 : decode cX16_isWeighed 67 = .ok (.iconst 1, 1) := by decide +kernel
theorem dX16_isWeighed_68 : decode cX16_isWeighed 68 = .ok (.goto 4, 3) := by decide +kernel
theorem dX16_isWeighed_71 : decode cX16_isWeighed 71 = .ok (.iconst 0, 1) := by decide +kernel
theorem dX16_isWeighed_72 : decode cX16_isWeighed 72 = .ok (.istore 6, 2) := by decide +kernel
theorem dX16_isWeighed_74 : decode cX16_isWeighed 74 = .ok (.aload_n 0, 1) := by decide +kernel
theorem dX16_isWeighed_75 : decode cX16_isWeighed 75 = .ok (.getfield 578, 3) := by decide +kernel
theorem dX16_isWeighed_78 : decode cX16_isWeighed 78 = .ok (.iconst 1, 1) := by decide +kernel
theorem dX16_isWeighed_79 : decode cX16_isWeighed 79 = .ok (.iload 5, 2) := by decide +kernel
theorem dX16_isWeighed_81 : decode cX16_isWeighed 81 = .ok (.iadd, 1) := by decide +kernel
theorem dX16_isWeighed_82 : decode cX16_isWeighed 82 = .ok (.iload 6, 2) := by decide +kernel
theorem dX16_isWeighed_84 : decode cX16_isWeighed 84 = .ok (.ifCond .eq 7, 3) := by decide +kernel
theorem dX16_isWeighed_87 : decode cX16_isWeighed 87 = .ok (.lconst 1, 1) := by decide +kernel
theorem dX16_isWeighed_88 : decode cX16_isWeighed 88 = .ok (.goto 32, 3) := by decide +kernel
theorem dX16_isWeighed_91 : decode cX16_isWeighed 91 = .ok (.aload_n 0, 1) := by decide +kernel
theorem dX16_isWeighed_92 : decode cX16_isWeighed 92 = .ok (.aload_n 0, 1) := by decide +kernel
theorem dX16_isWeighed_93 : decode cX16_isWeighed 93 = .ok (.getfield 356, 3) := by decide +kernel
theorem dX16_isWeighed_96 : decode cX16_isWeighed 96 = .ok (.aload_n 0, 1) := by decide +kernel
theorem dX16_isWeighed_97 : decode cX16_isWeighed 97 = .ok (.getfield 356, 3) := by decide +kernel
theorem dX16_isWeighed_100 : decode cX16_isWeighed 100 = .ok (.getfield 219, 3) := by decide +kernel
theorem dX16_isWeighed_103 : decode cX16_isWeighed 103 = .ok (.bipush 8, 2) := by decide +kernel
theorem dX16_isWeighed_105 : decode cX16_isWeighed 105 = .ok (.iload_n 1, 1) := by decide +kernel
theorem dX16_isWeighed_106 : decode cX16_isWeighed 106 = .ok (.imul, 1) := by decide +kernel
theorem dX16_isWeighed_107 : decode cX16_isWeighed 107 = .ok (.iload 5, 2) := by decide +kernel
theorem dX16_isWeighed_109 : decode cX16_isWeighed 109 = .ok (.iadd, 1) := by decide +kernel
theorem dX16_isWeighed_110 : decode cX16_isWeighed 110 = .ok (.iaload, 1) := by decide +kernel
theorem dX16_isWeighed_111 : decode cX16_isWeighed 111 = .ok (.lload_n 2, 1) := by decide +kernel
theorem dX16_isWeighed_112 : decode cX16_isWeighed 112 = .ok (.aload_n 0, 1) := by decide +kernel
theorem dX16_isWeighed_113 : decode cX16_isWeighed 113 = .ok (.getfield 542, 3) := by decide +kernel
theorem dX16_isWeighed_116 : decode cX16_isWeighed 116 = .ok (.iconst 0, 1) := by decide +kernel
theorem dX16_isWeighed_117 : decode cX16_isWeighed 117 = .ok (.invokevirtual 545, 3) := by decide +kernel
theorem dX16_isWeighed_120 : decode cX16_isWeighed 120 = .ok (.lastore, 1) := by decide +kernel
theorem dX16_isWeighed_121 : decode cX16_isWeighed 121 = .ok (.iload 6, 2) := by decide +kernel
theorem dX16_isWeighed_123 : decode cX16_isWeighed 123 = .ok (.ifCond .ne 10, 3) := by decide +kernel
theorem dX16_isWeighed_126 : decode cX16_isWeighed 126 = .ok (.aload_n 0, 1) := by decide +kernel
theorem dX16_isWeighed_127 : decode cX16_isWeighed 127 = .ok (.getfield 330, 3) := by decide +kernel
theorem dX16_isWeighed_130 : decode cX16_isWeighed 130 = .ok (.ifCond .ne 7, 3) := by decide +kernel
theorem dX16_isWeighed_133 : decode cX16_isWeighed 133 = .ok (.iconst 1, 1) := by decide +kernel
theorem dX16_isWeighed_134 : decode cX16_isWeighed 134 = .ok (.goto 4, 3) := by decide +kernel
theorem dX16_isWeighed_137 : decode cX16_isWeighed 137 = .ok (.iconst 0, 1) := by decide +kernel
theorem dX16_isWeighed_138 : decode cX16_isWeighed 138 = .ok (.istore 4, 2) := by decide +kernel
theorem dX16_isWeighed_140 : decode cX16_isWeighed 140 = .ok (.iinc 5 1, 3) := by decide +kernel
theorem dX16_isWeighed_143 : decode cX16_isWeighed 143 = .ok (.goto (-113), 3) := by decide +kernel
theorem dX16_isWeighed_146 : decode cX16_isWeighed 146 = .ok (.iload 4, 2) := by decide +kernel
theorem dX16_isWeighed_148 : decode cX16_isWeighed 148 = .ok (.ireturn, 1) := by decide +kernel
set_option maxRecDepth 20000 in
theorem a_X16_isWeighed_146 {Q : Sg → Int → Prop} {X : Sg → String → Prop} (K : MC R p s m args c cX16_isWeighed 7 RX16 D cA tys A n0 s0 2 56 []) (hQ : HQZ p l e R s m args below meth c cX16_isWeighed D cA A n0 s0 QM dm ra jx rm Q) (hX : HX p l e R s m args below meth c 7 D cA A n0 s0 QM dm ra jx rm X) : ∀ (σ : Sg) (v4 : Int) (g4 : rng v4), w_X16_isWeighed_146 ra jx rm Q X σ v4 → RG σ → Shp dm ra jx rm σ → JJ p l e R s m args below meth c 7 D cA A n0 s0 QM σ 146 [(0, .ref rm), (4, .int (i32 v4))] [] := by
  intro σ v4 g4 h hGσ hS H locs ls hH hl hc
  have B := K.1
  unfold w_X16_isWeighed_146 at h
  refine lv_iload B.1 B.2.1 dX16_isWeighed_146 (lv_at hl 1 rfl) ?_
  obtain ⟨qz, h⟩ := h
  exact hQ _ _ _ _ _ _ g4 qz dX16_isWeighed_148 hH hc h hGσ hS
set_option maxRecDepth 20000 in
theorem a_X16_isWeighed_138 {Q : Sg → Int → Prop} {X : Sg → String → Prop} (K : MC R p s m args c cX16_isWeighed 7 RX16 D cA tys A n0 s0 2 56 []) (hQ : HQZ p l e R s m args below meth c cX16_isWeighed D cA A n0 s0 QM dm ra jx rm Q) (hX : HX p l e R s m args below meth c 7 D cA A n0 s0 QM dm ra jx rm X) {K30 : Sg → Int → Int64 → Int → Int → Prop} (hK30 : ∀ (σ : Sg) (v1 : Int) (v2 : Int64) (v4 : Int) (v5 : Int) (g1 : rng v1) (g4 : rng v4) (g5 : rng v5), K30 σ v1 v2 v4 v5 → RG σ → Shp dm ra jx rm σ → JJ p l e R s m args below meth c 7 D cA A n0 s0 QM σ 30 [(0, .ref rm), (1, .int (i32 v1)), (2, .long v2), (4, .int (i32 v4)), (5, .int (i32 v5))] []) : ∀ (σ : Sg) (v1 : Int) (v2 : Int64) (v5 : Int) (u0 : Int) (g1 : rng v1) (g5 : rng v5) (gu0 : rng u0), w_X16_isWeighed_138 ra jx rm K30 Q X σ v1 v2 v5 u0 → RG σ → Shp dm ra jx rm σ → JJ p l e R s m args below meth c 7 D cA A n0 s0 QM σ 138 [(0, .ref rm), (1, .int (i32 v1)), (2, .long v2), (5, .int (i32 v5))] [.int (i32 u0)] := by
  intro σ v1 v2 v5 u0 g1 g5 gu0 h hGσ hS H locs ls hH hl hc
  have B := K.1
  unfold w_X16_isWeighed_138 at h
  refine lv_istore (lv' := [(4, .int (i32 u0)), (0, .ref rm), (1, .int (i32 v1)), (2, .long v2), (5, .int (i32 v5))]) B.1 B.2.1 dX16_isWeighed_138 hl (by decide) rfl (fun ls hl => ?_)
  obtain ⟨q1, h⟩ := h
  refine lv_iinc (k := 4) (v := i32 (v5 + 1)) (lv' := [(5, .int (i32 (v5 + 1))), (4, .int (i32 u0)), (0, .ref rm), (1, .int (i32 v1)), (2, .long v2)]) B.1 B.2.1 dX16_isWeighed_140 hl rfl (i32_add _ _) (by decide) rfl (fun ls hl => ?_)
  refine lv_goto (tgt := 30) B.1 B.2.1 dX16_isWeighed_143 (by decide) ?_
  exact hK30 _ _ _ _ _ g1 gu0 q1 h hGσ hS _ _ _ hH (lv_sub (l' := [(0, .ref rm), (1, .int (i32 v1)), (2, .long v2), (4, .int (i32 u0)), (5, .int (i32 (v5 + 1)))]) hl [2, 3, 4, 1, 0] rfl) hc
set_option maxRecDepth 20000 in
theorem a_X16_isWeighed_133 {Q : Sg → Int → Prop} {X : Sg → String → Prop} (K : MC R p s m args c cX16_isWeighed 7 RX16 D cA tys A n0 s0 2 56 []) (hQ : HQZ p l e R s m args below meth c cX16_isWeighed D cA A n0 s0 QM dm ra jx rm Q) (hX : HX p l e R s m args below meth c 7 D cA A n0 s0 QM dm ra jx rm X) {K30 : Sg → Int → Int64 → Int → Int → Prop} (hK30 : ∀ (σ : Sg) (v1 : Int) (v2 : Int64) (v4 : Int) (v5 : Int) (g1 : rng v1) (g4 : rng v4) (g5 : rng v5), K30 σ v1 v2 v4 v5 → RG σ → Shp dm ra jx rm σ → JJ p l e R s m args below meth c 7 D cA A n0 s0 QM σ 30 [(0, .ref rm), (1, .int (i32 v1)), (2, .long v2), (4, .int (i32 v4)), (5, .int (i32 v5))] []) : ∀ (σ : Sg) (v1 : Int) (v2 : Int64) (v5 : Int) (g1 : rng v1) (g5 : rng v5), w_X16_isWeighed_133 ra jx rm K30 Q X σ v1 v2 v5 → RG σ → Shp dm ra jx rm σ → JJ p l e R s m args below meth c 7 D cA A n0 s0 QM σ 133 [(0, .ref rm), (1, .int (i32 v1)), (2, .long v2), (5, .int (i32 v5))] [] := by
  intro σ v1 v2 v5 g1 g5 h hGσ hS H locs ls hH hl hc
  have B := K.1
  unfold w_X16_isWeighed_133 at h
  refine lv_iconst (v := i32 1) B.1 B.2.1 dX16_isWeighed_133 (by decide) ?_
  refine lv_goto (tgt := 138) B.1 B.2.1 dX16_isWeighed_134 (by decide) ?_
  exact a_X16_isWeighed_138 K hQ hX hK30 _ _ _ _ _ g1 g5 (by unfold rng; omega) h hGσ hS _ _ _ hH (lv_sub (l' := [(0, .ref rm), (1, .int (i32 v1)), (2, .long v2), (5, .int (i32 v5))]) hl [0, 1, 2, 3] rfl) hc
set_option maxRecDepth 20000 in
theorem a_X16_isWeighed_137 {Q : Sg → Int → Prop} {X : Sg → String → Prop} (K : MC R p s m args c cX16_isWeighed 7 RX16 D cA tys A n0 s0 2 56 []) (hQ : HQZ p l e R s m args below meth c cX16_isWeighed D cA A n0 s0 QM dm ra jx rm Q) (hX : HX p l e R s m args below meth c 7 D cA A n0 s0 QM dm ra jx rm X) {K30 : Sg → Int → Int64 → Int → Int → Prop} (hK30 : ∀ (σ : Sg) (v1 : Int) (v2 : Int64) (v4 : Int) (v5 : Int) (g1 : rng v1) (g4 : rng v4) (g5 : rng v5), K30 σ v1 v2 v4 v5 → RG σ → Shp dm ra jx rm σ → JJ p l e R s m args below meth c 7 D cA A n0 s0 QM σ 30 [(0, .ref rm), (1, .int (i32 v1)), (2, .long v2), (4, .int (i32 v4)), (5, .int (i32 v5))] []) : ∀ (σ : Sg) (v1 : Int) (v2 : Int64) (v5 : Int) (g1 : rng v1) (g5 : rng v5), w_X16_isWeighed_137 ra jx rm K30 Q X σ v1 v2 v5 → RG σ → Shp dm ra jx rm σ → JJ p l e R s m args below meth c 7 D cA A n0 s0 QM σ 137 [(0, .ref rm), (1, .int (i32 v1)), (2, .long v2), (5, .int (i32 v5))] [] := by
  intro σ v1 v2 v5 g1 g5 h hGσ hS H locs ls hH hl hc
  have B := K.1
  unfold w_X16_isWeighed_137 at h
  refine lv_iconst (v := i32 0) B.1 B.2.1 dX16_isWeighed_137 (by decide) ?_
  exact a_X16_isWeighed_138 K hQ hX hK30 _ _ _ _ _ g1 g5 (by unfold rng; omega) h hGσ hS _ _ _ hH (lv_sub (l' := [(0, .ref rm), (1, .int (i32 v1)), (2, .long v2), (5, .int (i32 v5))]) hl [0, 1, 2, 3] rfl) hc
set_option maxRecDepth 20000 in
theorem a_X16_isWeighed_126 {Q : Sg → Int → Prop} {X : Sg → String → Prop} (K : MC R p s m args c cX16_isWeighed 7 RX16 D cA tys A n0 s0 2 56 []) (hQ : HQZ p l e R s m args below meth c cX16_isWeighed D cA A n0 s0 QM dm ra jx rm Q) (hX : HX p l e R s m args below meth c 7 D cA A n0 s0 QM dm ra jx rm X) {K30 : Sg → Int → Int64 → Int → Int → Prop} (hK30 : ∀ (σ : Sg) (v1 : Int) (v2 : Int64) (v4 : Int) (v5 : Int) (g1 : rng v1) (g4 : rng v4) (g5 : rng v5), K30 σ v1 v2 v4 v5 → RG σ → Shp dm ra jx rm σ → JJ p l e R s m args below meth c 7 D cA A n0 s0 QM σ 30 [(0, .ref rm), (1, .int (i32 v1)), (2, .long v2), (4, .int (i32 v4)), (5, .int (i32 v5))] []) : ∀ (σ : Sg) (v1 : Int) (v2 : Int64) (v5 : Int) (g1 : rng v1) (g5 : rng v5), w_X16_isWeighed_126 ra jx rm K30 Q X σ v1 v2 v5 → RG σ → Shp dm ra jx rm σ → JJ p l e R s m args below meth c 7 D cA A n0 s0 QM σ 126 [(0, .ref rm), (1, .int (i32 v1)), (2, .long v2), (5, .int (i32 v5))] [] := by
  intro σ v1 v2 v5 g1 g5 h hGσ hS H locs ls hH hl hc
  have B := K.1
  unfold w_X16_isWeighed_126 at h
  refine lv_aload_n B.1 B.2.1 dX16_isWeighed_126 rfl (lv_at hl 0 rfl) ?_
  refine r_geti B hH hS 21 (by decide) wf_X16_330 rfl rfl dX16_isWeighed_127 ?_
  refine lv_if_ne (tgt := 137) B.1 B.2.1 dX16_isWeighed_130 (by decide) (fun h9 => ?_) (fun h9 => ?_)
  · rw [if_pos (fun q => h9 ((z_eq (hGσ _ _)).mpr q))] at h
    exact a_X16_isWeighed_137 K hQ hX hK30 _ _ _ _ g1 g5 h hGσ hS _ _ _ hH (lv_sub (l' := [(0, .ref rm), (1, .int (i32 v1)), (2, .long v2), (5, .int (i32 v5))]) hl [0, 1, 2, 3] rfl) hc
  · rw [if_neg (fun q => q ((z_eq (hGσ _ _)).mp h9))] at h
    exact a_X16_isWeighed_133 K hQ hX hK30 _ _ _ _ g1 g5 h hGσ hS _ _ _ hH (lv_sub (l' := [(0, .ref rm), (1, .int (i32 v1)), (2, .long v2), (5, .int (i32 v5))]) hl [0, 1, 2, 3] rfl) hc
set_option maxRecDepth 20000 in
theorem a_X16_isWeighed_120 {Q : Sg → Int → Prop} {X : Sg → String → Prop} (K : MC R p s m args c cX16_isWeighed 7 RX16 D cA tys A n0 s0 2 56 []) (hQ : HQZ p l e R s m args below meth c cX16_isWeighed D cA A n0 s0 QM dm ra jx rm Q) (hX : HX p l e R s m args below meth c 7 D cA A n0 s0 QM dm ra jx rm X) {K30 : Sg → Int → Int64 → Int → Int → Prop} (hK30 : ∀ (σ : Sg) (v1 : Int) (v2 : Int64) (v4 : Int) (v5 : Int) (g1 : rng v1) (g4 : rng v4) (g5 : rng v5), K30 σ v1 v2 v4 v5 → RG σ → Shp dm ra jx rm σ → JJ p l e R s m args below meth c 7 D cA A n0 s0 QM σ 30 [(0, .ref rm), (1, .int (i32 v1)), (2, .long v2), (4, .int (i32 v4)), (5, .int (i32 v5))] []) : ∀ (σ : Sg) (v1 : Int) (v2 : Int64) (v5 : Int) (v6 : Int) (u0 : Int64) (u1 : Int) (g1 : rng v1) (g5 : rng v5) (g6 : rng v6) (gu1 : rng u1), w_X16_isWeighed_120 ra jx rm K30 Q X σ v1 v2 v5 v6 u0 u1 → RG σ → Shp dm ra jx rm σ → JJ p l e R s m args below meth c 7 D cA A n0 s0 QM σ 120 [(0, .ref rm), (1, .int (i32 v1)), (2, .long v2), (5, .int (i32 v5)), (6, .int (i32 v6))] [.long u0, .int (i32 u1), .ref (ra 82)] := by
  intro σ v1 v2 v5 v6 u0 u1 g1 g5 g6 gu1 h hGσ hS H locs ls hH hl hc
  have B := K.1
  unfold w_X16_isWeighed_120 at h
  obtain ⟨q1, h⟩ := h
  obtain ⟨σ15, eσ15⟩ : ∃ z, z = pJ σ (ra 82) u1.toNat u0 := ⟨_, rfl⟩
  have h := h σ15 eσ15
  refine x_last B K.2.1 hH (hS.ar (k := 82) (kd := 101) (n := 16) (by decide)) (by decide) q1 dX16_isWeighed_120 (fun H locs hH => ?_)
  have hH : Hd D cA A s (pJ σ (ra 82) u1.toNat u0) H locs := hH
  rw [← eσ15] at hH
  have hGσ15 : RG σ15 := by rw [eσ15]; exact hGσ.pJ
  have hS : Shp dm ra jx rm σ15 := by rw [eσ15]; exact hS
  have hc : CB n0 s0 σ15 := by rw [eσ15]; exact hc
  rw [show gc σ = gc σ15 by rw [eσ15], show gs σ = gs σ15 by rw [eσ15]]
  refine lv_iload B.1 B.2.1 dX16_isWeighed_121 (lv_at hl 4 rfl) ?_
  refine lv_if_ne (tgt := 133) B.1 B.2.1 dX16_isWeighed_123 (by decide) (fun h9 => ?_) (fun h9 => ?_)
  · rw [if_pos (fun q => h9 ((z_eq g6).mpr q))] at h
    exact a_X16_isWeighed_133 K hQ hX hK30 _ _ _ _ g1 g5 h hGσ15 hS _ _ _ hH (lv_sub (l' := [(0, .ref rm), (1, .int (i32 v1)), (2, .long v2), (5, .int (i32 v5))]) hl [0, 1, 2, 3] rfl) hc
  · rw [if_neg (fun q => q ((z_eq g6).mp h9))] at h
    exact a_X16_isWeighed_126 K hQ hX hK30 _ _ _ _ g1 g5 h hGσ15 hS _ _ _ hH (lv_sub (l' := [(0, .ref rm), (1, .int (i32 v1)), (2, .long v2), (5, .int (i32 v5))]) hl [0, 1, 2, 3] rfl) hc
set_option maxRecDepth 20000 in
theorem a_X16_isWeighed_91 {Q : Sg → Int → Prop} {X : Sg → String → Prop} (K : MC R p s m args c cX16_isWeighed 7 RX16 D cA tys A n0 s0 2 56 []) (hQ : HQZ p l e R s m args below meth c cX16_isWeighed D cA A n0 s0 QM dm ra jx rm Q) (hX : HX p l e R s m args below meth c 7 D cA A n0 s0 QM dm ra jx rm X) {K30 : Sg → Int → Int64 → Int → Int → Prop} (hK30 : ∀ (σ : Sg) (v1 : Int) (v2 : Int64) (v4 : Int) (v5 : Int) (g1 : rng v1) (g4 : rng v4) (g5 : rng v5), K30 σ v1 v2 v4 v5 → RG σ → Shp dm ra jx rm σ → JJ p l e R s m args below meth c 7 D cA A n0 s0 QM σ 30 [(0, .ref rm), (1, .int (i32 v1)), (2, .long v2), (4, .int (i32 v4)), (5, .int (i32 v5))] []) : ∀ (σ : Sg) (v1 : Int) (v2 : Int64) (v5 : Int) (v6 : Int) (u0 : Int) (g1 : rng v1) (g5 : rng v5) (g6 : rng v6) (gu0 : rng u0), w_X16_isWeighed_91 ra jx rm K30 Q X σ v1 v2 v5 v6 u0 → RG σ → Shp dm ra jx rm σ → JJ p l e R s m args below meth c 7 D cA A n0 s0 QM σ 91 [(0, .ref rm), (1, .int (i32 v1)), (2, .long v2), (5, .int (i32 v5)), (6, .int (i32 v6))] [.int (i32 u0), .ref (ra 82)] := by
  intro σ v1 v2 v5 v6 u0 g1 g5 g6 gu0 h hGσ hS H locs ls hH hl hc
  have B := K.1
  unfold w_X16_isWeighed_91 at h
  refine lv_aload_n B.1 B.2.1 dX16_isWeighed_91 rfl (lv_at hl 0 rfl) ?_
  refine lv_aload_n B.1 B.2.1 dX16_isWeighed_92 rfl (lv_at hl 0 rfl) ?_
  refine r_getp B hH hS 17 (by decide) wf_X16_356 rfl rfl dX16_isWeighed_93 ?_
  refine lv_aload_n B.1 B.2.1 dX16_isWeighed_96 rfl (lv_at hl 0 rfl) ?_
  refine r_getp B hH hS 17 (by decide) wf_X16_356 rfl rfl dX16_isWeighed_97 ?_
  obtain ⟨a16, ea16, ja16, h⟩ := h
  refine W.eq (g2 := F0 m 100 ls [.ref a16, va_rf (gP σ rm 17), .ref rm, .int (i32 u0), .ref (ra 82)]) (by rw [ea16]; rfl) ?_
  refine n_arr B hH hS ja16 13 (kd := 100) (n := 128) (by decide) (by decide) (List.mem_of_getElem? (i := 13) rfl) rfl dX16_isWeighed_100 ?_
  refine lv_bipush (v := i32 8) B.1 B.2.1 dX16_isWeighed_103 (by decide) ?_
  refine lv_iload_n B.1 B.2.1 dX16_isWeighed_105 rfl (lv_at hl 1 rfl) ?_
  obtain ⟨q2, h⟩ := h
  refine lv_imul B.1 B.2.1 dX16_isWeighed_106 ?_
  rw [i32_mul]
  refine lv_iload B.1 B.2.1 dX16_isWeighed_107 (lv_at hl 3 rfl) ?_
  obtain ⟨q3, h⟩ := h
  refine lv_iadd B.1 B.2.1 dX16_isWeighed_109 ?_
  rw [i32_add]
  obtain ⟨q4, h⟩ := h
  refine x_iald B K.2.1 hH (hS.ja ja16 (k := 13) (kd := 100) (n := 128) (by decide)) (by decide) q4 dX16_isWeighed_110 ?_
  refine lv_lload_n B.1 B.2.1 dX16_isWeighed_111 rfl (lv_at hl 2 rfl) ?_
  refine lv_aload_n B.1 B.2.1 dX16_isWeighed_112 rfl (lv_at hl 0 rfl) ?_
  refine r_arr B hH hS 81 (kd := 101) (n := 8) (by decide) (by decide) wf_X16_542 rfl rfl dX16_isWeighed_113 ?_
  refine lv_iconst (v := i32 0) B.1 B.2.1 dX16_isWeighed_116 (by decide) ?_
  refine c_V B hH hl hc K.2.2.1 (C := RX16) (T := TX16) (N := 123) (ci := 16) (As := [va_rf (gP σ rm 17), .int (i32 (gI σ (jx a16 13) ((8 * v1) + v5).toNat)), .long v2, va_rf (some (ra 81)), .int (i32 0)]) (ok_X16_worth K.2.1 σ (gP σ rm 17) (gI σ (jx a16 13) ((8 * v1) + v5).toNat) v2 (some (ra 81)) 0 (hGσ _ _) (by unfold rng; omega) hGσ hS h) wc_X16_545 5 hd_X16_worth ⟨Nat.le_trans (Nat.le_of_ble_eq_true rfl) K.2.2.2.1, Nat.le_trans (Nat.le_of_ble_eq_true rfl) K.2.2.2.2.1⟩ hS.1.1 hS.1.2 (by decide) rfl rfl (rest := [.int (i32 u0), .ref (ra 82)]) rfl (Nat.le_of_ble_eq_true rfl) dX16_isWeighed_117 (fun σ17 w hq => ?_) (fun σ9 E9 hx9 => hX σ9 E9 _ _ _ (tb_out K.2.2.2.2.2 rfl) hx9.1 hx9.2.1 hx9.2.2)
  obtain ⟨r18, rfl, h, hGσ17, hS⟩ := hq
  intro H locs ls hH hl hc
  refine W.eq (g2 := F0 m 120 ls [.long r18, .int (i32 u0), .ref (ra 82)]) (rfl) ?_
  try dsimp only at h
  exact a_X16_isWeighed_120 K hQ hX hK30 _ _ _ _ _ _ _ g1 g5 g6 gu0 h hGσ17 hS _ _ _ hH (lv_sub (l' := [(0, .ref rm), (1, .int (i32 v1)), (2, .long v2), (5, .int (i32 v5)), (6, .int (i32 v6))]) hl [0, 1, 2, 3, 4] rfl) hc
set_option maxRecDepth 20000 in
theorem a_X16_isWeighed_87 {Q : Sg → Int → Prop} {X : Sg → String → Prop} (K : MC R p s m args c cX16_isWeighed 7 RX16 D cA tys A n0 s0 2 56 []) (hQ : HQZ p l e R s m args below meth c cX16_isWeighed D cA A n0 s0 QM dm ra jx rm Q) (hX : HX p l e R s m args below meth c 7 D cA A n0 s0 QM dm ra jx rm X) {K30 : Sg → Int → Int64 → Int → Int → Prop} (hK30 : ∀ (σ : Sg) (v1 : Int) (v2 : Int64) (v4 : Int) (v5 : Int) (g1 : rng v1) (g4 : rng v4) (g5 : rng v5), K30 σ v1 v2 v4 v5 → RG σ → Shp dm ra jx rm σ → JJ p l e R s m args below meth c 7 D cA A n0 s0 QM σ 30 [(0, .ref rm), (1, .int (i32 v1)), (2, .long v2), (4, .int (i32 v4)), (5, .int (i32 v5))] []) : ∀ (σ : Sg) (v1 : Int) (v2 : Int64) (v5 : Int) (v6 : Int) (u0 : Int) (g1 : rng v1) (g5 : rng v5) (g6 : rng v6) (gu0 : rng u0), w_X16_isWeighed_87 ra jx rm K30 Q X σ v1 v2 v5 v6 u0 → RG σ → Shp dm ra jx rm σ → JJ p l e R s m args below meth c 7 D cA A n0 s0 QM σ 87 [(0, .ref rm), (1, .int (i32 v1)), (2, .long v2), (5, .int (i32 v5)), (6, .int (i32 v6))] [.int (i32 u0), .ref (ra 82)] := by
  intro σ v1 v2 v5 v6 u0 g1 g5 g6 gu0 h hGσ hS H locs ls hH hl hc
  have B := K.1
  unfold w_X16_isWeighed_87 at h
  refine lv_lconst (v := 1) B.1 B.2.1 dX16_isWeighed_87 (by decide) ?_
  refine lv_goto (tgt := 120) B.1 B.2.1 dX16_isWeighed_88 (by decide) ?_
  exact a_X16_isWeighed_120 K hQ hX hK30 _ _ _ _ _ _ _ g1 g5 g6 gu0 h hGσ hS _ _ _ hH (lv_sub (l' := [(0, .ref rm), (1, .int (i32 v1)), (2, .long v2), (5, .int (i32 v5)), (6, .int (i32 v6))]) hl [0, 1, 2, 3, 4] rfl) hc
set_option maxRecDepth 20000 in
theorem a_X16_isWeighed_72 {Q : Sg → Int → Prop} {X : Sg → String → Prop} (K : MC R p s m args c cX16_isWeighed 7 RX16 D cA tys A n0 s0 2 56 []) (hQ : HQZ p l e R s m args below meth c cX16_isWeighed D cA A n0 s0 QM dm ra jx rm Q) (hX : HX p l e R s m args below meth c 7 D cA A n0 s0 QM dm ra jx rm X) {K30 : Sg → Int → Int64 → Int → Int → Prop} (hK30 : ∀ (σ : Sg) (v1 : Int) (v2 : Int64) (v4 : Int) (v5 : Int) (g1 : rng v1) (g4 : rng v4) (g5 : rng v5), K30 σ v1 v2 v4 v5 → RG σ → Shp dm ra jx rm σ → JJ p l e R s m args below meth c 7 D cA A n0 s0 QM σ 30 [(0, .ref rm), (1, .int (i32 v1)), (2, .long v2), (4, .int (i32 v4)), (5, .int (i32 v5))] []) : ∀ (σ : Sg) (v1 : Int) (v2 : Int64) (v5 : Int) (u0 : Int) (g1 : rng v1) (g5 : rng v5) (gu0 : rng u0), w_X16_isWeighed_72 ra jx rm K30 Q X σ v1 v2 v5 u0 → RG σ → Shp dm ra jx rm σ → JJ p l e R s m args below meth c 7 D cA A n0 s0 QM σ 72 [(0, .ref rm), (1, .int (i32 v1)), (2, .long v2), (5, .int (i32 v5))] [.int (i32 u0)] := by
  intro σ v1 v2 v5 u0 g1 g5 gu0 h hGσ hS H locs ls hH hl hc
  have B := K.1
  unfold w_X16_isWeighed_72 at h
  refine lv_istore (lv' := [(6, .int (i32 u0)), (0, .ref rm), (1, .int (i32 v1)), (2, .long v2), (5, .int (i32 v5))]) B.1 B.2.1 dX16_isWeighed_72 hl (by decide) rfl (fun ls hl => ?_)
  refine lv_aload_n B.1 B.2.1 dX16_isWeighed_74 rfl (lv_at hl 1 rfl) ?_
  refine r_arr B hH hS 82 (kd := 101) (n := 16) (by decide) (by decide) wf_X16_578 rfl rfl dX16_isWeighed_75 ?_
  refine lv_iconst (v := i32 1) B.1 B.2.1 dX16_isWeighed_78 (by decide) ?_
  refine lv_iload B.1 B.2.1 dX16_isWeighed_79 (lv_at hl 4 rfl) ?_
  obtain ⟨q1, h⟩ := h
  refine lv_iadd B.1 B.2.1 dX16_isWeighed_81 ?_
  rw [i32_add]
  refine lv_iload B.1 B.2.1 dX16_isWeighed_82 (lv_at hl 0 rfl) ?_
  refine lv_if_eq (tgt := 91) B.1 B.2.1 dX16_isWeighed_84 (by decide) (fun h9 => ?_) (fun h9 => ?_)
  · rw [if_pos ((z_eq gu0).mp h9)] at h
    exact a_X16_isWeighed_91 K hQ hX hK30 _ _ _ _ _ _ g1 g5 gu0 q1 h hGσ hS _ _ _ hH (lv_sub (l' := [(0, .ref rm), (1, .int (i32 v1)), (2, .long v2), (5, .int (i32 v5)), (6, .int (i32 u0))]) hl [1, 2, 3, 4, 0] rfl) hc
  · rw [if_neg (fun q => h9 ((z_eq gu0).mpr q))] at h
    exact a_X16_isWeighed_87 K hQ hX hK30 _ _ _ _ _ _ g1 g5 gu0 q1 h hGσ hS _ _ _ hH (lv_sub (l' := [(0, .ref rm), (1, .int (i32 v1)), (2, .long v2), (5, .int (i32 v5)), (6, .int (i32 u0))]) hl [1, 2, 3, 4, 0] rfl) hc
set_option maxRecDepth 20000 in
theorem a_X16_isWeighed_71 {Q : Sg → Int → Prop} {X : Sg → String → Prop} (K : MC R p s m args c cX16_isWeighed 7 RX16 D cA tys A n0 s0 2 56 []) (hQ : HQZ p l e R s m args below meth c cX16_isWeighed D cA A n0 s0 QM dm ra jx rm Q) (hX : HX p l e R s m args below meth c 7 D cA A n0 s0 QM dm ra jx rm X) {K30 : Sg → Int → Int64 → Int → Int → Prop} (hK30 : ∀ (σ : Sg) (v1 : Int) (v2 : Int64) (v4 : Int) (v5 : Int) (g1 : rng v1) (g4 : rng v4) (g5 : rng v5), K30 σ v1 v2 v4 v5 → RG σ → Shp dm ra jx rm σ → JJ p l e R s m args below meth c 7 D cA A n0 s0 QM σ 30 [(0, .ref rm), (1, .int (i32 v1)), (2, .long v2), (4, .int (i32 v4)), (5, .int (i32 v5))] []) : ∀ (σ : Sg) (v1 : Int) (v2 : Int64) (v5 : Int) (g1 : rng v1) (g5 : rng v5), w_X16_isWeighed_71 ra jx rm K30 Q X σ v1 v2 v5 → RG σ → Shp dm ra jx rm σ → JJ p l e R s m args below meth c 7 D cA A n0 s0 QM σ 71 [(0, .ref rm), (1, .int (i32 v1)), (2, .long v2), (5, .int (i32 v5))] [] := by
  intro σ v1 v2 v5 g1 g5 h hGσ hS H locs ls hH hl hc
  have B := K.1
  unfold w_X16_isWeighed_71 at h
  refine lv_iconst (v := i32 0) B.1 B.2.1 dX16_isWeighed_71 (by decide) ?_
  exact a_X16_isWeighed_72 K hQ hX hK30 _ _ _ _ _ g1 g5 (by unfold rng; omega) h hGσ hS _ _ _ hH (lv_sub (l' := [(0, .ref rm), (1, .int (i32 v1)), (2, .long v2), (5, .int (i32 v5))]) hl [0, 1, 2, 3] rfl) hc
set_option maxRecDepth 20000 in
theorem a_X16_isWeighed_67 {Q : Sg → Int → Prop} {X : Sg → String → Prop} (K : MC R p s m args c cX16_isWeighed 7 RX16 D cA tys A n0 s0 2 56 []) (hQ : HQZ p l e R s m args below meth c cX16_isWeighed D cA A n0 s0 QM dm ra jx rm Q) (hX : HX p l e R s m args below meth c 7 D cA A n0 s0 QM dm ra jx rm X) {K30 : Sg → Int → Int64 → Int → Int → Prop} (hK30 : ∀ (σ : Sg) (v1 : Int) (v2 : Int64) (v4 : Int) (v5 : Int) (g1 : rng v1) (g4 : rng v4) (g5 : rng v5), K30 σ v1 v2 v4 v5 → RG σ → Shp dm ra jx rm σ → JJ p l e R s m args below meth c 7 D cA A n0 s0 QM σ 30 [(0, .ref rm), (1, .int (i32 v1)), (2, .long v2), (4, .int (i32 v4)), (5, .int (i32 v5))] []) : ∀ (σ : Sg) (v1 : Int) (v2 : Int64) (v5 : Int) (g1 : rng v1) (g5 : rng v5), w_X16_isWeighed_67 ra jx rm K30 Q X σ v1 v2 v5 → RG σ → Shp dm ra jx rm σ → JJ p l e R s m args below meth c 7 D cA A n0 s0 QM σ 67 [(0, .ref rm), (1, .int (i32 v1)), (2, .long v2), (5, .int (i32 v5))] [] := by
  intro σ v1 v2 v5 g1 g5 h hGσ hS H locs ls hH hl hc
  have B := K.1
  unfold w_X16_isWeighed_67 at h
  refine lv_iconst (v := i32 1) B.1 B.2.1 dX16_isWeighed_67 (by decide) ?_
  refine lv_goto (tgt := 72) B.1 B.2.1 dX16_isWeighed_68 (by decide) ?_
  exact a_X16_isWeighed_72 K hQ hX hK30 _ _ _ _ _ g1 g5 (by unfold rng; omega) h hGσ hS _ _ _ hH (lv_sub (l' := [(0, .ref rm), (1, .int (i32 v1)), (2, .long v2), (5, .int (i32 v5))]) hl [0, 1, 2, 3] rfl) hc
set_option maxRecDepth 20000 in
theorem a_X16_isWeighed_49 {Q : Sg → Int → Prop} {X : Sg → String → Prop} (K : MC R p s m args c cX16_isWeighed 7 RX16 D cA tys A n0 s0 2 56 []) (hQ : HQZ p l e R s m args below meth c cX16_isWeighed D cA A n0 s0 QM dm ra jx rm Q) (hX : HX p l e R s m args below meth c 7 D cA A n0 s0 QM dm ra jx rm X) {K30 : Sg → Int → Int64 → Int → Int → Prop} (hK30 : ∀ (σ : Sg) (v1 : Int) (v2 : Int64) (v4 : Int) (v5 : Int) (g1 : rng v1) (g4 : rng v4) (g5 : rng v5), K30 σ v1 v2 v4 v5 → RG σ → Shp dm ra jx rm σ → JJ p l e R s m args below meth c 7 D cA A n0 s0 QM σ 30 [(0, .ref rm), (1, .int (i32 v1)), (2, .long v2), (4, .int (i32 v4)), (5, .int (i32 v5))] []) : ∀ (σ : Sg) (v1 : Int) (v2 : Int64) (v5 : Int) (g1 : rng v1) (g5 : rng v5), w_X16_isWeighed_49 ra jx rm K30 Q X σ v1 v2 v5 → RG σ → Shp dm ra jx rm σ → JJ p l e R s m args below meth c 7 D cA A n0 s0 QM σ 49 [(0, .ref rm), (1, .int (i32 v1)), (2, .long v2), (5, .int (i32 v5))] [] := by
  intro σ v1 v2 v5 g1 g5 h hGσ hS H locs ls hH hl hc
  have B := K.1
  unfold w_X16_isWeighed_49 at h
  refine lv_aload_n B.1 B.2.1 dX16_isWeighed_49 rfl (lv_at hl 0 rfl) ?_
  refine r_getp B hH hS 17 (by decide) wf_X16_356 rfl rfl dX16_isWeighed_50 ?_
  obtain ⟨a19, ea19, ja19, h⟩ := h
  refine W.eq (g2 := F0 m 53 ls [.ref a19]) (by rw [ea19]; rfl) ?_
  refine n_arr B hH hS ja19 14 (kd := 100) (n := 128) (by decide) (by decide) (List.mem_of_getElem? (i := 14) rfl) rfl dX16_isWeighed_53 ?_
  refine lv_bipush (v := i32 8) B.1 B.2.1 dX16_isWeighed_56 (by decide) ?_
  refine lv_iload_n B.1 B.2.1 dX16_isWeighed_58 rfl (lv_at hl 1 rfl) ?_
  obtain ⟨q2, h⟩ := h
  refine lv_imul B.1 B.2.1 dX16_isWeighed_59 ?_
  rw [i32_mul]
  refine lv_iload B.1 B.2.1 dX16_isWeighed_60 (lv_at hl 3 rfl) ?_
  obtain ⟨q3, h⟩ := h
  refine lv_iadd B.1 B.2.1 dX16_isWeighed_62 ?_
  rw [i32_add]
  obtain ⟨q4, h⟩ := h
  refine x_iald B K.2.1 hH (hS.ja ja19 (k := 14) (kd := 100) (n := 128) (by decide)) (by decide) q4 dX16_isWeighed_63 ?_
  refine lv_if_ne (tgt := 71) B.1 B.2.1 dX16_isWeighed_64 (by decide) (fun h9 => ?_) (fun h9 => ?_)
  · rw [if_pos (fun q => h9 ((z_eq (hGσ _ _)).mpr q))] at h
    exact a_X16_isWeighed_71 K hQ hX hK30 _ _ _ _ g1 g5 h hGσ hS _ _ _ hH (lv_sub (l' := [(0, .ref rm), (1, .int (i32 v1)), (2, .long v2), (5, .int (i32 v5))]) hl [0, 1, 2, 3] rfl) hc
  · rw [if_neg (fun q => q ((z_eq (hGσ _ _)).mp h9))] at h
    exact a_X16_isWeighed_67 K hQ hX hK30 _ _ _ _ g1 g5 h hGσ hS _ _ _ hH (lv_sub (l' := [(0, .ref rm), (1, .int (i32 v1)), (2, .long v2), (5, .int (i32 v5))]) hl [0, 1, 2, 3] rfl) hc
set_option maxRecDepth 20000 in
theorem a_X16_isWeighed_44 {Q : Sg → Int → Prop} {X : Sg → String → Prop} (K : MC R p s m args c cX16_isWeighed 7 RX16 D cA tys A n0 s0 2 56 []) (hQ : HQZ p l e R s m args below meth c cX16_isWeighed D cA A n0 s0 QM dm ra jx rm Q) (hX : HX p l e R s m args below meth c 7 D cA A n0 s0 QM dm ra jx rm X) {K30 : Sg → Int → Int64 → Int → Int → Prop} (hK30 : ∀ (σ : Sg) (v1 : Int) (v2 : Int64) (v4 : Int) (v5 : Int) (g1 : rng v1) (g4 : rng v4) (g5 : rng v5), K30 σ v1 v2 v4 v5 → RG σ → Shp dm ra jx rm σ → JJ p l e R s m args below meth c 7 D cA A n0 s0 QM σ 30 [(0, .ref rm), (1, .int (i32 v1)), (2, .long v2), (4, .int (i32 v4)), (5, .int (i32 v5))] []) : ∀ (σ : Sg) (v1 : Int) (v2 : Int64) (v4 : Int) (v5 : Int) (g1 : rng v1) (g4 : rng v4) (g5 : rng v5), w_X16_isWeighed_44 ra jx rm K30 Q X σ v1 v2 v4 v5 → RG σ → Shp dm ra jx rm σ → JJ p l e R s m args below meth c 7 D cA A n0 s0 QM σ 44 [(0, .ref rm), (1, .int (i32 v1)), (2, .long v2), (4, .int (i32 v4)), (5, .int (i32 v5))] [] := by
  intro σ v1 v2 v4 v5 g1 g4 g5 h hGσ hS H locs ls hH hl hc
  have B := K.1
  unfold w_X16_isWeighed_44 at h
  refine lv_iload B.1 B.2.1 dX16_isWeighed_44 (lv_at hl 3 rfl) ?_
  refine lv_if_eq (tgt := 146) B.1 B.2.1 dX16_isWeighed_46 (by decide) (fun h9 => ?_) (fun h9 => ?_)
  · rw [if_pos ((z_eq g4).mp h9)] at h
    exact a_X16_isWeighed_146 K hQ hX _ _ g4 h hGσ hS _ _ _ hH (lv_sub (l' := [(0, .ref rm), (4, .int (i32 v4))]) hl [0, 3] rfl) hc
  · rw [if_neg (fun q => h9 ((z_eq g4).mpr q))] at h
    exact a_X16_isWeighed_49 K hQ hX hK30 _ _ _ _ g1 g5 h hGσ hS _ _ _ hH (lv_sub (l' := [(0, .ref rm), (1, .int (i32 v1)), (2, .long v2), (5, .int (i32 v5))]) hl [0, 1, 2, 4] rfl) hc
set_option maxRecDepth 20000 in
theorem a_X16_isWeighed_30 {Q : Sg → Int → Prop} {X : Sg → String → Prop} (K : MC R p s m args c cX16_isWeighed 7 RX16 D cA tys A n0 s0 2 56 []) (hQ : HQZ p l e R s m args below meth c cX16_isWeighed D cA A n0 s0 QM dm ra jx rm Q) (hX : HX p l e R s m args below meth c 7 D cA A n0 s0 QM dm ra jx rm X) {K30 : Sg → Int → Int64 → Int → Int → Prop} (hK30 : ∀ (σ : Sg) (v1 : Int) (v2 : Int64) (v4 : Int) (v5 : Int) (g1 : rng v1) (g4 : rng v4) (g5 : rng v5), K30 σ v1 v2 v4 v5 → RG σ → Shp dm ra jx rm σ → JJ p l e R s m args below meth c 7 D cA A n0 s0 QM σ 30 [(0, .ref rm), (1, .int (i32 v1)), (2, .long v2), (4, .int (i32 v4)), (5, .int (i32 v5))] []) : ∀ (σ : Sg) (v1 : Int) (v2 : Int64) (v4 : Int) (v5 : Int) (g1 : rng v1) (g4 : rng v4) (g5 : rng v5), w_X16_isWeighed_30 ra jx rm K30 Q X σ v1 v2 v4 v5 → RG σ → Shp dm ra jx rm σ → JJ p l e R s m args below meth c 7 D cA A n0 s0 QM σ 30 [(0, .ref rm), (1, .int (i32 v1)), (2, .long v2), (4, .int (i32 v4)), (5, .int (i32 v5))] [] := by
  intro σ v1 v2 v4 v5 g1 g4 g5 h hGσ hS H locs ls hH hl hc
  have B := K.1
  unfold w_X16_isWeighed_30 at h
  refine lv_iload B.1 B.2.1 dX16_isWeighed_30 (lv_at hl 4 rfl) ?_
  refine lv_aload_n B.1 B.2.1 dX16_isWeighed_32 rfl (lv_at hl 0 rfl) ?_
  refine r_getp B hH hS 17 (by decide) wf_X16_356 rfl rfl dX16_isWeighed_33 ?_
  obtain ⟨a20, ea20, ja20, h⟩ := h
  refine W.eq (g2 := F0 m 36 ls [.ref a20, .int (i32 v5)]) (by rw [ea20]; rfl) ?_
  refine n_arr B hH hS ja20 12 (kd := 100) (n := 16) (by decide) (by decide) (List.mem_of_getElem? (i := 12) rfl) rfl dX16_isWeighed_36 ?_
  refine lv_iload_n B.1 B.2.1 dX16_isWeighed_39 rfl (lv_at hl 1 rfl) ?_
  obtain ⟨q2, h⟩ := h
  refine x_iald B K.2.1 hH (hS.ja ja20 (k := 12) (kd := 100) (n := 16) (by decide)) (by decide) q2 dX16_isWeighed_40 ?_
  refine lv_icmp_ge (tgt := 146) B.1 B.2.1 dX16_isWeighed_41 (by decide) (fun h9 => ?_) (fun h9 => ?_)
  · rw [if_pos ((i32_le (hGσ _ _) g5).mp h9)] at h
    exact a_X16_isWeighed_146 K hQ hX _ _ g4 h hGσ hS _ _ _ hH (lv_sub (l' := [(0, .ref rm), (4, .int (i32 v4))]) hl [0, 3] rfl) hc
  · rw [if_neg (fun q => h9 ((i32_le (hGσ _ _) g5).mpr q))] at h
    exact a_X16_isWeighed_44 K hQ hX hK30 _ _ _ _ _ g1 g4 g5 h hGσ hS _ _ _ hH (lv_sub (l' := [(0, .ref rm), (1, .int (i32 v1)), (2, .long v2), (4, .int (i32 v4)), (5, .int (i32 v5))]) hl [0, 1, 2, 3, 4] rfl) hc
theorem al_X16_isWeighed_30 {Q : Sg → Int → Prop} {X : Sg → String → Prop} (K : MC R p s m args c cX16_isWeighed 7 RX16 D cA tys A n0 s0 2 56 []) (hQ : HQZ p l e R s m args below meth c cX16_isWeighed D cA A n0 s0 QM dm ra jx rm Q) (hX : HX p l e R s m args below meth c 7 D cA A n0 s0 QM dm ra jx rm X) : ∀ (n : Nat), ∀ (σ : Sg) (v1 : Int) (v2 : Int64) (v4 : Int) (v5 : Int) (g1 : rng v1) (g4 : rng v4) (g5 : rng v5), wl_X16_isWeighed_30 ra jx rm Q X n σ v1 v2 v4 v5 → RG σ → Shp dm ra jx rm σ → JJ p l e R s m args below meth c 7 D cA A n0 s0 QM σ 30 [(0, .ref rm), (1, .int (i32 v1)), (2, .long v2), (4, .int (i32 v4)), (5, .int (i32 v5))] [] := by
  intro n
  induction n with
  | zero => intro σ v1 v2 v4 v5 g1 g4 g5 h; exact h.elim
  | succ n ih => exact fun σ v1 v2 v4 v5 g1 g4 g5 h => a_X16_isWeighed_30 K hQ hX ih σ v1 v2 v4 v5 g1 g4 g5 h
set_option maxRecDepth 20000 in
theorem a_X16_isWeighed_27 {Q : Sg → Int → Prop} {X : Sg → String → Prop} (K : MC R p s m args c cX16_isWeighed 7 RX16 D cA tys A n0 s0 2 56 []) (hQ : HQZ p l e R s m args below meth c cX16_isWeighed D cA A n0 s0 QM dm ra jx rm Q) (hX : HX p l e R s m args below meth c 7 D cA A n0 s0 QM dm ra jx rm X) : ∀ (σ : Sg) (v1 : Int) (v2 : Int64) (v4 : Int) (g1 : rng v1) (g4 : rng v4), w_X16_isWeighed_27 ra jx rm Q X σ v1 v2 v4 → RG σ → Shp dm ra jx rm σ → JJ p l e R s m args below meth c 7 D cA A n0 s0 QM σ 27 [(0, .ref rm), (1, .int (i32 v1)), (2, .long v2), (4, .int (i32 v4))] [] := by
  intro σ v1 v2 v4 g1 g4 h hGσ hS H locs ls hH hl hc
  have B := K.1
  unfold w_X16_isWeighed_27 at h
  refine lv_iconst (v := i32 0) B.1 B.2.1 dX16_isWeighed_27 (by decide) ?_
  refine lv_istore (lv' := [(5, .int (i32 0)), (0, .ref rm), (1, .int (i32 v1)), (2, .long v2), (4, .int (i32 v4))]) B.1 B.2.1 dX16_isWeighed_28 hl (by decide) rfl (fun ls hl => ?_)
  obtain ⟨n9, h⟩ := h
  exact al_X16_isWeighed_30 K hQ hX n9 _ _ _ _ _ g1 g4 (by unfold rng; omega) h hGσ hS _ _ _ hH (lv_sub (l' := [(0, .ref rm), (1, .int (i32 v1)), (2, .long v2), (4, .int (i32 v4)), (5, .int (i32 0))]) hl [1, 2, 3, 4, 0] rfl) hc
set_option maxRecDepth 20000 in
theorem a_X16_isWeighed_13 {Q : Sg → Int → Prop} {X : Sg → String → Prop} (K : MC R p s m args c cX16_isWeighed 7 RX16 D cA tys A n0 s0 2 56 []) (hQ : HQZ p l e R s m args below meth c cX16_isWeighed D cA A n0 s0 QM dm ra jx rm Q) (hX : HX p l e R s m args below meth c 7 D cA A n0 s0 QM dm ra jx rm X) {K6 : Sg → Int → Int64 → Int → Int → Prop} (hK6 : ∀ (σ : Sg) (v1 : Int) (v2 : Int64) (v4 : Int) (v5 : Int) (g1 : rng v1) (g4 : rng v4) (g5 : rng v5), K6 σ v1 v2 v4 v5 → RG σ → Shp dm ra jx rm σ → JJ p l e R s m args below meth c 7 D cA A n0 s0 QM σ 6 [(0, .ref rm), (1, .int (i32 v1)), (2, .long v2), (4, .int (i32 v4)), (5, .int (i32 v5))] []) : ∀ (σ : Sg) (v1 : Int) (v2 : Int64) (v4 : Int) (v5 : Int) (g1 : rng v1) (g4 : rng v4) (g5 : rng v5), w_X16_isWeighed_13 ra jx rm K6 Q X σ v1 v2 v4 v5 → RG σ → Shp dm ra jx rm σ → JJ p l e R s m args below meth c 7 D cA A n0 s0 QM σ 13 [(0, .ref rm), (1, .int (i32 v1)), (2, .long v2), (4, .int (i32 v4)), (5, .int (i32 v5))] [] := by
  intro σ v1 v2 v4 v5 g1 g4 g5 h hGσ hS H locs ls hH hl hc
  have B := K.1
  unfold w_X16_isWeighed_13 at h
  refine lv_aload_n B.1 B.2.1 dX16_isWeighed_13 rfl (lv_at hl 0 rfl) ?_
  refine r_arr B hH hS 82 (kd := 101) (n := 16) (by decide) (by decide) wf_X16_578 rfl rfl dX16_isWeighed_14 ?_
  refine lv_iload B.1 B.2.1 dX16_isWeighed_17 (lv_at hl 4 rfl) ?_
  refine lv_lconst (v := 0) B.1 B.2.1 dX16_isWeighed_19 (by decide) ?_
  obtain ⟨q1, h⟩ := h
  obtain ⟨σ21, eσ21⟩ : ∃ z, z = pJ σ (ra 82) v5.toNat 0 := ⟨_, rfl⟩
  have h := h σ21 eσ21
  refine x_last B K.2.1 hH (hS.ar (k := 82) (kd := 101) (n := 16) (by decide)) (by decide) q1 dX16_isWeighed_20 (fun H locs hH => ?_)
  have hH : Hd D cA A s (pJ σ (ra 82) v5.toNat 0) H locs := hH
  rw [← eσ21] at hH
  have hGσ21 : RG σ21 := by rw [eσ21]; exact hGσ.pJ
  have hS : Shp dm ra jx rm σ21 := by rw [eσ21]; exact hS
  have hc : CB n0 s0 σ21 := by rw [eσ21]; exact hc
  rw [show gc σ = gc σ21 by rw [eσ21], show gs σ = gs σ21 by rw [eσ21]]
  obtain ⟨q3, h⟩ := h
  refine lv_iinc (k := 4) (v := i32 (v5 + 1)) (lv' := [(5, .int (i32 (v5 + 1))), (0, .ref rm), (1, .int (i32 v1)), (2, .long v2), (4, .int (i32 v4))]) B.1 B.2.1 dX16_isWeighed_21 hl rfl (i32_add _ _) (by decide) rfl (fun ls hl => ?_)
  refine lv_goto (tgt := 6) B.1 B.2.1 dX16_isWeighed_24 (by decide) ?_
  exact hK6 _ _ _ _ _ g1 g4 q3 h hGσ21 hS _ _ _ hH (lv_sub (l' := [(0, .ref rm), (1, .int (i32 v1)), (2, .long v2), (4, .int (i32 v4)), (5, .int (i32 (v5 + 1)))]) hl [1, 2, 3, 4, 0] rfl) hc
set_option maxRecDepth 20000 in
theorem a_X16_isWeighed_6 {Q : Sg → Int → Prop} {X : Sg → String → Prop} (K : MC R p s m args c cX16_isWeighed 7 RX16 D cA tys A n0 s0 2 56 []) (hQ : HQZ p l e R s m args below meth c cX16_isWeighed D cA A n0 s0 QM dm ra jx rm Q) (hX : HX p l e R s m args below meth c 7 D cA A n0 s0 QM dm ra jx rm X) {K6 : Sg → Int → Int64 → Int → Int → Prop} (hK6 : ∀ (σ : Sg) (v1 : Int) (v2 : Int64) (v4 : Int) (v5 : Int) (g1 : rng v1) (g4 : rng v4) (g5 : rng v5), K6 σ v1 v2 v4 v5 → RG σ → Shp dm ra jx rm σ → JJ p l e R s m args below meth c 7 D cA A n0 s0 QM σ 6 [(0, .ref rm), (1, .int (i32 v1)), (2, .long v2), (4, .int (i32 v4)), (5, .int (i32 v5))] []) : ∀ (σ : Sg) (v1 : Int) (v2 : Int64) (v4 : Int) (v5 : Int) (g1 : rng v1) (g4 : rng v4) (g5 : rng v5), w_X16_isWeighed_6 ra jx rm K6 Q X σ v1 v2 v4 v5 → RG σ → Shp dm ra jx rm σ → JJ p l e R s m args below meth c 7 D cA A n0 s0 QM σ 6 [(0, .ref rm), (1, .int (i32 v1)), (2, .long v2), (4, .int (i32 v4)), (5, .int (i32 v5))] [] := by
  intro σ v1 v2 v4 v5 g1 g4 g5 h hGσ hS H locs ls hH hl hc
  have B := K.1
  unfold w_X16_isWeighed_6 at h
  refine lv_iload B.1 B.2.1 dX16_isWeighed_6 (lv_at hl 4 rfl) ?_
  refine lv_bipush (v := i32 8) B.1 B.2.1 dX16_isWeighed_8 (by decide) ?_
  refine lv_icmp_ge (tgt := 27) B.1 B.2.1 dX16_isWeighed_10 (by decide) (fun h9 => ?_) (fun h9 => ?_)
  · rw [if_pos ((i32_le (by unfold rng; omega) g5).mp h9)] at h
    exact a_X16_isWeighed_27 K hQ hX _ _ _ _ g1 g4 h hGσ hS _ _ _ hH (lv_sub (l' := [(0, .ref rm), (1, .int (i32 v1)), (2, .long v2), (4, .int (i32 v4))]) hl [0, 1, 2, 3] rfl) hc
  · rw [if_neg (fun q => h9 ((i32_le (by unfold rng; omega) g5).mpr q))] at h
    exact a_X16_isWeighed_13 K hQ hX hK6 _ _ _ _ _ g1 g4 g5 h hGσ hS _ _ _ hH (lv_sub (l' := [(0, .ref rm), (1, .int (i32 v1)), (2, .long v2), (4, .int (i32 v4)), (5, .int (i32 v5))]) hl [0, 1, 2, 3, 4] rfl) hc
theorem al_X16_isWeighed_6 {Q : Sg → Int → Prop} {X : Sg → String → Prop} (K : MC R p s m args c cX16_isWeighed 7 RX16 D cA tys A n0 s0 2 56 []) (hQ : HQZ p l e R s m args below meth c cX16_isWeighed D cA A n0 s0 QM dm ra jx rm Q) (hX : HX p l e R s m args below meth c 7 D cA A n0 s0 QM dm ra jx rm X) : ∀ (n : Nat), ∀ (σ : Sg) (v1 : Int) (v2 : Int64) (v4 : Int) (v5 : Int) (g1 : rng v1) (g4 : rng v4) (g5 : rng v5), wl_X16_isWeighed_6 ra jx rm Q X n σ v1 v2 v4 v5 → RG σ → Shp dm ra jx rm σ → JJ p l e R s m args below meth c 7 D cA A n0 s0 QM σ 6 [(0, .ref rm), (1, .int (i32 v1)), (2, .long v2), (4, .int (i32 v4)), (5, .int (i32 v5))] [] := by
  intro n
  induction n with
  | zero => intro σ v1 v2 v4 v5 g1 g4 g5 h; exact h.elim
  | succ n ih => exact fun σ v1 v2 v4 v5 g1 g4 g5 h => a_X16_isWeighed_6 K hQ hX ih σ v1 v2 v4 v5 g1 g4 g5 h
set_option maxRecDepth 20000 in
theorem a_X16_isWeighed_0 {Q : Sg → Int → Prop} {X : Sg → String → Prop} (K : MC R p s m args c cX16_isWeighed 7 RX16 D cA tys A n0 s0 2 56 []) (hQ : HQZ p l e R s m args below meth c cX16_isWeighed D cA A n0 s0 QM dm ra jx rm Q) (hX : HX p l e R s m args below meth c 7 D cA A n0 s0 QM dm ra jx rm X) : ∀ (σ : Sg) (v1 : Int) (v2 : Int64) (g1 : rng v1), w_X16_isWeighed_0 ra jx rm Q X σ v1 v2 → RG σ → Shp dm ra jx rm σ → JJ p l e R s m args below meth c 7 D cA A n0 s0 QM σ 0 [(0, .ref rm), (1, .int (i32 v1)), (2, .long v2)] [] := by
  intro σ v1 v2 g1 h hGσ hS H locs ls hH hl hc
  have B := K.1
  unfold w_X16_isWeighed_0 at h
  refine lv_iconst (v := i32 1) B.1 B.2.1 dX16_isWeighed_0 (by decide) ?_
  refine lv_istore (lv' := [(4, .int (i32 1)), (0, .ref rm), (1, .int (i32 v1)), (2, .long v2)]) B.1 B.2.1 dX16_isWeighed_1 hl (by decide) rfl (fun ls hl => ?_)
  refine lv_iconst (v := i32 0) B.1 B.2.1 dX16_isWeighed_3 (by decide) ?_
  refine lv_istore (lv' := [(5, .int (i32 0)), (4, .int (i32 1)), (0, .ref rm), (1, .int (i32 v1)), (2, .long v2)]) B.1 B.2.1 dX16_isWeighed_4 hl (by decide) rfl (fun ls hl => ?_)
  obtain ⟨n9, h⟩ := h
  exact al_X16_isWeighed_6 K hQ hX n9 _ _ _ _ _ g1 (by unfold rng; omega) (by unfold rng; omega) h hGσ hS _ _ _ hH (lv_sub (l' := [(0, .ref rm), (1, .int (i32 v1)), (2, .long v2), (4, .int (i32 1)), (5, .int (i32 0))]) hl [2, 3, 4, 1, 0] rfl) hc
theorem ok_X16_isWeighed (hT : Tys cA tys) {Q : Sg → Int → Prop} {X : Sg → String → Prop} (σ : Sg) (v1 : Int) (v2 : Int64) (g1 : rng v1) (hG : RG σ) (hS : Shp dm ra jx rm σ) (h : wp_X16_isWeighed ra jx rm v1 v2 σ Q X) : Ok l D cA tys A yX16_isWeighed (.code yX16_isWeighed cX16_isWeighed 7 (some .boolean)) 2 56 [.ref rm, .int (i32 v1), .long v2] σ (QnZ dm ra jx rm Q) (QxR dm ra jx rm X) := by
  unfold wp_X16_isWeighed at h
  exact ok_Z (plainFor_of_name (by decide)) (by exact Nat.le_of_ble_eq_true rfl) hT (fun p e R s m args below meth c K hQ hX H locs ls hH hl hc => a_X16_isWeighed_0 K hQ hX σ v1 v2 g1 h hG hS H locs ls hH (lv_sub (l' := [(0, .ref rm), (1, .int (i32 v1)), (2, .long v2)]) hl [0, 1, 2] rfl) hc)
theorem dX16_sort_0 : decode cX16_sort 0 = .ok (.iconst 0, 1) := by decide +kernel
theorem dX16_sort_1 : decode cX16_sort 1 = .ok (.istore_n 2, 1) := by decide +kernel
theorem dX16_sort_2 : decode cX16_sort 2 = .ok (.aload_n 0, 1) := by decide +kernel
theorem dX16_sort_3 : decode cX16_sort 3 = .ok (.getfield 874, 3) := by decide +kernel
theorem dX16_sort_6 : decode cX16_sort 6 = .ok (.iload_n 1, 1) := by decide +kernel
theorem dX16_sort_7 : decode cX16_sort 7 = .ok (.iaload, 1) := by decide +kernel
theorem dX16_sort_8 : decode cX16_sort 8 = .ok (.istore_n 3, 1) := by decide +kernel
theorem dX16_sort_9 : decode cX16_sort 9 = .ok (.iload_n 3, 1) := by decide +kernel
theorem dX16_sort_10 : decode cX16_sort 10 = .ok (.aload_n 0, 1) := by decide +kernel
theorem dX16_sort_11 : decode cX16_sort 11 = .ok (.getfield 874, 3) := by decide +kernel
theorem dX16_sort_14 : decode cX16_sort 14 = .ok (.iload_n 1, 1) := by decide +kernel
theorem dX16_sort_15 : decode cX16_sort 15 = .ok (.iconst 1, 1) := by decide +kernel
theorem dX16_sort_16 : decode cX16_sort 16 = .ok (.iadd, 1) := by decide +kernel
theorem dX16_sort_17 : decode cX16_sort 17 = .ok (.iaload, 1) := by decide +kernel
theorem dX16_sort_18 : decode cX16_sort 18 = .ok (.if_icmp .ge 110, 3) := by decide +kernel
theorem dX16_sort_21 : decode cX16_sort 21 = .ok (.iload_n 2, 1) := by decide +kernel
theorem dX16_sort_22 : decode cX16_sort 22 = .ok (.istore 4, 2) := by decide +kernel
theorem dX16_sort_24 : decode cX16_sort 24 = .ok (.iload 4, 2) := by decide +kernel
theorem dX16_sort_26 : decode cX16_sort 26 = .ok (.ifCond .le 85, 3) := by decide +kernel
theorem dX16_sort_29 : decode cX16_sort 29 = .ok (.aload_n 0, 1) := by decide +kernel
theorem dX16_sort_30 : decode cX16_sort 30 = .ok (.aload_n 0, 1) := by decide +kernel
theorem dX16_sort_31 : decode cX16_sort 31 = .ok (.getfield 864, 3) := by decide +kernel
theorem dX16_sort_34 : decode cX16_sort 34 = .ok (.iload_n 3, 1) := by decide +kernel
theorem dX16_sort_35 : decode cX16_sort 35 = .ok (.laload, 1) := by decide +kernel
theorem dX16_sort_36 : decode cX16_sort 36 = .ok (.aload_n 0, 1) := by decide +kernel
theorem dX16_sort_37 : decode cX16_sort 37 = .ok (.getfield 867, 3) := by decide +kernel
theorem dX16_sort_40 : decode cX16_sort 40 = .ok (.bipush 8, 2) := by decide +kernel
theorem dX16_sort_42 : decode cX16_sort 42 = .ok (.iload_n 3, 1) := by decide +kernel
theorem dX16_sort_43 : decode cX16_sort 43 = .ok (.imul, 1) := by decide +kernel
theorem dX16_sort_44 : decode cX16_sort 44 = .ok (.aload_n 0, 1) := by decide +kernel
theorem dX16_sort_45 : decode cX16_sort 45 = .ok (.getfield 864, 3) := by decide +kernel
theorem dX16_sort_48 : decode cX16_sort 48 = .ok (.aload_n 0, 1) := by decide +kernel
theorem dX16_sort_49 : decode cX16_sort 49 = .ok (.getfield 877, 3) := by decide +kernel
theorem dX16_sort_52 : decode cX16_sort 52 = .ok (.iload 4, 2) := by decide +kernel
theorem dX16_sort_54 : decode cX16_sort 54 = .ok (.iconst 1, 1) := by decide +kernel
theorem dX16_sort_55 : decode cX16_sort 55 = .ok (.isub, 1) := by decide +kernel
theorem dX16_sort_56 : decode cX16_sort 56 = .ok (.iaload, 1) := by decide +kernel
theorem dX16_sort_57 : decode cX16_sort 57 = .ok (.laload, 1) := by decide +kernel
theorem dX16_sort_58 : decode cX16_sort 58 = .ok (.aload_n 0, 1) := by decide +kernel
theorem dX16_sort_59 : decode cX16_sort 59 = .ok (.getfield 867, 3) := by decide +kernel
theorem dX16_sort_62 : decode cX16_sort 62 = .ok (.bipush 8, 2) := by decide +kernel
theorem dX16_sort_64 : decode cX16_sort 64 = .ok (.aload_n 0, 1) := by decide +kernel
theorem dX16_sort_65 : decode cX16_sort 65 = .ok (.getfield 877, 3) := by decide +kernel
theorem dX16_sort_68 : decode cX16_sort 68 = .ok (.iload 4, 2) := by decide +kernel
theorem dX16_sort_70 : decode cX16_sort 70 = .ok (.iconst 1, 1) := by decide +kernel
theorem dX16_sort_71 : decode cX16_sort 71 = .ok (.isub, 1) := by decide +kernel
theorem dX16_sort_72 : decode cX16_sort 72 = .ok (.iaload, 1) := by decide +kernel
theorem dX16_sort_73 : decode cX16_sort 73 = .ok (.imul, 1) := by decide +kernel
theorem dX16_sort_74 : decode cX16_sort 74 = .ok (.aload_n 0, 1) := by decide +kernel
theorem dX16_sort_75 : decode cX16_sort 75 = .ok (.getfield 356, 3) := by decide +kernel
theorem dX16_sort_78 : decode cX16_sort 78 = .ok (.getfield 178, 3) := by decide +kernel
theorem dX16_sort_81 : decode cX16_sort 81 = .ok (.iload_n 1, 1) := by decide +kernel
theorem dX16_sort_82 : decode cX16_sort 82 = .ok (.iaload, 1) := by decide +kernel
theorem dX16_sort_83 : decode cX16_sort 83 = .ok (.invokevirtual 534, 3) := by decide +kernel
theorem dX16_sort_86 : decode cX16_sort 86 = .ok (.ifCond .ge 25, 3) := by decide +kernel
theorem dX16_sort_89 : decode cX16_sort 89 = .ok (.aload_n 0, 1) := by decide +kernel
theorem dX16_sort_90 : decode cX16_sort 90 = .ok (.getfield 877, 3) := by decide +kernel
theorem dX16_sort_93 : decode cX16_sort 93 = .ok (.iload 4, 2) := by decide +kernel
theorem dX16_sort_95 : decode cX16_sort 95 = .ok (.aload_n 0, 1) := by decide +kernel
theorem dX16_sort_96 : decode cX16_sort 96 = .ok (.getfield 877, 3) := by decide +kernel
theorem dX16_sort_99 : decode cX16_sort 99 = .ok (.iload 4, 2) := by decide +kernel
theorem dX16_sort_101 : decode cX16_sort 101 = .ok (.iconst 1, 1) := by decide +kernel
theorem dX16_sort_102 : decode cX16_sort 102 = .ok (.isub, 1) := by decide +kernel
theorem dX16_sort_103 : decode cX16_sort 103 = .ok (.iaload, 1) := by decide +kernel
theorem dX16_sort_104 : decode cX16_sort 104 = .ok (.iastore, 1) := by decide +kernel
theorem dX16_sort_105 : decode cX16_sort 105 = .ok (.iinc 4 (-1), 3) := by decide +kernel
theorem dX16_sort_108 : decode cX16_sort 108 = .ok (.goto (-84), 3) := by decide +kernel
theorem dX16_sort_111 : decode cX16_sort 111 = .ok (.aload_n 0, 1) := by decide +kernel
theorem dX16_sort_112 : decode cX16_sort 112 = .ok (.getfield 877, 3) := by decide +kernel
theorem dX16_sort_115 : decode cX16_sort 115 = .ok (.iload 4, 2) := by decide +kernel
theorem dX16_sort_117 : decode cX16_sort 117 = .ok (.iload_n 3, 1) := by decide +kernel
theorem dX16_sort_118 : decode cX16_sort 118 = .ok (.iastore, 1) := by decide +kernel
theorem dX16_sort_119 : decode cX16_sort 119 = .ok (.iinc 2 1, 3) := by decide +kernel
theorem dX16_sort_122 : decode cX16_sort 122 = .ok (.iinc 3 1, 3) := by decide +kernel
theorem dX16_sort_125 : decode cX16_sort 125 = .ok (.goto (-116), 3) := by decide +kernel
theorem dX16_sort_128 : decode cX16_sort 128 = .ok (.iload_n 2, 1) := by decide +kernel
theorem dX16_sort_129 : decode cX16_sort 129 = .ok (.ireturn, 1) := by decide +kernel
set_option maxRecDepth 20000 in
theorem a_X16_sort_128 {Q : Sg → Int → Prop} {X : Sg → String → Prop} (K : MC R p s m args c cX16_sort 5 RX16 D cA tys A n0 s0 1 30 []) (hQ : HQI p l e R s m args below meth c cX16_sort D cA A n0 s0 QM dm ra jx rm Q) (hX : HX p l e R s m args below meth c 5 D cA A n0 s0 QM dm ra jx rm X) : ∀ (σ : Sg) (v2 : Int) (g2 : rng v2), w_X16_sort_128 ra jx rm Q X σ v2 → RG σ → Shp dm ra jx rm σ → JJ p l e R s m args below meth c 5 D cA A n0 s0 QM σ 128 [(0, .ref rm), (2, .int (i32 v2))] [] := by
  intro σ v2 g2 h hGσ hS H locs ls hH hl hc
  have B := K.1
  unfold w_X16_sort_128 at h
  refine lv_iload_n B.1 B.2.1 dX16_sort_128 rfl (lv_at hl 1 rfl) ?_
  exact hQ _ _ _ _ _ _ g2 dX16_sort_129 hH hc h hGσ hS
set_option maxRecDepth 20000 in
theorem a_X16_sort_111 {Q : Sg → Int → Prop} {X : Sg → String → Prop} (K : MC R p s m args c cX16_sort 5 RX16 D cA tys A n0 s0 1 30 []) (hQ : HQI p l e R s m args below meth c cX16_sort D cA A n0 s0 QM dm ra jx rm Q) (hX : HX p l e R s m args below meth c 5 D cA A n0 s0 QM dm ra jx rm X) {K9 : Sg → Int → Int → Int → Prop} (hK9 : ∀ (σ : Sg) (v1 : Int) (v2 : Int) (v3 : Int) (g1 : rng v1) (g2 : rng v2) (g3 : rng v3), K9 σ v1 v2 v3 → RG σ → Shp dm ra jx rm σ → JJ p l e R s m args below meth c 5 D cA A n0 s0 QM σ 9 [(0, .ref rm), (1, .int (i32 v1)), (2, .int (i32 v2)), (3, .int (i32 v3))] []) : ∀ (σ : Sg) (v1 : Int) (v2 : Int) (v3 : Int) (v4 : Int) (g1 : rng v1) (g2 : rng v2) (g3 : rng v3) (g4 : rng v4), w_X16_sort_111 ra jx rm K9 Q X σ v1 v2 v3 v4 → RG σ → Shp dm ra jx rm σ → JJ p l e R s m args below meth c 5 D cA A n0 s0 QM σ 111 [(0, .ref rm), (1, .int (i32 v1)), (2, .int (i32 v2)), (3, .int (i32 v3)), (4, .int (i32 v4))] [] := by
  intro σ v1 v2 v3 v4 g1 g2 g3 g4 h hGσ hS H locs ls hH hl hc
  have B := K.1
  unfold w_X16_sort_111 at h
  refine lv_aload_n B.1 B.2.1 dX16_sort_111 rfl (lv_at hl 0 rfl) ?_
  refine r_arr B hH hS 119 (kd := 100) (n := 4000) (by decide) (by decide) wf_X16_877 rfl rfl dX16_sort_112 ?_
  refine lv_iload B.1 B.2.1 dX16_sort_115 (lv_at hl 4 rfl) ?_
  refine lv_iload_n B.1 B.2.1 dX16_sort_117 rfl (lv_at hl 3 rfl) ?_
  obtain ⟨q1, h⟩ := h
  obtain ⟨σ11, eσ11⟩ : ∃ z, z = pI σ (ra 119) v4.toNat v3 := ⟨_, rfl⟩
  have h := h σ11 eσ11
  refine x_iast B K.2.1 hH (hS.ar (k := 119) (kd := 100) (n := 4000) (by decide)) (by decide) q1 dX16_sort_118 (fun H locs hH => ?_)
  have hH : Hd D cA A s (pI σ (ra 119) v4.toNat v3) H locs := hH
  rw [← eσ11] at hH
  have hGσ11 : RG σ11 := by rw [eσ11]; exact hGσ.pI g3
  have hS : Shp dm ra jx rm σ11 := by rw [eσ11]; exact hS
  have hc : CB n0 s0 σ11 := by rw [eσ11]; exact hc
  rw [show gc σ = gc σ11 by rw [eσ11], show gs σ = gs σ11 by rw [eσ11]]
  obtain ⟨q3, h⟩ := h
  refine lv_iinc (k := 2) (v := i32 (v2 + 1)) (lv' := [(2, .int (i32 (v2 + 1))), (0, .ref rm), (1, .int (i32 v1)), (3, .int (i32 v3)), (4, .int (i32 v4))]) B.1 B.2.1 dX16_sort_119 hl rfl (i32_add _ _) (by decide) rfl (fun ls hl => ?_)
  obtain ⟨q4, h⟩ := h
  refine lv_iinc (k := 3) (v := i32 (v3 + 1)) (lv' := [(3, .int (i32 (v3 + 1))), (2, .int (i32 (v2 + 1))), (0, .ref rm), (1, .int (i32 v1)), (4, .int (i32 v4))]) B.1 B.2.1 dX16_sort_122 hl rfl (i32_add _ _) (by decide) rfl (fun ls hl => ?_)
  refine lv_goto (tgt := 9) B.1 B.2.1 dX16_sort_125 (by decide) ?_
  exact hK9 _ _ _ _ g1 q3 q4 h hGσ11 hS _ _ _ hH (lv_sub (l' := [(0, .ref rm), (1, .int (i32 v1)), (2, .int (i32 (v2 + 1))), (3, .int (i32 (v3 + 1)))]) hl [2, 3, 1, 0] rfl) hc
set_option maxRecDepth 20000 in
theorem a_X16_sort_89 {Q : Sg → Int → Prop} {X : Sg → String → Prop} (K : MC R p s m args c cX16_sort 5 RX16 D cA tys A n0 s0 1 30 []) (hQ : HQI p l e R s m args below meth c cX16_sort D cA A n0 s0 QM dm ra jx rm Q) (hX : HX p l e R s m args below meth c 5 D cA A n0 s0 QM dm ra jx rm X) {K9 : Sg → Int → Int → Int → Prop} (hK9 : ∀ (σ : Sg) (v1 : Int) (v2 : Int) (v3 : Int) (g1 : rng v1) (g2 : rng v2) (g3 : rng v3), K9 σ v1 v2 v3 → RG σ → Shp dm ra jx rm σ → JJ p l e R s m args below meth c 5 D cA A n0 s0 QM σ 9 [(0, .ref rm), (1, .int (i32 v1)), (2, .int (i32 v2)), (3, .int (i32 v3))] []) {K24 : Sg → Int → Int → Int → Int → Prop} (hK24 : ∀ (σ : Sg) (v1 : Int) (v2 : Int) (v3 : Int) (v4 : Int) (g1 : rng v1) (g2 : rng v2) (g3 : rng v3) (g4 : rng v4), K24 σ v1 v2 v3 v4 → RG σ → Shp dm ra jx rm σ → JJ p l e R s m args below meth c 5 D cA A n0 s0 QM σ 24 [(0, .ref rm), (1, .int (i32 v1)), (2, .int (i32 v2)), (3, .int (i32 v3)), (4, .int (i32 v4))] []) : ∀ (σ : Sg) (v1 : Int) (v2 : Int) (v3 : Int) (v4 : Int) (g1 : rng v1) (g2 : rng v2) (g3 : rng v3) (g4 : rng v4), w_X16_sort_89 ra jx rm K9 K24 Q X σ v1 v2 v3 v4 → RG σ → Shp dm ra jx rm σ → JJ p l e R s m args below meth c 5 D cA A n0 s0 QM σ 89 [(0, .ref rm), (1, .int (i32 v1)), (2, .int (i32 v2)), (3, .int (i32 v3)), (4, .int (i32 v4))] [] := by
  intro σ v1 v2 v3 v4 g1 g2 g3 g4 h hGσ hS H locs ls hH hl hc
  have B := K.1
  unfold w_X16_sort_89 at h
  refine lv_aload_n B.1 B.2.1 dX16_sort_89 rfl (lv_at hl 0 rfl) ?_
  refine r_arr B hH hS 119 (kd := 100) (n := 4000) (by decide) (by decide) wf_X16_877 rfl rfl dX16_sort_90 ?_
  refine lv_iload B.1 B.2.1 dX16_sort_93 (lv_at hl 4 rfl) ?_
  refine lv_aload_n B.1 B.2.1 dX16_sort_95 rfl (lv_at hl 0 rfl) ?_
  refine r_arr B hH hS 119 (kd := 100) (n := 4000) (by decide) (by decide) wf_X16_877 rfl rfl dX16_sort_96 ?_
  refine lv_iload B.1 B.2.1 dX16_sort_99 (lv_at hl 4 rfl) ?_
  refine lv_iconst (v := i32 1) B.1 B.2.1 dX16_sort_101 (by decide) ?_
  obtain ⟨q1, h⟩ := h
  refine lv_isub B.1 B.2.1 dX16_sort_102 ?_
  rw [i32_sub]
  obtain ⟨q2, h⟩ := h
  refine x_iald B K.2.1 hH (hS.ar (k := 119) (kd := 100) (n := 4000) (by decide)) (by decide) q2 dX16_sort_103 ?_
  obtain ⟨q3, h⟩ := h
  obtain ⟨σ12, eσ12⟩ : ∃ z, z = pI σ (ra 119) v4.toNat (gI σ (ra 119) (v4 - 1).toNat) := ⟨_, rfl⟩
  have h := h σ12 eσ12
  refine x_iast B K.2.1 hH (hS.ar (k := 119) (kd := 100) (n := 4000) (by decide)) (by decide) q3 dX16_sort_104 (fun H locs hH => ?_)
  have hH : Hd D cA A s (pI σ (ra 119) v4.toNat (gI σ (ra 119) (v4 - 1).toNat)) H locs := hH
  rw [← eσ12] at hH
  have hGσ12 : RG σ12 := by rw [eσ12]; exact hGσ.pI (hGσ _ _)
  have hS : Shp dm ra jx rm σ12 := by rw [eσ12]; exact hS
  have hc : CB n0 s0 σ12 := by rw [eσ12]; exact hc
  rw [show gc σ = gc σ12 by rw [eσ12], show gs σ = gs σ12 by rw [eσ12]]
  obtain ⟨q5, h⟩ := h
  refine lv_iinc (k := 4) (v := i32 (v4 + (-1))) (lv' := [(4, .int (i32 (v4 + (-1)))), (0, .ref rm), (1, .int (i32 v1)), (2, .int (i32 v2)), (3, .int (i32 v3))]) B.1 B.2.1 dX16_sort_105 hl rfl (i32_add _ _) (by decide) rfl (fun ls hl => ?_)
  refine lv_goto (tgt := 24) B.1 B.2.1 dX16_sort_108 (by decide) ?_
  exact hK24 _ _ _ _ _ g1 g2 g3 q5 h hGσ12 hS _ _ _ hH (lv_sub (l' := [(0, .ref rm), (1, .int (i32 v1)), (2, .int (i32 v2)), (3, .int (i32 v3)), (4, .int (i32 (v4 + (-1))))]) hl [1, 2, 3, 4, 0] rfl) hc
set_option maxRecDepth 20000 in
theorem a_X16_sort_29 {Q : Sg → Int → Prop} {X : Sg → String → Prop} (K : MC R p s m args c cX16_sort 5 RX16 D cA tys A n0 s0 1 30 []) (hQ : HQI p l e R s m args below meth c cX16_sort D cA A n0 s0 QM dm ra jx rm Q) (hX : HX p l e R s m args below meth c 5 D cA A n0 s0 QM dm ra jx rm X) {K9 : Sg → Int → Int → Int → Prop} (hK9 : ∀ (σ : Sg) (v1 : Int) (v2 : Int) (v3 : Int) (g1 : rng v1) (g2 : rng v2) (g3 : rng v3), K9 σ v1 v2 v3 → RG σ → Shp dm ra jx rm σ → JJ p l e R s m args below meth c 5 D cA A n0 s0 QM σ 9 [(0, .ref rm), (1, .int (i32 v1)), (2, .int (i32 v2)), (3, .int (i32 v3))] []) {K24 : Sg → Int → Int → Int → Int → Prop} (hK24 : ∀ (σ : Sg) (v1 : Int) (v2 : Int) (v3 : Int) (v4 : Int) (g1 : rng v1) (g2 : rng v2) (g3 : rng v3) (g4 : rng v4), K24 σ v1 v2 v3 v4 → RG σ → Shp dm ra jx rm σ → JJ p l e R s m args below meth c 5 D cA A n0 s0 QM σ 24 [(0, .ref rm), (1, .int (i32 v1)), (2, .int (i32 v2)), (3, .int (i32 v3)), (4, .int (i32 v4))] []) : ∀ (σ : Sg) (v1 : Int) (v2 : Int) (v3 : Int) (v4 : Int) (g1 : rng v1) (g2 : rng v2) (g3 : rng v3) (g4 : rng v4), w_X16_sort_29 ra jx rm K9 K24 Q X σ v1 v2 v3 v4 → RG σ → Shp dm ra jx rm σ → JJ p l e R s m args below meth c 5 D cA A n0 s0 QM σ 29 [(0, .ref rm), (1, .int (i32 v1)), (2, .int (i32 v2)), (3, .int (i32 v3)), (4, .int (i32 v4))] [] := by
  intro σ v1 v2 v3 v4 g1 g2 g3 g4 h hGσ hS H locs ls hH hl hc
  have B := K.1
  unfold w_X16_sort_29 at h
  refine lv_aload_n B.1 B.2.1 dX16_sort_29 rfl (lv_at hl 0 rfl) ?_
  refine lv_aload_n B.1 B.2.1 dX16_sort_30 rfl (lv_at hl 0 rfl) ?_
  refine r_arr B hH hS 115 (kd := 101) (n := 4000) (by decide) (by decide) wf_X16_864 rfl rfl dX16_sort_31 ?_
  refine lv_iload_n B.1 B.2.1 dX16_sort_34 rfl (lv_at hl 3 rfl) ?_
  obtain ⟨q1, h⟩ := h
  refine x_lald B K.2.1 hH (hS.ar (k := 115) (kd := 101) (n := 4000) (by decide)) (by decide) q1 dX16_sort_35 ?_
  refine lv_aload_n B.1 B.2.1 dX16_sort_36 rfl (lv_at hl 0 rfl) ?_
  refine r_arr B hH hS 116 (kd := 101) (n := 32000) (by decide) (by decide) wf_X16_867 rfl rfl dX16_sort_37 ?_
  refine lv_bipush (v := i32 8) B.1 B.2.1 dX16_sort_40 (by decide) ?_
  refine lv_iload_n B.1 B.2.1 dX16_sort_42 rfl (lv_at hl 3 rfl) ?_
  obtain ⟨q2, h⟩ := h
  refine lv_imul B.1 B.2.1 dX16_sort_43 ?_
  rw [i32_mul]
  refine lv_aload_n B.1 B.2.1 dX16_sort_44 rfl (lv_at hl 0 rfl) ?_
  refine r_arr B hH hS 115 (kd := 101) (n := 4000) (by decide) (by decide) wf_X16_864 rfl rfl dX16_sort_45 ?_
  refine lv_aload_n B.1 B.2.1 dX16_sort_48 rfl (lv_at hl 0 rfl) ?_
  refine r_arr B hH hS 119 (kd := 100) (n := 4000) (by decide) (by decide) wf_X16_877 rfl rfl dX16_sort_49 ?_
  refine lv_iload B.1 B.2.1 dX16_sort_52 (lv_at hl 4 rfl) ?_
  refine lv_iconst (v := i32 1) B.1 B.2.1 dX16_sort_54 (by decide) ?_
  obtain ⟨q3, h⟩ := h
  refine lv_isub B.1 B.2.1 dX16_sort_55 ?_
  rw [i32_sub]
  obtain ⟨q4, h⟩ := h
  refine x_iald B K.2.1 hH (hS.ar (k := 119) (kd := 100) (n := 4000) (by decide)) (by decide) q4 dX16_sort_56 ?_
  obtain ⟨q5, h⟩ := h
  refine x_lald B K.2.1 hH (hS.ar (k := 115) (kd := 101) (n := 4000) (by decide)) (by decide) q5 dX16_sort_57 ?_
  refine lv_aload_n B.1 B.2.1 dX16_sort_58 rfl (lv_at hl 0 rfl) ?_
  refine r_arr B hH hS 116 (kd := 101) (n := 32000) (by decide) (by decide) wf_X16_867 rfl rfl dX16_sort_59 ?_
  refine lv_bipush (v := i32 8) B.1 B.2.1 dX16_sort_62 (by decide) ?_
  refine lv_aload_n B.1 B.2.1 dX16_sort_64 rfl (lv_at hl 0 rfl) ?_
  refine r_arr B hH hS 119 (kd := 100) (n := 4000) (by decide) (by decide) wf_X16_877 rfl rfl dX16_sort_65 ?_
  refine lv_iload B.1 B.2.1 dX16_sort_68 (lv_at hl 4 rfl) ?_
  refine lv_iconst (v := i32 1) B.1 B.2.1 dX16_sort_70 (by decide) ?_
  obtain ⟨q6, h⟩ := h
  refine lv_isub B.1 B.2.1 dX16_sort_71 ?_
  rw [i32_sub]
  obtain ⟨q7, h⟩ := h
  refine x_iald B K.2.1 hH (hS.ar (k := 119) (kd := 100) (n := 4000) (by decide)) (by decide) q7 dX16_sort_72 ?_
  obtain ⟨q8, h⟩ := h
  refine lv_imul B.1 B.2.1 dX16_sort_73 ?_
  rw [i32_mul]
  refine lv_aload_n B.1 B.2.1 dX16_sort_74 rfl (lv_at hl 0 rfl) ?_
  refine r_getp B hH hS 17 (by decide) wf_X16_356 rfl rfl dX16_sort_75 ?_
  obtain ⟨a13, ea13, ja13, h⟩ := h
  refine W.eq (g2 := F0 m 78 ls [.ref a13, .int (i32 (8 * (gI σ (ra 119) (v4 - 1).toNat))), .ref (ra 116), .long (gJ σ (ra 115) (gI σ (ra 119) (v4 - 1).toNat).toNat), .int (i32 (8 * v3)), .ref (ra 116), .long (gJ σ (ra 115) v3.toNat), .ref rm]) (by rw [ea13]; rfl) ?_
  refine n_arr B hH hS ja13 6 (kd := 100) (n := 16) (by decide) (by decide) (List.mem_of_getElem? (i := 6) rfl) rfl dX16_sort_78 ?_
  refine lv_iload_n B.1 B.2.1 dX16_sort_81 rfl (lv_at hl 1 rfl) ?_
  obtain ⟨q10, h⟩ := h
  refine x_iald B K.2.1 hH (hS.ja ja13 (k := 6) (kd := 100) (n := 16) (by decide)) (by decide) q10 dX16_sort_82 ?_
  refine c_V B hH hl hc K.2.2.1 (C := RX16) (T := TX16) (N := 123) (ci := 16) (As := [.long (gJ σ (ra 115) v3.toNat), va_rf (some (ra 116)), .int (i32 (8 * v3)), .long (gJ σ (ra 115) (gI σ (ra 119) (v4 - 1).toNat).toNat), va_rf (some (ra 116)), .int (i32 (8 * (gI σ (ra 119) (v4 - 1).toNat))), .int (i32 (gI σ (jx a13 6) v1.toNat))]) (ok_X16_order K.2.1 σ (gJ σ (ra 115) v3.toNat) (some (ra 116)) (8 * v3) (gJ σ (ra 115) (gI σ (ra 119) (v4 - 1).toNat).toNat) (some (ra 116)) (8 * (gI σ (ra 119) (v4 - 1).toNat)) (gI σ (jx a13 6) v1.toNat) q2 q8 (hGσ _ _) hGσ hS h) wc_X16_534 7 hd_X16_order ⟨Nat.le_trans (Nat.le_of_ble_eq_true rfl) K.2.2.2.1, Nat.le_trans (Nat.le_of_ble_eq_true rfl) K.2.2.2.2.1⟩ hS.1.1 hS.1.2 (by decide) rfl rfl (rest := []) rfl (Nat.le_of_ble_eq_true rfl) dX16_sort_83 (fun σ14 w hq => ?_) (fun σ9 E9 hx9 => hX σ9 E9 _ _ _ (tb_out K.2.2.2.2.2 rfl) hx9.1 hx9.2.1 hx9.2.2)
  obtain ⟨r15, rfl, gr15, h, hGσ14, hS⟩ := hq
  intro H locs ls hH hl hc
  refine W.eq (g2 := F0 m 86 ls [.int (i32 r15)]) (rfl) ?_
  try dsimp only at h
  refine lv_if_ge (tgt := 111) B.1 B.2.1 dX16_sort_86 (by decide) (fun h9 => ?_) (fun h9 => ?_)
  · rw [if_pos ((z_ge gr15).mp h9)] at h
    exact a_X16_sort_111 K hQ hX hK9 _ _ _ _ _ g1 g2 g3 g4 h hGσ14 hS _ _ _ hH (lv_sub (l' := [(0, .ref rm), (1, .int (i32 v1)), (2, .int (i32 v2)), (3, .int (i32 v3)), (4, .int (i32 v4))]) hl [0, 1, 2, 3, 4] rfl) hc
  · rw [if_neg (fun q => h9 ((z_ge gr15).mpr q))] at h
    exact a_X16_sort_89 K hQ hX hK9 hK24 _ _ _ _ _ g1 g2 g3 g4 h hGσ14 hS _ _ _ hH (lv_sub (l' := [(0, .ref rm), (1, .int (i32 v1)), (2, .int (i32 v2)), (3, .int (i32 v3)), (4, .int (i32 v4))]) hl [0, 1, 2, 3, 4] rfl) hc
set_option maxRecDepth 20000 in
theorem a_X16_sort_24 {Q : Sg → Int → Prop} {X : Sg → String → Prop} (K : MC R p s m args c cX16_sort 5 RX16 D cA tys A n0 s0 1 30 []) (hQ : HQI p l e R s m args below meth c cX16_sort D cA A n0 s0 QM dm ra jx rm Q) (hX : HX p l e R s m args below meth c 5 D cA A n0 s0 QM dm ra jx rm X) {K9 : Sg → Int → Int → Int → Prop} (hK9 : ∀ (σ : Sg) (v1 : Int) (v2 : Int) (v3 : Int) (g1 : rng v1) (g2 : rng v2) (g3 : rng v3), K9 σ v1 v2 v3 → RG σ → Shp dm ra jx rm σ → JJ p l e R s m args below meth c 5 D cA A n0 s0 QM σ 9 [(0, .ref rm), (1, .int (i32 v1)), (2, .int (i32 v2)), (3, .int (i32 v3))] []) {K24 : Sg → Int → Int → Int → Int → Prop} (hK24 : ∀ (σ : Sg) (v1 : Int) (v2 : Int) (v3 : Int) (v4 : Int) (g1 : rng v1) (g2 : rng v2) (g3 : rng v3) (g4 : rng v4), K24 σ v1 v2 v3 v4 → RG σ → Shp dm ra jx rm σ → JJ p l e R s m args below meth c 5 D cA A n0 s0 QM σ 24 [(0, .ref rm), (1, .int (i32 v1)), (2, .int (i32 v2)), (3, .int (i32 v3)), (4, .int (i32 v4))] []) : ∀ (σ : Sg) (v1 : Int) (v2 : Int) (v3 : Int) (v4 : Int) (g1 : rng v1) (g2 : rng v2) (g3 : rng v3) (g4 : rng v4), w_X16_sort_24 ra jx rm K9 K24 Q X σ v1 v2 v3 v4 → RG σ → Shp dm ra jx rm σ → JJ p l e R s m args below meth c 5 D cA A n0 s0 QM σ 24 [(0, .ref rm), (1, .int (i32 v1)), (2, .int (i32 v2)), (3, .int (i32 v3)), (4, .int (i32 v4))] [] := by
  intro σ v1 v2 v3 v4 g1 g2 g3 g4 h hGσ hS H locs ls hH hl hc
  have B := K.1
  unfold w_X16_sort_24 at h
  refine lv_iload B.1 B.2.1 dX16_sort_24 (lv_at hl 4 rfl) ?_
  refine lv_if_le (tgt := 111) B.1 B.2.1 dX16_sort_26 (by decide) (fun h9 => ?_) (fun h9 => ?_)
  · rw [if_pos ((z_le g4).mp h9)] at h
    exact a_X16_sort_111 K hQ hX hK9 _ _ _ _ _ g1 g2 g3 g4 h hGσ hS _ _ _ hH (lv_sub (l' := [(0, .ref rm), (1, .int (i32 v1)), (2, .int (i32 v2)), (3, .int (i32 v3)), (4, .int (i32 v4))]) hl [0, 1, 2, 3, 4] rfl) hc
  · rw [if_neg (fun q => h9 ((z_le g4).mpr q))] at h
    exact a_X16_sort_29 K hQ hX hK9 hK24 _ _ _ _ _ g1 g2 g3 g4 h hGσ hS _ _ _ hH (lv_sub (l' := [(0, .ref rm), (1, .int (i32 v1)), (2, .int (i32 v2)), (3, .int (i32 v3)), (4, .int (i32 v4))]) hl [0, 1, 2, 3, 4] rfl) hc
theorem al_X16_sort_24 {Q : Sg → Int → Prop} {X : Sg → String → Prop} (K : MC R p s m args c cX16_sort 5 RX16 D cA tys A n0 s0 1 30 []) (hQ : HQI p l e R s m args below meth c cX16_sort D cA A n0 s0 QM dm ra jx rm Q) (hX : HX p l e R s m args below meth c 5 D cA A n0 s0 QM dm ra jx rm X) {K9 : Sg → Int → Int → Int → Prop} (hK9 : ∀ (σ : Sg) (v1 : Int) (v2 : Int) (v3 : Int) (g1 : rng v1) (g2 : rng v2) (g3 : rng v3), K9 σ v1 v2 v3 → RG σ → Shp dm ra jx rm σ → JJ p l e R s m args below meth c 5 D cA A n0 s0 QM σ 9 [(0, .ref rm), (1, .int (i32 v1)), (2, .int (i32 v2)), (3, .int (i32 v3))] []) : ∀ (n : Nat), ∀ (σ : Sg) (v1 : Int) (v2 : Int) (v3 : Int) (v4 : Int) (g1 : rng v1) (g2 : rng v2) (g3 : rng v3) (g4 : rng v4), wl_X16_sort_24 ra jx rm K9 Q X n σ v1 v2 v3 v4 → RG σ → Shp dm ra jx rm σ → JJ p l e R s m args below meth c 5 D cA A n0 s0 QM σ 24 [(0, .ref rm), (1, .int (i32 v1)), (2, .int (i32 v2)), (3, .int (i32 v3)), (4, .int (i32 v4))] [] := by
  intro n
  induction n with
  | zero => intro σ v1 v2 v3 v4 g1 g2 g3 g4 h; exact h.elim
  | succ n ih => exact fun σ v1 v2 v3 v4 g1 g2 g3 g4 h => a_X16_sort_24 K hQ hX hK9 ih σ v1 v2 v3 v4 g1 g2 g3 g4 h
set_option maxRecDepth 20000 in
theorem a_X16_sort_21 {Q : Sg → Int → Prop} {X : Sg → String → Prop} (K : MC R p s m args c cX16_sort 5 RX16 D cA tys A n0 s0 1 30 []) (hQ : HQI p l e R s m args below meth c cX16_sort D cA A n0 s0 QM dm ra jx rm Q) (hX : HX p l e R s m args below meth c 5 D cA A n0 s0 QM dm ra jx rm X) {K9 : Sg → Int → Int → Int → Prop} (hK9 : ∀ (σ : Sg) (v1 : Int) (v2 : Int) (v3 : Int) (g1 : rng v1) (g2 : rng v2) (g3 : rng v3), K9 σ v1 v2 v3 → RG σ → Shp dm ra jx rm σ → JJ p l e R s m args below meth c 5 D cA A n0 s0 QM σ 9 [(0, .ref rm), (1, .int (i32 v1)), (2, .int (i32 v2)), (3, .int (i32 v3))] []) : ∀ (σ : Sg) (v1 : Int) (v2 : Int) (v3 : Int) (g1 : rng v1) (g2 : rng v2) (g3 : rng v3), w_X16_sort_21 ra jx rm K9 Q X σ v1 v2 v3 → RG σ → Shp dm ra jx rm σ → JJ p l e R s m args below meth c 5 D cA A n0 s0 QM σ 21 [(0, .ref rm), (1, .int (i32 v1)), (2, .int (i32 v2)), (3, .int (i32 v3))] [] := by
  intro σ v1 v2 v3 g1 g2 g3 h hGσ hS H locs ls hH hl hc
  have B := K.1
  unfold w_X16_sort_21 at h
  refine lv_iload_n B.1 B.2.1 dX16_sort_21 rfl (lv_at hl 2 rfl) ?_
  refine lv_istore (lv' := [(4, .int (i32 v2)), (0, .ref rm), (1, .int (i32 v1)), (2, .int (i32 v2)), (3, .int (i32 v3))]) B.1 B.2.1 dX16_sort_22 hl (by decide) rfl (fun ls hl => ?_)
  obtain ⟨n9, h⟩ := h
  exact al_X16_sort_24 K hQ hX hK9 n9 _ _ _ _ _ g1 g2 g3 g2 h hGσ hS _ _ _ hH (lv_sub (l' := [(0, .ref rm), (1, .int (i32 v1)), (2, .int (i32 v2)), (3, .int (i32 v3)), (4, .int (i32 v2))]) hl [1, 2, 3, 4, 0] rfl) hc
set_option maxRecDepth 20000 in
theorem a_X16_sort_9 {Q : Sg → Int → Prop} {X : Sg → String → Prop} (K : MC R p s m args c cX16_sort 5 RX16 D cA tys A n0 s0 1 30 []) (hQ : HQI p l e R s m args below meth c cX16_sort D cA A n0 s0 QM dm ra jx rm Q) (hX : HX p l e R s m args below meth c 5 D cA A n0 s0 QM dm ra jx rm X) {K9 : Sg → Int → Int → Int → Prop} (hK9 : ∀ (σ : Sg) (v1 : Int) (v2 : Int) (v3 : Int) (g1 : rng v1) (g2 : rng v2) (g3 : rng v3), K9 σ v1 v2 v3 → RG σ → Shp dm ra jx rm σ → JJ p l e R s m args below meth c 5 D cA A n0 s0 QM σ 9 [(0, .ref rm), (1, .int (i32 v1)), (2, .int (i32 v2)), (3, .int (i32 v3))] []) : ∀ (σ : Sg) (v1 : Int) (v2 : Int) (v3 : Int) (g1 : rng v1) (g2 : rng v2) (g3 : rng v3), w_X16_sort_9 ra jx rm K9 Q X σ v1 v2 v3 → RG σ → Shp dm ra jx rm σ → JJ p l e R s m args below meth c 5 D cA A n0 s0 QM σ 9 [(0, .ref rm), (1, .int (i32 v1)), (2, .int (i32 v2)), (3, .int (i32 v3))] [] := by
  intro σ v1 v2 v3 g1 g2 g3 h hGσ hS H locs ls hH hl hc
  have B := K.1
  unfold w_X16_sort_9 at h
  refine lv_iload_n B.1 B.2.1 dX16_sort_9 rfl (lv_at hl 3 rfl) ?_
  refine lv_aload_n B.1 B.2.1 dX16_sort_10 rfl (lv_at hl 0 rfl) ?_
  refine r_arr B hH hS 118 (kd := 100) (n := 17) (by decide) (by decide) wf_X16_874 rfl rfl dX16_sort_11 ?_
  refine lv_iload_n B.1 B.2.1 dX16_sort_14 rfl (lv_at hl 1 rfl) ?_
  refine lv_iconst (v := i32 1) B.1 B.2.1 dX16_sort_15 (by decide) ?_
  obtain ⟨q1, h⟩ := h
  refine lv_iadd B.1 B.2.1 dX16_sort_16 ?_
  rw [i32_add]
  obtain ⟨q2, h⟩ := h
  refine x_iald B K.2.1 hH (hS.ar (k := 118) (kd := 100) (n := 17) (by decide)) (by decide) q2 dX16_sort_17 ?_
  refine lv_icmp_ge (tgt := 128) B.1 B.2.1 dX16_sort_18 (by decide) (fun h9 => ?_) (fun h9 => ?_)
  · rw [if_pos ((i32_le (hGσ _ _) g3).mp h9)] at h
    exact a_X16_sort_128 K hQ hX _ _ g2 h hGσ hS _ _ _ hH (lv_sub (l' := [(0, .ref rm), (2, .int (i32 v2))]) hl [0, 2] rfl) hc
  · rw [if_neg (fun q => h9 ((i32_le (hGσ _ _) g3).mpr q))] at h
    exact a_X16_sort_21 K hQ hX hK9 _ _ _ _ g1 g2 g3 h hGσ hS _ _ _ hH (lv_sub (l' := [(0, .ref rm), (1, .int (i32 v1)), (2, .int (i32 v2)), (3, .int (i32 v3))]) hl [0, 1, 2, 3] rfl) hc
theorem al_X16_sort_9 {Q : Sg → Int → Prop} {X : Sg → String → Prop} (K : MC R p s m args c cX16_sort 5 RX16 D cA tys A n0 s0 1 30 []) (hQ : HQI p l e R s m args below meth c cX16_sort D cA A n0 s0 QM dm ra jx rm Q) (hX : HX p l e R s m args below meth c 5 D cA A n0 s0 QM dm ra jx rm X) : ∀ (n : Nat), ∀ (σ : Sg) (v1 : Int) (v2 : Int) (v3 : Int) (g1 : rng v1) (g2 : rng v2) (g3 : rng v3), wl_X16_sort_9 ra jx rm Q X n σ v1 v2 v3 → RG σ → Shp dm ra jx rm σ → JJ p l e R s m args below meth c 5 D cA A n0 s0 QM σ 9 [(0, .ref rm), (1, .int (i32 v1)), (2, .int (i32 v2)), (3, .int (i32 v3))] [] := by
  intro n
  induction n with
  | zero => intro σ v1 v2 v3 g1 g2 g3 h; exact h.elim
  | succ n ih => exact fun σ v1 v2 v3 g1 g2 g3 h => a_X16_sort_9 K hQ hX ih σ v1 v2 v3 g1 g2 g3 h
set_option maxRecDepth 20000 in
theorem a_X16_sort_0 {Q : Sg → Int → Prop} {X : Sg → String → Prop} (K : MC R p s m args c cX16_sort 5 RX16 D cA tys A n0 s0 1 30 []) (hQ : HQI p l e R s m args below meth c cX16_sort D cA A n0 s0 QM dm ra jx rm Q) (hX : HX p l e R s m args below meth c 5 D cA A n0 s0 QM dm ra jx rm X) : ∀ (σ : Sg) (v1 : Int) (g1 : rng v1), w_X16_sort_0 ra jx rm Q X σ v1 → RG σ → Shp dm ra jx rm σ → JJ p l e R s m args below meth c 5 D cA A n0 s0 QM σ 0 [(0, .ref rm), (1, .int (i32 v1))] [] := by
  intro σ v1 g1 h hGσ hS H locs ls hH hl hc
  have B := K.1
  unfold w_X16_sort_0 at h
  refine lv_iconst (v := i32 0) B.1 B.2.1 dX16_sort_0 (by decide) ?_
  refine lv_istore_n (lv' := [(2, .int (i32 0)), (0, .ref rm), (1, .int (i32 v1))]) B.1 B.2.1 dX16_sort_1 rfl hl (by decide) rfl (fun ls hl => ?_)
  refine lv_aload_n B.1 B.2.1 dX16_sort_2 rfl (lv_at hl 1 rfl) ?_
  refine r_arr B hH hS 118 (kd := 100) (n := 17) (by decide) (by decide) wf_X16_874 rfl rfl dX16_sort_3 ?_
  refine lv_iload_n B.1 B.2.1 dX16_sort_6 rfl (lv_at hl 2 rfl) ?_
  obtain ⟨q1, h⟩ := h
  refine x_iald B K.2.1 hH (hS.ar (k := 118) (kd := 100) (n := 17) (by decide)) (by decide) q1 dX16_sort_7 ?_
  refine lv_istore_n (lv' := [(3, .int (i32 (gI σ (ra 118) v1.toNat))), (2, .int (i32 0)), (0, .ref rm), (1, .int (i32 v1))]) B.1 B.2.1 dX16_sort_8 rfl hl (by decide) rfl (fun ls hl => ?_)
  obtain ⟨n9, h⟩ := h
  exact al_X16_sort_9 K hQ hX n9 _ _ _ _ g1 (by unfold rng; omega) (hGσ _ _) h hGσ hS _ _ _ hH (lv_sub (l' := [(0, .ref rm), (1, .int (i32 v1)), (2, .int (i32 0)), (3, .int (i32 (gI σ (ra 118) v1.toNat)))]) hl [2, 3, 1, 0] rfl) hc
theorem ok_X16_sort (hT : Tys cA tys) {Q : Sg → Int → Prop} {X : Sg → String → Prop} (σ : Sg) (v1 : Int) (g1 : rng v1) (hG : RG σ) (hS : Shp dm ra jx rm σ) (h : wp_X16_sort ra jx rm v1 σ Q X) : Ok l D cA tys A yX16_sort (.code yX16_sort cX16_sort 5 (some .int)) 1 30 [.ref rm, .int (i32 v1)] σ (QnI dm ra jx rm Q) (QxR dm ra jx rm X) := by
  unfold wp_X16_sort at h
  exact ok_I (plainFor_of_name (by decide)) (by exact Nat.le_of_ble_eq_true rfl) hT (fun p e R s m args below meth c K hQ hX H locs ls hH hl hc => a_X16_sort_0 K hQ hX σ v1 g1 h hG hS H locs ls hH (lv_sub (l' := [(0, .ref rm), (1, .int (i32 v1))]) hl [0, 1] rfl) hc)
theorem dX16_passFold_0 : decode cX16_passFold 0 = .ok (.aload_n 0, 1) := by decide +kernel
theorem dX16_passFold_1 : decode cX16_passFold 1 = .ok (.getfield 861, 3) := by decide +kernel
theorem dX16_passFold_4 : decode cX16_passFold 4 = .ok (.istore_n 3, 1) := by decide +kernel
theorem dX16_passFold_5 : decode cX16_passFold 5 = .ok (.aload_n 0, 1) := by decide +kernel
theorem dX16_passFold_6 : decode cX16_passFold 6 = .ok (.getfield 356, 3) := by decide +kernel
theorem dX16_passFold_9 : decode cX16_passFold 9 = .ok (.getfield 246, 3) := by decide +kernel
theorem dX16_passFold_12 : decode cX16_passFold 12 = .ok (.iload_n 1, 1) := by decide +kernel
theorem dX16_passFold_13 : decode cX16_passFold 13 = .ok (.iaload, 1) := by decide +kernel
theorem dX16_passFold_14 : decode cX16_passFold 14 = .ok (.iconst 5, 1) := by decide +kernel
theorem dX16_passFold_15 : decode cX16_passFold 15 = .ok (.if_icmp .ne 7, 3) := by decide +kernel
theorem dX16_passFold_18 : decode cX16_passFold 18 = .ok (.iconst 1, 1) := by decide +kernel
theorem dX16_passFold_19 : decode cX16_passFold 19 = .ok (.goto 4, 3) := by decide +kernel
theorem dX16_passFold_22 : decode cX16_passFold 22 = .ok (.iconst 0, 1) := by decide +kernel
theorem dX16_passFold_23 : decode cX16_passFold 23 = .ok (.istore 4, 2) := by decide +kernel
theorem dX16_passFold_25 : decode cX16_passFold 25 = .ok (.aload_n 0, 1) := by decide +kernel
theorem dX16_passFold_26 : decode cX16_passFold 26 = .ok (.iload_n 2, 1) := by decide +kernel
theorem dX16_passFold_27 : decode cX16_passFold 27 = .ok (.invokevirtual 883, 3) := by decide +kernel
theorem dX16_passFold_30 : decode cX16_passFold 30 = .ok (.istore 5, 2) := by decide +kernel
theorem dX16_passFold_32 : decode cX16_passFold 32 = .ok (.iconst 0, 1) := by decide +kernel
theorem dX16_passFold_33 : decode cX16_passFold 33 = .ok (.istore 6, 2) := by decide +kernel
theorem dX16_passFold_35 : decode cX16_passFold 35 = .ok (.iload 6, 2) := by decide +kernel
theorem dX16_passFold_37 : decode cX16_passFold 37 = .ok (.iload 5, 2) := by decide +kernel
theorem dX16_passFold_39 : decode cX16_passFold 39 = .ok (.if_icmp .ge 187, 3) := by decide +kernel
theorem dX16_passFold_42 : decode cX16_passFold 42 = .ok (.aload_n 0, 1) := by decide +kernel
theorem dX16_passFold_43 : decode cX16_passFold 43 = .ok (.getfield 877, 3) := by decide +kernel
theorem dX16_passFold_46 : decode cX16_passFold 46 = .ok (.iload 6, 2) := by decide +kernel
theorem dX16_passFold_48 : decode cX16_passFold 48 = .ok (.iaload, 1) := by decide +kernel
theorem dX16_passFold_49 : decode cX16_passFold 49 = .ok (.istore 7, 2) := by decide +kernel
theorem dX16_passFold_51 : decode cX16_passFold 51 = .ok (.aload_n 0, 1) := by decide +kernel
theorem dX16_passFold_52 : decode cX16_passFold 52 = .ok (.iload 7, 2) := by decide +kernel
theorem dX16_passFold_54 : decode cX16_passFold 54 = .ok (.invokevirtual 880, 3) := by decide +kernel
theorem dX16_passFold_57 : decode cX16_passFold 57 = .ok (.aload_n 0, 1) := by decide +kernel
theorem dX16_passFold_58 : decode cX16_passFold 58 = .ok (.getfield 864, 3) := by decide +kernel
theorem dX16_passFold_61 : decode cX16_passFold 61 = .ok (.iload 7, 2) := by decide +kernel
theorem dX16_passFold_63 : decode cX16_passFold 63 = .ok (.laload, 1) := by decide +kernel
theorem dX16_passFold_64 : decode cX16_passFold 64 = .ok (.lstore 8, 2) := by decide +kernel
theorem dX16_passFold_66 : decode cX16_passFold 66 = .ok (.aload_n 0, 1) := by decide +kernel
theorem dX16_passFold_67 : decode cX16_passFold 67 = .ok (.iload_n 1, 1) := by decide +kernel
theorem dX16_passFold_68 : decode cX16_passFold 68 = .ok (.lload 8, 2) := by decide +kernel
theorem dX16_passFold_70 : decode cX16_passFold 70 = .ok (.invokevirtual 886, 3) := by decide +kernel
theorem dX16_passFold_73 : decode cX16_passFold 73 = .ok (.ifCond .ne 6, 3) := by decide +kernel
theorem dX16_passFold_76 : decode cX16_passFold 76 = .ok (.goto 144, 3) := by decide +kernel
theorem dX16_passFold_79 : decode cX16_passFold 79 = .ok (.aload_n 0, 1) := by decide +kernel
theorem dX16_passFold_80 : decode cX16_passFold 80 = .ok (.getfield 542, 3) := by decide +kernel
theorem dX16_passFold_83 : decode cX16_passFold 83 = .ok (.aload_n 0, 1) := by decide +kernel
theorem dX16_passFold_84 : decode cX16_passFold 84 = .ok (.getfield 356, 3) := by decide +kernel
theorem dX16_passFold_87 : decode cX16_passFold 87 = .ok (.getfield 239, 3) := by decide +kernel
theorem dX16_passFold_90 : decode cX16_passFold 90 = .ok (.iload_n 1, 1) := by decide +kernel
theorem dX16_passFold_91 : decode cX16_passFold 91 = .ok (.iaload, 1) := by decide +kernel
theorem dX16_passFold_92 : decode cX16_passFold 92 = .ok (.laload, 1) := by decide +kernel
theorem dX16_passFold_93 : decode cX16_passFold 93 = .ok (.lstore 10, 2) := by decide +kernel
theorem dX16_passFold_95 : decode cX16_passFold 95 = .ok (.iload 4, 2) := by decide +kernel
theorem dX16_passFold_97 : decode cX16_passFold 97 = .ok (.ifCond .eq 31, 3) := by decide +kernel
theorem dX16_passFold_100 : decode cX16_passFold 100 = .ok (.aload_n 0, 1) := by decide +kernel
theorem dX16_passFold_101 : decode cX16_passFold 101 = .ok (.iload_n 1, 1) := by decide +kernel
theorem dX16_passFold_102 : decode cX16_passFold 102 = .ok (.iload_n 3, 1) := by decide +kernel
theorem dX16_passFold_103 : decode cX16_passFold 103 = .ok (.lload 10, 2) := by decide +kernel
theorem dX16_passFold_105 : decode cX16_passFold 105 = .ok (.lload 8, 2) := by decide +kernel
theorem dX16_passFold_107 : decode cX16_passFold 107 = .ok (.lload 8, 2) := by decide +kernel
theorem dX16_passFold_109 : decode cX16_passFold 109 = .ok (.aload_n 0, 1) := by decide +kernel
theorem dX16_passFold_110 : decode cX16_passFold 110 = .ok (.getfield 356, 3) := by decide +kernel
theorem dX16_passFold_113 : decode cX16_passFold 113 = .ok (.getfield 191, 3) := by decide +kernel
theorem dX16_passFold_116 : decode cX16_passFold 116 = .ok (.iload_n 1, 1) := by decide +kernel
theorem dX16_passFold_117 : decode cX16_passFold 117 = .ok (.laload, 1) := by decide +kernel
theorem dX16_passFold_118 : decode cX16_passFold 118 = .ok (.ladd, 1) := by decide +kernel
theorem dX16_passFold_119 : decode cX16_passFold 119 = .ok (.lconst 1, 1) := by decide +kernel
theorem dX16_passFold_120 : decode cX16_passFold 120 = .ok (.lsub, 1) := by decide +kernel
theorem dX16_passFold_121 : decode cX16_passFold 121 = .ok (.iconst 1, 1) := by decide +kernel
theorem dX16_passFold_122 : decode cX16_passFold 122 = .ok (.invokevirtual 890, 3) := by decide +kernel
theorem dX16_passFold_125 : decode cX16_passFold 125 = .ok (.goto 95, 3) := by decide +kernel
theorem dX16_passFold_128 : decode cX16_passFold 128 = .ok (.lload 8, 2) := by decide +kernel
theorem dX16_passFold_130 : decode cX16_passFold 130 = .ok (.aload_n 0, 1) := by decide +kernel
theorem dX16_passFold_131 : decode cX16_passFold 131 = .ok (.getfield 356, 3) := by decide +kernel
theorem dX16_passFold_134 : decode cX16_passFold 134 = .ok (.getfield 191, 3) := by decide +kernel
theorem dX16_passFold_137 : decode cX16_passFold 137 = .ok (.iload_n 1, 1) := by decide +kernel
theorem dX16_passFold_138 : decode cX16_passFold 138 = .ok (.laload, 1) := by decide +kernel
theorem dX16_passFold_139 : decode cX16_passFold 139 = .ok (.lsub, 1) := by decide +kernel
theorem dX16_passFold_140 : decode cX16_passFold 140 = .ok (.aload_n 0, 1) := by decide +kernel
theorem dX16_passFold_141 : decode cX16_passFold 141 = .ok (.getfield 356, 3) := by decide +kernel
theorem dX16_passFold_144 : decode cX16_passFold 144 = .ok (.getfield 204, 3) := by decide +kernel
theorem dX16_passFold_147 : decode cX16_passFold 147 = .ok (.iload_n 1, 1) := by decide +kernel
theorem dX16_passFold_148 : decode cX16_passFold 148 = .ok (.laload, 1) := by decide +kernel
theorem dX16_passFold_149 : decode cX16_passFold 149 = .ok (.invokestatic 596, 3) := by decide +kernel
theorem dX16_passFold_152 : decode cX16_passFold 152 = .ok (.lconst 1, 1) := by decide +kernel
theorem dX16_passFold_153 : decode cX16_passFold 153 = .ok (.ladd, 1) := by decide +kernel
theorem dX16_passFold_154 : decode cX16_passFold 154 = .ok (.lstore 12, 2) := by decide +kernel
theorem dX16_passFold_156 : decode cX16_passFold 156 = .ok (.lload 12, 2) := by decide +kernel
theorem dX16_passFold_158 : decode cX16_passFold 158 = .ok (.lload 8, 2) := by decide +kernel
theorem dX16_passFold_160 : decode cX16_passFold 160 = .ok (.aload_n 0, 1) := by decide +kernel
theorem dX16_passFold_161 : decode cX16_passFold 161 = .ok (.getfield 356, 3) := by decide +kernel
theorem dX16_passFold_164 : decode cX16_passFold 164 = .ok (.getfield 204, 3) := by decide +kernel
theorem dX16_passFold_167 : decode cX16_passFold 167 = .ok (.iload_n 1, 1) := by decide +kernel
theorem dX16_passFold_168 : decode cX16_passFold 168 = .ok (.laload, 1) := by decide +kernel
theorem dX16_passFold_169 : decode cX16_passFold 169 = .ok (.invokestatic 596, 3) := by decide +kernel
theorem dX16_passFold_172 : decode cX16_passFold 172 = .ok (.lcmp, 1) := by decide +kernel
theorem dX16_passFold_173 : decode cX16_passFold 173 = .ok (.ifCond .gt 47, 3) := by decide +kernel
theorem dX16_passFold_176 : decode cX16_passFold 176 = .ok (.aload_n 0, 1) := by decide +kernel
theorem dX16_passFold_177 : decode cX16_passFold 177 = .ok (.iload_n 1, 1) := by decide +kernel
theorem dX16_passFold_178 : decode cX16_passFold 178 = .ok (.iload_n 3, 1) := by decide +kernel
theorem dX16_passFold_179 : decode cX16_passFold 179 = .ok (.lload 10, 2) := by decide +kernel
theorem dX16_passFold_181 : decode cX16_passFold 181 = .ok (.lload 8, 2) := by decide +kernel
theorem dX16_passFold_183 : decode cX16_passFold 183 = .ok (.lload 12, 2) := by decide +kernel
theorem dX16_passFold_185 : decode cX16_passFold 185 = .ok (.aload_n 0, 1) := by decide +kernel
theorem dX16_passFold_186 : decode cX16_passFold 186 = .ok (.getfield 356, 3) := by decide +kernel
theorem dX16_passFold_189 : decode cX16_passFold 189 = .ok (.getfield 204, 3) := by decide +kernel
theorem dX16_passFold_192 : decode cX16_passFold 192 = .ok (.iload_n 1, 1) := by decide +kernel
theorem dX16_passFold_193 : decode cX16_passFold 193 = .ok (.laload, 1) := by decide +kernel
theorem dX16_passFold_194 : decode cX16_passFold 194 = .ok (.lmul, 1) := by decide +kernel
theorem dX16_passFold_195 : decode cX16_passFold 195 = .ok (.aload_n 0, 1) := by decide +kernel
theorem dX16_passFold_196 : decode cX16_passFold 196 = .ok (.getfield 356, 3) := by decide +kernel
theorem dX16_passFold_199 : decode cX16_passFold 199 = .ok (.getfield 191, 3) := by decide +kernel
theorem dX16_passFold_202 : decode cX16_passFold 202 = .ok (.iload_n 1, 1) := by decide +kernel
theorem dX16_passFold_203 : decode cX16_passFold 203 = .ok (.laload, 1) := by decide +kernel
theorem dX16_passFold_204 : decode cX16_passFold 204 = .ok (.ladd, 1) := by decide +kernel
theorem dX16_passFold_205 : decode cX16_passFold 205 = .ok (.lconst 1, 1) := by decide +kernel
theorem dX16_passFold_206 : decode cX16_passFold 206 = .ok (.lsub, 1) := by decide +kernel
theorem dX16_passFold_207 : decode cX16_passFold 207 = .ok (.iconst 0, 1) := by decide +kernel
theorem dX16_passFold_208 : decode cX16_passFold 208 = .ok (.invokevirtual 890, 3) := by decide +kernel
theorem dX16_passFold_211 : decode cX16_passFold 211 = .ok (.lload 12, 2) := by decide +kernel
theorem dX16_passFold_213 : decode cX16_passFold 213 = .ok (.lconst 1, 1) := by decide +kernel
theorem dX16_passFold_214 : decode cX16_passFold 214 = .ok (.ladd, 1) := by decide +kernel
theorem dX16_passFold_215 : decode cX16_passFold 215 = .ok (.lstore 12, 2) := by decide +kernel
theorem dX16_passFold_217 : decode cX16_passFold 217 = .ok (.goto (-61), 3) := by decide +kernel
theorem dX16_passFold_220 : decode cX16_passFold 220 = .ok (.iinc 6 1, 3) := by decide +kernel
theorem dX16_passFold_223 : decode cX16_passFold 223 = .ok (.goto (-188), 3) := by decide +kernel
theorem dX16_passFold_226 : decode cX16_passFold 226 = .ok (.return_, 1) := by decide +kernel
set_option maxRecDepth 20000 in
theorem a_X16_passFold_226 {Q : Sg → Unit → Prop} {X : Sg → String → Prop} (K : MC R p s m args c cX16_passFold 14 RX16 D cA tys A n0 s0 3 82 []) (hQ : HQV p l e R s m args below meth c cX16_passFold D cA A n0 s0 QM dm ra jx rm Q) (hX : HX p l e R s m args below meth c 14 D cA A n0 s0 QM dm ra jx rm X) : ∀ (σ : Sg), w_X16_passFold_226 ra jx rm Q X σ → RG σ → Shp dm ra jx rm σ → JJ p l e R s m args below meth c 14 D cA A n0 s0 QM σ 226 [(0, .ref rm)] [] := by
  intro σ h hGσ hS H locs ls hH hl hc
  have B := K.1
  unfold w_X16_passFold_226 at h
  exact hQ _ _ _ _ _ dX16_passFold_226 hH hc h hGσ hS
set_option maxRecDepth 20000 in
theorem a_X16_passFold_220 {Q : Sg → Unit → Prop} {X : Sg → String → Prop} (K : MC R p s m args c cX16_passFold 14 RX16 D cA tys A n0 s0 3 82 []) (hQ : HQV p l e R s m args below meth c cX16_passFold D cA A n0 s0 QM dm ra jx rm Q) (hX : HX p l e R s m args below meth c 14 D cA A n0 s0 QM dm ra jx rm X) {K35 : Sg → Int → Int → Int → Int → Int → Prop} (hK35 : ∀ (σ : Sg) (v1 : Int) (v3 : Int) (v4 : Int) (v5 : Int) (v6 : Int) (g1 : rng v1) (g3 : rng v3) (g4 : rng v4) (g5 : rng v5) (g6 : rng v6), K35 σ v1 v3 v4 v5 v6 → RG σ → Shp dm ra jx rm σ → JJ p l e R s m args below meth c 14 D cA A n0 s0 QM σ 35 [(0, .ref rm), (1, .int (i32 v1)), (3, .int (i32 v3)), (4, .int (i32 v4)), (5, .int (i32 v5)), (6, .int (i32 v6))] []) : ∀ (σ : Sg) (v1 : Int) (v3 : Int) (v4 : Int) (v5 : Int) (v6 : Int) (g1 : rng v1) (g3 : rng v3) (g4 : rng v4) (g5 : rng v5) (g6 : rng v6), w_X16_passFold_220 ra jx rm K35 Q X σ v1 v3 v4 v5 v6 → RG σ → Shp dm ra jx rm σ → JJ p l e R s m args below meth c 14 D cA A n0 s0 QM σ 220 [(0, .ref rm), (1, .int (i32 v1)), (3, .int (i32 v3)), (4, .int (i32 v4)), (5, .int (i32 v5)), (6, .int (i32 v6))] [] := by
  intro σ v1 v3 v4 v5 v6 g1 g3 g4 g5 g6 h hGσ hS H locs ls hH hl hc
  have B := K.1
  unfold w_X16_passFold_220 at h
  obtain ⟨q1, h⟩ := h
  refine lv_iinc (k := 5) (v := i32 (v6 + 1)) (lv' := [(6, .int (i32 (v6 + 1))), (0, .ref rm), (1, .int (i32 v1)), (3, .int (i32 v3)), (4, .int (i32 v4)), (5, .int (i32 v5))]) B.1 B.2.1 dX16_passFold_220 hl rfl (i32_add _ _) (by decide) rfl (fun ls hl => ?_)
  refine lv_goto (tgt := 35) B.1 B.2.1 dX16_passFold_223 (by decide) ?_
  exact hK35 _ _ _ _ _ _ g1 g3 g4 g5 q1 h hGσ hS _ _ _ hH (lv_sub (l' := [(0, .ref rm), (1, .int (i32 v1)), (3, .int (i32 v3)), (4, .int (i32 v4)), (5, .int (i32 v5)), (6, .int (i32 (v6 + 1)))]) hl [1, 2, 3, 4, 5, 0] rfl) hc
set_option maxRecDepth 20000 in
theorem a_X16_passFold_176 {Q : Sg → Unit → Prop} {X : Sg → String → Prop} (K : MC R p s m args c cX16_passFold 14 RX16 D cA tys A n0 s0 3 82 []) (hQ : HQV p l e R s m args below meth c cX16_passFold D cA A n0 s0 QM dm ra jx rm Q) (hX : HX p l e R s m args below meth c 14 D cA A n0 s0 QM dm ra jx rm X) {K35 : Sg → Int → Int → Int → Int → Int → Prop} (hK35 : ∀ (σ : Sg) (v1 : Int) (v3 : Int) (v4 : Int) (v5 : Int) (v6 : Int) (g1 : rng v1) (g3 : rng v3) (g4 : rng v4) (g5 : rng v5) (g6 : rng v6), K35 σ v1 v3 v4 v5 v6 → RG σ → Shp dm ra jx rm σ → JJ p l e R s m args below meth c 14 D cA A n0 s0 QM σ 35 [(0, .ref rm), (1, .int (i32 v1)), (3, .int (i32 v3)), (4, .int (i32 v4)), (5, .int (i32 v5)), (6, .int (i32 v6))] []) {K156 : Sg → Int → Int → Int → Int → Int → Int64 → Int64 → Int64 → Prop} (hK156 : ∀ (σ : Sg) (v1 : Int) (v3 : Int) (v4 : Int) (v5 : Int) (v6 : Int) (v8 : Int64) (v10 : Int64) (v12 : Int64) (g1 : rng v1) (g3 : rng v3) (g4 : rng v4) (g5 : rng v5) (g6 : rng v6), K156 σ v1 v3 v4 v5 v6 v8 v10 v12 → RG σ → Shp dm ra jx rm σ → JJ p l e R s m args below meth c 14 D cA A n0 s0 QM σ 156 [(0, .ref rm), (1, .int (i32 v1)), (3, .int (i32 v3)), (4, .int (i32 v4)), (5, .int (i32 v5)), (6, .int (i32 v6)), (8, .long v8), (10, .long v10), (12, .long v12)] []) : ∀ (σ : Sg) (v1 : Int) (v3 : Int) (v4 : Int) (v5 : Int) (v6 : Int) (v8 : Int64) (v10 : Int64) (v12 : Int64) (g1 : rng v1) (g3 : rng v3) (g4 : rng v4) (g5 : rng v5) (g6 : rng v6), w_X16_passFold_176 ra jx rm K35 K156 Q X σ v1 v3 v4 v5 v6 v8 v10 v12 → RG σ → Shp dm ra jx rm σ → JJ p l e R s m args below meth c 14 D cA A n0 s0 QM σ 176 [(0, .ref rm), (1, .int (i32 v1)), (3, .int (i32 v3)), (4, .int (i32 v4)), (5, .int (i32 v5)), (6, .int (i32 v6)), (8, .long v8), (10, .long v10), (12, .long v12)] [] := by
  intro σ v1 v3 v4 v5 v6 v8 v10 v12 g1 g3 g4 g5 g6 h hGσ hS H locs ls hH hl hc
  have B := K.1
  unfold w_X16_passFold_176 at h
  refine lv_aload_n B.1 B.2.1 dX16_passFold_176 rfl (lv_at hl 0 rfl) ?_
  refine lv_iload_n B.1 B.2.1 dX16_passFold_177 rfl (lv_at hl 1 rfl) ?_
  refine lv_iload_n B.1 B.2.1 dX16_passFold_178 rfl (lv_at hl 2 rfl) ?_
  refine lv_lload B.1 B.2.1 dX16_passFold_179 (lv_at hl 7 rfl) ?_
  refine lv_lload B.1 B.2.1 dX16_passFold_181 (lv_at hl 6 rfl) ?_
  refine lv_lload B.1 B.2.1 dX16_passFold_183 (lv_at hl 8 rfl) ?_
  refine lv_aload_n B.1 B.2.1 dX16_passFold_185 rfl (lv_at hl 0 rfl) ?_
  refine r_getp B hH hS 17 (by decide) wf_X16_356 rfl rfl dX16_passFold_186 ?_
  obtain ⟨a39, ea39, ja39, h⟩ := h
  refine W.eq (g2 := F0 m 189 ls [.ref a39, .long v12, .long v8, .long v10, .int (i32 v3), .int (i32 v1), .ref rm]) (by rw [ea39]; rfl) ?_
  refine n_arr B hH hS ja39 9 (kd := 101) (n := 16) (by decide) (by decide) (List.mem_of_getElem? (i := 9) rfl) rfl dX16_passFold_189 ?_
  refine lv_iload_n B.1 B.2.1 dX16_passFold_192 rfl (lv_at hl 1 rfl) ?_
  obtain ⟨q2, h⟩ := h
  refine x_lald B K.2.1 hH (hS.ja ja39 (k := 9) (kd := 101) (n := 16) (by decide)) (by decide) q2 dX16_passFold_193 ?_
  refine lv_lmul B.1 B.2.1 dX16_passFold_194 ?_
  refine lv_aload_n B.1 B.2.1 dX16_passFold_195 rfl (lv_at hl 0 rfl) ?_
  refine r_getp B hH hS 17 (by decide) wf_X16_356 rfl rfl dX16_passFold_196 ?_
  obtain ⟨a40, ea40, ja40, h⟩ := h
  refine W.eq (g2 := F0 m 199 ls [.ref a40, .long (v12 * (gJ σ (jx a39 9) v1.toNat)), .long v8, .long v10, .int (i32 v3), .int (i32 v1), .ref rm]) (by rw [ea40]; rfl) ?_
  refine n_arr B hH hS ja40 8 (kd := 101) (n := 16) (by decide) (by decide) (List.mem_of_getElem? (i := 8) rfl) rfl dX16_passFold_199 ?_
  refine lv_iload_n B.1 B.2.1 dX16_passFold_202 rfl (lv_at hl 1 rfl) ?_
  obtain ⟨q4, h⟩ := h
  refine x_lald B K.2.1 hH (hS.ja ja40 (k := 8) (kd := 101) (n := 16) (by decide)) (by decide) q4 dX16_passFold_203 ?_
  refine lv_ladd B.1 B.2.1 dX16_passFold_204 ?_
  refine lv_lconst (v := 1) B.1 B.2.1 dX16_passFold_205 (by decide) ?_
  refine lv_lsub B.1 B.2.1 dX16_passFold_206 ?_
  refine lv_iconst (v := i32 0) B.1 B.2.1 dX16_passFold_207 (by decide) ?_
  refine c_V B hH hl hc K.2.2.1 (C := RX16) (T := TX16) (N := 123) (ci := 16) (As := [.int (i32 v1), .int (i32 v3), .long v10, .long v8, .long (((v12 * (gJ σ (jx a39 9) v1.toNat)) + (gJ σ (jx a40 8) v1.toNat)) - 1), .int (i32 0)]) (ok_X16_gatherIn K.2.1 σ v1 v3 v10 v8 (((v12 * (gJ σ (jx a39 9) v1.toNat)) + (gJ σ (jx a40 8) v1.toNat)) - 1) 0 g1 g3 (by unfold rng; omega) hGσ hS h) wc_X16_890 6 hd_X16_gatherIn ⟨Nat.le_trans (Nat.le_of_ble_eq_true rfl) K.2.2.2.1, Nat.le_trans (Nat.le_of_ble_eq_true rfl) K.2.2.2.2.1⟩ hS.1.1 hS.1.2 (by decide) rfl rfl (rest := []) rfl (Nat.le_of_ble_eq_true rfl) dX16_passFold_208 (fun σ41 w hq => ?_) (fun σ9 E9 hx9 => hX σ9 E9 _ _ _ (tb_out K.2.2.2.2.2 rfl) hx9.1 hx9.2.1 hx9.2.2)
  obtain ⟨rfl, h, hGσ41, hS⟩ := hq
  intro H locs ls hH hl hc
  refine W.eq (g2 := F0 m 211 ls []) (rfl) ?_
  try dsimp only at h
  refine lv_lload B.1 B.2.1 dX16_passFold_211 (lv_at hl 8 rfl) ?_
  refine lv_lconst (v := 1) B.1 B.2.1 dX16_passFold_213 (by decide) ?_
  refine lv_ladd B.1 B.2.1 dX16_passFold_214 ?_
  refine lv_lstore (lv' := [(12, .long (v12 + 1)), (0, .ref rm), (1, .int (i32 v1)), (3, .int (i32 v3)), (4, .int (i32 v4)), (5, .int (i32 v5)), (6, .int (i32 v6)), (8, .long v8), (10, .long v10)]) B.1 B.2.1 dX16_passFold_215 hl (by decide) rfl (fun ls hl => ?_)
  refine lv_goto (tgt := 156) B.1 B.2.1 dX16_passFold_217 (by decide) ?_
  exact hK156 _ _ _ _ _ _ _ _ _ g1 g3 g4 g5 g6 h hGσ41 hS _ _ _ hH (lv_sub (l' := [(0, .ref rm), (1, .int (i32 v1)), (3, .int (i32 v3)), (4, .int (i32 v4)), (5, .int (i32 v5)), (6, .int (i32 v6)), (8, .long v8), (10, .long v10), (12, .long (v12 + 1))]) hl [1, 2, 3, 4, 5, 6, 7, 8, 0] rfl) hc
set_option maxRecDepth 20000 in
theorem a_X16_passFold_156 {Q : Sg → Unit → Prop} {X : Sg → String → Prop} (K : MC R p s m args c cX16_passFold 14 RX16 D cA tys A n0 s0 3 82 []) (hQ : HQV p l e R s m args below meth c cX16_passFold D cA A n0 s0 QM dm ra jx rm Q) (hX : HX p l e R s m args below meth c 14 D cA A n0 s0 QM dm ra jx rm X) {K35 : Sg → Int → Int → Int → Int → Int → Prop} (hK35 : ∀ (σ : Sg) (v1 : Int) (v3 : Int) (v4 : Int) (v5 : Int) (v6 : Int) (g1 : rng v1) (g3 : rng v3) (g4 : rng v4) (g5 : rng v5) (g6 : rng v6), K35 σ v1 v3 v4 v5 v6 → RG σ → Shp dm ra jx rm σ → JJ p l e R s m args below meth c 14 D cA A n0 s0 QM σ 35 [(0, .ref rm), (1, .int (i32 v1)), (3, .int (i32 v3)), (4, .int (i32 v4)), (5, .int (i32 v5)), (6, .int (i32 v6))] []) {K156 : Sg → Int → Int → Int → Int → Int → Int64 → Int64 → Int64 → Prop} (hK156 : ∀ (σ : Sg) (v1 : Int) (v3 : Int) (v4 : Int) (v5 : Int) (v6 : Int) (v8 : Int64) (v10 : Int64) (v12 : Int64) (g1 : rng v1) (g3 : rng v3) (g4 : rng v4) (g5 : rng v5) (g6 : rng v6), K156 σ v1 v3 v4 v5 v6 v8 v10 v12 → RG σ → Shp dm ra jx rm σ → JJ p l e R s m args below meth c 14 D cA A n0 s0 QM σ 156 [(0, .ref rm), (1, .int (i32 v1)), (3, .int (i32 v3)), (4, .int (i32 v4)), (5, .int (i32 v5)), (6, .int (i32 v6)), (8, .long v8), (10, .long v10), (12, .long v12)] []) : ∀ (σ : Sg) (v1 : Int) (v3 : Int) (v4 : Int) (v5 : Int) (v6 : Int) (v8 : Int64) (v10 : Int64) (v12 : Int64) (g1 : rng v1) (g3 : rng v3) (g4 : rng v4) (g5 : rng v5) (g6 : rng v6), w_X16_passFold_156 ra jx rm K35 K156 Q X σ v1 v3 v4 v5 v6 v8 v10 v12 → RG σ → Shp dm ra jx rm σ → JJ p l e R s m args below meth c 14 D cA A n0 s0 QM σ 156 [(0, .ref rm), (1, .int (i32 v1)), (3, .int (i32 v3)), (4, .int (i32 v4)), (5, .int (i32 v5)), (6, .int (i32 v6)), (8, .long v8), (10, .long v10), (12, .long v12)] [] := by
  intro σ v1 v3 v4 v5 v6 v8 v10 v12 g1 g3 g4 g5 g6 h hGσ hS H locs ls hH hl hc
  have B := K.1
  unfold w_X16_passFold_156 at h
  refine lv_lload B.1 B.2.1 dX16_passFold_156 (lv_at hl 8 rfl) ?_
  refine lv_lload B.1 B.2.1 dX16_passFold_158 (lv_at hl 6 rfl) ?_
  refine lv_aload_n B.1 B.2.1 dX16_passFold_160 rfl (lv_at hl 0 rfl) ?_
  refine r_getp B hH hS 17 (by decide) wf_X16_356 rfl rfl dX16_passFold_161 ?_
  obtain ⟨a42, ea42, ja42, h⟩ := h
  refine W.eq (g2 := F0 m 164 ls [.ref a42, .long v8, .long v12]) (by rw [ea42]; rfl) ?_
  refine n_arr B hH hS ja42 9 (kd := 101) (n := 16) (by decide) (by decide) (List.mem_of_getElem? (i := 9) rfl) rfl dX16_passFold_164 ?_
  refine lv_iload_n B.1 B.2.1 dX16_passFold_167 rfl (lv_at hl 1 rfl) ?_
  obtain ⟨q2, h⟩ := h
  refine x_lald B K.2.1 hH (hS.ja ja42 (k := 9) (kd := 101) (n := 16) (by decide)) (by decide) q2 dX16_passFold_168 ?_
  refine c_S B hH hl hc K.2.2.1 (As := [.long v8, .long (gJ σ (jx a42 9) v1.toNat)]) (ok_X16_down K.2.1 σ v8 (gJ σ (jx a42 9) v1.toNat) hGσ hS h) wc_X16_596 2 hd_X16_down ⟨Nat.le_trans (Nat.le_of_ble_eq_true rfl) K.2.2.2.1, Nat.le_trans (Nat.le_of_ble_eq_true rfl) K.2.2.2.2.1⟩ rfl (rest := [.long v12]) rfl (Nat.le_of_ble_eq_true rfl) dX16_passFold_169 (fun σ43 w hq => ?_) (fun σ9 E9 hx9 => hX σ9 E9 _ _ _ (tb_out K.2.2.2.2.2 rfl) hx9.1 hx9.2.1 hx9.2.2)
  obtain ⟨r44, rfl, h, hGσ43, hS⟩ := hq
  intro H locs ls hH hl hc
  refine W.eq (g2 := F0 m 172 ls [.long r44, .long v12]) (rfl) ?_
  try dsimp only at h
  refine W.lcmp B.1 B.2.1 dX16_passFold_172 ?_
  refine lv_if_gt (tgt := 220) B.1 B.2.1 dX16_passFold_173 (by decide) (fun h9 => ?_) (fun h9 => ?_)
  · rw [if_pos ((lg_cmp_gt _ _).mp h9)] at h
    exact a_X16_passFold_220 K hQ hX hK35 _ _ _ _ _ _ g1 g3 g4 g5 g6 h hGσ43 hS _ _ _ hH (lv_sub (l' := [(0, .ref rm), (1, .int (i32 v1)), (3, .int (i32 v3)), (4, .int (i32 v4)), (5, .int (i32 v5)), (6, .int (i32 v6))]) hl [0, 1, 2, 3, 4, 5] rfl) hc
  · rw [if_neg (fun q => h9 ((lg_cmp_gt _ _).mpr q))] at h
    exact a_X16_passFold_176 K hQ hX hK35 hK156 _ _ _ _ _ _ _ _ _ g1 g3 g4 g5 g6 h hGσ43 hS _ _ _ hH (lv_sub (l' := [(0, .ref rm), (1, .int (i32 v1)), (3, .int (i32 v3)), (4, .int (i32 v4)), (5, .int (i32 v5)), (6, .int (i32 v6)), (8, .long v8), (10, .long v10), (12, .long v12)]) hl [0, 1, 2, 3, 4, 5, 6, 7, 8] rfl) hc
theorem al_X16_passFold_156 {Q : Sg → Unit → Prop} {X : Sg → String → Prop} (K : MC R p s m args c cX16_passFold 14 RX16 D cA tys A n0 s0 3 82 []) (hQ : HQV p l e R s m args below meth c cX16_passFold D cA A n0 s0 QM dm ra jx rm Q) (hX : HX p l e R s m args below meth c 14 D cA A n0 s0 QM dm ra jx rm X) {K35 : Sg → Int → Int → Int → Int → Int → Prop} (hK35 : ∀ (σ : Sg) (v1 : Int) (v3 : Int) (v4 : Int) (v5 : Int) (v6 : Int) (g1 : rng v1) (g3 : rng v3) (g4 : rng v4) (g5 : rng v5) (g6 : rng v6), K35 σ v1 v3 v4 v5 v6 → RG σ → Shp dm ra jx rm σ → JJ p l e R s m args below meth c 14 D cA A n0 s0 QM σ 35 [(0, .ref rm), (1, .int (i32 v1)), (3, .int (i32 v3)), (4, .int (i32 v4)), (5, .int (i32 v5)), (6, .int (i32 v6))] []) : ∀ (n : Nat), ∀ (σ : Sg) (v1 : Int) (v3 : Int) (v4 : Int) (v5 : Int) (v6 : Int) (v8 : Int64) (v10 : Int64) (v12 : Int64) (g1 : rng v1) (g3 : rng v3) (g4 : rng v4) (g5 : rng v5) (g6 : rng v6), wl_X16_passFold_156 ra jx rm K35 Q X n σ v1 v3 v4 v5 v6 v8 v10 v12 → RG σ → Shp dm ra jx rm σ → JJ p l e R s m args below meth c 14 D cA A n0 s0 QM σ 156 [(0, .ref rm), (1, .int (i32 v1)), (3, .int (i32 v3)), (4, .int (i32 v4)), (5, .int (i32 v5)), (6, .int (i32 v6)), (8, .long v8), (10, .long v10), (12, .long v12)] [] := by
  intro n
  induction n with
  | zero => intro σ v1 v3 v4 v5 v6 v8 v10 v12 g1 g3 g4 g5 g6 h; exact h.elim
  | succ n ih => exact fun σ v1 v3 v4 v5 v6 v8 v10 v12 g1 g3 g4 g5 g6 h => a_X16_passFold_156 K hQ hX hK35 ih σ v1 v3 v4 v5 v6 v8 v10 v12 g1 g3 g4 g5 g6 h
set_option maxRecDepth 20000 in
theorem a_X16_passFold_128 {Q : Sg → Unit → Prop} {X : Sg → String → Prop} (K : MC R p s m args c cX16_passFold 14 RX16 D cA tys A n0 s0 3 82 []) (hQ : HQV p l e R s m args below meth c cX16_passFold D cA A n0 s0 QM dm ra jx rm Q) (hX : HX p l e R s m args below meth c 14 D cA A n0 s0 QM dm ra jx rm X) {K35 : Sg → Int → Int → Int → Int → Int → Prop} (hK35 : ∀ (σ : Sg) (v1 : Int) (v3 : Int) (v4 : Int) (v5 : Int) (v6 : Int) (g1 : rng v1) (g3 : rng v3) (g4 : rng v4) (g5 : rng v5) (g6 : rng v6), K35 σ v1 v3 v4 v5 v6 → RG σ → Shp dm ra jx rm σ → JJ p l e R s m args below meth c 14 D cA A n0 s0 QM σ 35 [(0, .ref rm), (1, .int (i32 v1)), (3, .int (i32 v3)), (4, .int (i32 v4)), (5, .int (i32 v5)), (6, .int (i32 v6))] []) : ∀ (σ : Sg) (v1 : Int) (v3 : Int) (v4 : Int) (v5 : Int) (v6 : Int) (v8 : Int64) (v10 : Int64) (g1 : rng v1) (g3 : rng v3) (g4 : rng v4) (g5 : rng v5) (g6 : rng v6), w_X16_passFold_128 ra jx rm K35 Q X σ v1 v3 v4 v5 v6 v8 v10 → RG σ → Shp dm ra jx rm σ → JJ p l e R s m args below meth c 14 D cA A n0 s0 QM σ 128 [(0, .ref rm), (1, .int (i32 v1)), (3, .int (i32 v3)), (4, .int (i32 v4)), (5, .int (i32 v5)), (6, .int (i32 v6)), (8, .long v8), (10, .long v10)] [] := by
  intro σ v1 v3 v4 v5 v6 v8 v10 g1 g3 g4 g5 g6 h hGσ hS H locs ls hH hl hc
  have B := K.1
  unfold w_X16_passFold_128 at h
  refine lv_lload B.1 B.2.1 dX16_passFold_128 (lv_at hl 6 rfl) ?_
  refine lv_aload_n B.1 B.2.1 dX16_passFold_130 rfl (lv_at hl 0 rfl) ?_
  refine r_getp B hH hS 17 (by decide) wf_X16_356 rfl rfl dX16_passFold_131 ?_
  obtain ⟨a45, ea45, ja45, h⟩ := h
  refine W.eq (g2 := F0 m 134 ls [.ref a45, .long v8]) (by rw [ea45]; rfl) ?_
  refine n_arr B hH hS ja45 8 (kd := 101) (n := 16) (by decide) (by decide) (List.mem_of_getElem? (i := 8) rfl) rfl dX16_passFold_134 ?_
  refine lv_iload_n B.1 B.2.1 dX16_passFold_137 rfl (lv_at hl 1 rfl) ?_
  obtain ⟨q2, h⟩ := h
  refine x_lald B K.2.1 hH (hS.ja ja45 (k := 8) (kd := 101) (n := 16) (by decide)) (by decide) q2 dX16_passFold_138 ?_
  refine lv_lsub B.1 B.2.1 dX16_passFold_139 ?_
  refine lv_aload_n B.1 B.2.1 dX16_passFold_140 rfl (lv_at hl 0 rfl) ?_
  refine r_getp B hH hS 17 (by decide) wf_X16_356 rfl rfl dX16_passFold_141 ?_
  obtain ⟨a46, ea46, ja46, h⟩ := h
  refine W.eq (g2 := F0 m 144 ls [.ref a46, .long (v8 - (gJ σ (jx a45 8) v1.toNat))]) (by rw [ea46]; rfl) ?_
  refine n_arr B hH hS ja46 9 (kd := 101) (n := 16) (by decide) (by decide) (List.mem_of_getElem? (i := 9) rfl) rfl dX16_passFold_144 ?_
  refine lv_iload_n B.1 B.2.1 dX16_passFold_147 rfl (lv_at hl 1 rfl) ?_
  obtain ⟨q4, h⟩ := h
  refine x_lald B K.2.1 hH (hS.ja ja46 (k := 9) (kd := 101) (n := 16) (by decide)) (by decide) q4 dX16_passFold_148 ?_
  refine c_S B hH hl hc K.2.2.1 (As := [.long (v8 - (gJ σ (jx a45 8) v1.toNat)), .long (gJ σ (jx a46 9) v1.toNat)]) (ok_X16_down K.2.1 σ (v8 - (gJ σ (jx a45 8) v1.toNat)) (gJ σ (jx a46 9) v1.toNat) hGσ hS h) wc_X16_596 2 hd_X16_down ⟨Nat.le_trans (Nat.le_of_ble_eq_true rfl) K.2.2.2.1, Nat.le_trans (Nat.le_of_ble_eq_true rfl) K.2.2.2.2.1⟩ rfl (rest := []) rfl (Nat.le_of_ble_eq_true rfl) dX16_passFold_149 (fun σ47 w hq => ?_) (fun σ9 E9 hx9 => hX σ9 E9 _ _ _ (tb_out K.2.2.2.2.2 rfl) hx9.1 hx9.2.1 hx9.2.2)
  obtain ⟨r48, rfl, h, hGσ47, hS⟩ := hq
  intro H locs ls hH hl hc
  refine W.eq (g2 := F0 m 152 ls [.long r48]) (rfl) ?_
  try dsimp only at h
  refine lv_lconst (v := 1) B.1 B.2.1 dX16_passFold_152 (by decide) ?_
  refine lv_ladd B.1 B.2.1 dX16_passFold_153 ?_
  refine lv_lstore (lv' := [(12, .long (r48 + 1)), (0, .ref rm), (1, .int (i32 v1)), (3, .int (i32 v3)), (4, .int (i32 v4)), (5, .int (i32 v5)), (6, .int (i32 v6)), (8, .long v8), (10, .long v10)]) B.1 B.2.1 dX16_passFold_154 hl (by decide) rfl (fun ls hl => ?_)
  obtain ⟨n9, h⟩ := h
  exact al_X16_passFold_156 K hQ hX hK35 n9 _ _ _ _ _ _ _ _ _ g1 g3 g4 g5 g6 h hGσ47 hS _ _ _ hH (lv_sub (l' := [(0, .ref rm), (1, .int (i32 v1)), (3, .int (i32 v3)), (4, .int (i32 v4)), (5, .int (i32 v5)), (6, .int (i32 v6)), (8, .long v8), (10, .long v10), (12, .long (r48 + 1))]) hl [1, 2, 3, 4, 5, 6, 7, 8, 0] rfl) hc
set_option maxRecDepth 20000 in
theorem a_X16_passFold_100 {Q : Sg → Unit → Prop} {X : Sg → String → Prop} (K : MC R p s m args c cX16_passFold 14 RX16 D cA tys A n0 s0 3 82 []) (hQ : HQV p l e R s m args below meth c cX16_passFold D cA A n0 s0 QM dm ra jx rm Q) (hX : HX p l e R s m args below meth c 14 D cA A n0 s0 QM dm ra jx rm X) {K35 : Sg → Int → Int → Int → Int → Int → Prop} (hK35 : ∀ (σ : Sg) (v1 : Int) (v3 : Int) (v4 : Int) (v5 : Int) (v6 : Int) (g1 : rng v1) (g3 : rng v3) (g4 : rng v4) (g5 : rng v5) (g6 : rng v6), K35 σ v1 v3 v4 v5 v6 → RG σ → Shp dm ra jx rm σ → JJ p l e R s m args below meth c 14 D cA A n0 s0 QM σ 35 [(0, .ref rm), (1, .int (i32 v1)), (3, .int (i32 v3)), (4, .int (i32 v4)), (5, .int (i32 v5)), (6, .int (i32 v6))] []) : ∀ (σ : Sg) (v1 : Int) (v3 : Int) (v4 : Int) (v5 : Int) (v6 : Int) (v8 : Int64) (v10 : Int64) (g1 : rng v1) (g3 : rng v3) (g4 : rng v4) (g5 : rng v5) (g6 : rng v6), w_X16_passFold_100 ra jx rm K35 Q X σ v1 v3 v4 v5 v6 v8 v10 → RG σ → Shp dm ra jx rm σ → JJ p l e R s m args below meth c 14 D cA A n0 s0 QM σ 100 [(0, .ref rm), (1, .int (i32 v1)), (3, .int (i32 v3)), (4, .int (i32 v4)), (5, .int (i32 v5)), (6, .int (i32 v6)), (8, .long v8), (10, .long v10)] [] := by
  intro σ v1 v3 v4 v5 v6 v8 v10 g1 g3 g4 g5 g6 h hGσ hS H locs ls hH hl hc
  have B := K.1
  unfold w_X16_passFold_100 at h
  refine lv_aload_n B.1 B.2.1 dX16_passFold_100 rfl (lv_at hl 0 rfl) ?_
  refine lv_iload_n B.1 B.2.1 dX16_passFold_101 rfl (lv_at hl 1 rfl) ?_
  refine lv_iload_n B.1 B.2.1 dX16_passFold_102 rfl (lv_at hl 2 rfl) ?_
  refine lv_lload B.1 B.2.1 dX16_passFold_103 (lv_at hl 7 rfl) ?_
  refine lv_lload B.1 B.2.1 dX16_passFold_105 (lv_at hl 6 rfl) ?_
  refine lv_lload B.1 B.2.1 dX16_passFold_107 (lv_at hl 6 rfl) ?_
  refine lv_aload_n B.1 B.2.1 dX16_passFold_109 rfl (lv_at hl 0 rfl) ?_
  refine r_getp B hH hS 17 (by decide) wf_X16_356 rfl rfl dX16_passFold_110 ?_
  obtain ⟨a49, ea49, ja49, h⟩ := h
  refine W.eq (g2 := F0 m 113 ls [.ref a49, .long v8, .long v8, .long v10, .int (i32 v3), .int (i32 v1), .ref rm]) (by rw [ea49]; rfl) ?_
  refine n_arr B hH hS ja49 8 (kd := 101) (n := 16) (by decide) (by decide) (List.mem_of_getElem? (i := 8) rfl) rfl dX16_passFold_113 ?_
  refine lv_iload_n B.1 B.2.1 dX16_passFold_116 rfl (lv_at hl 1 rfl) ?_
  obtain ⟨q2, h⟩ := h
  refine x_lald B K.2.1 hH (hS.ja ja49 (k := 8) (kd := 101) (n := 16) (by decide)) (by decide) q2 dX16_passFold_117 ?_
  refine lv_ladd B.1 B.2.1 dX16_passFold_118 ?_
  refine lv_lconst (v := 1) B.1 B.2.1 dX16_passFold_119 (by decide) ?_
  refine lv_lsub B.1 B.2.1 dX16_passFold_120 ?_
  refine lv_iconst (v := i32 1) B.1 B.2.1 dX16_passFold_121 (by decide) ?_
  refine c_V B hH hl hc K.2.2.1 (C := RX16) (T := TX16) (N := 123) (ci := 16) (As := [.int (i32 v1), .int (i32 v3), .long v10, .long v8, .long ((v8 + (gJ σ (jx a49 8) v1.toNat)) - 1), .int (i32 1)]) (ok_X16_gatherIn K.2.1 σ v1 v3 v10 v8 ((v8 + (gJ σ (jx a49 8) v1.toNat)) - 1) 1 g1 g3 (by unfold rng; omega) hGσ hS h) wc_X16_890 6 hd_X16_gatherIn ⟨Nat.le_trans (Nat.le_of_ble_eq_true rfl) K.2.2.2.1, Nat.le_trans (Nat.le_of_ble_eq_true rfl) K.2.2.2.2.1⟩ hS.1.1 hS.1.2 (by decide) rfl rfl (rest := []) rfl (Nat.le_of_ble_eq_true rfl) dX16_passFold_122 (fun σ50 w hq => ?_) (fun σ9 E9 hx9 => hX σ9 E9 _ _ _ (tb_out K.2.2.2.2.2 rfl) hx9.1 hx9.2.1 hx9.2.2)
  obtain ⟨rfl, h, hGσ50, hS⟩ := hq
  intro H locs ls hH hl hc
  refine W.eq (g2 := F0 m 125 ls []) (rfl) ?_
  try dsimp only at h
  refine lv_goto (tgt := 220) B.1 B.2.1 dX16_passFold_125 (by decide) ?_
  exact a_X16_passFold_220 K hQ hX hK35 _ _ _ _ _ _ g1 g3 g4 g5 g6 h hGσ50 hS _ _ _ hH (lv_sub (l' := [(0, .ref rm), (1, .int (i32 v1)), (3, .int (i32 v3)), (4, .int (i32 v4)), (5, .int (i32 v5)), (6, .int (i32 v6))]) hl [0, 1, 2, 3, 4, 5] rfl) hc
set_option maxRecDepth 20000 in
theorem a_X16_passFold_79 {Q : Sg → Unit → Prop} {X : Sg → String → Prop} (K : MC R p s m args c cX16_passFold 14 RX16 D cA tys A n0 s0 3 82 []) (hQ : HQV p l e R s m args below meth c cX16_passFold D cA A n0 s0 QM dm ra jx rm Q) (hX : HX p l e R s m args below meth c 14 D cA A n0 s0 QM dm ra jx rm X) {K35 : Sg → Int → Int → Int → Int → Int → Prop} (hK35 : ∀ (σ : Sg) (v1 : Int) (v3 : Int) (v4 : Int) (v5 : Int) (v6 : Int) (g1 : rng v1) (g3 : rng v3) (g4 : rng v4) (g5 : rng v5) (g6 : rng v6), K35 σ v1 v3 v4 v5 v6 → RG σ → Shp dm ra jx rm σ → JJ p l e R s m args below meth c 14 D cA A n0 s0 QM σ 35 [(0, .ref rm), (1, .int (i32 v1)), (3, .int (i32 v3)), (4, .int (i32 v4)), (5, .int (i32 v5)), (6, .int (i32 v6))] []) : ∀ (σ : Sg) (v1 : Int) (v3 : Int) (v4 : Int) (v5 : Int) (v6 : Int) (v8 : Int64) (g1 : rng v1) (g3 : rng v3) (g4 : rng v4) (g5 : rng v5) (g6 : rng v6), w_X16_passFold_79 ra jx rm K35 Q X σ v1 v3 v4 v5 v6 v8 → RG σ → Shp dm ra jx rm σ → JJ p l e R s m args below meth c 14 D cA A n0 s0 QM σ 79 [(0, .ref rm), (1, .int (i32 v1)), (3, .int (i32 v3)), (4, .int (i32 v4)), (5, .int (i32 v5)), (6, .int (i32 v6)), (8, .long v8)] [] := by
  intro σ v1 v3 v4 v5 v6 v8 g1 g3 g4 g5 g6 h hGσ hS H locs ls hH hl hc
  have B := K.1
  unfold w_X16_passFold_79 at h
  refine lv_aload_n B.1 B.2.1 dX16_passFold_79 rfl (lv_at hl 0 rfl) ?_
  refine r_arr B hH hS 81 (kd := 101) (n := 8) (by decide) (by decide) wf_X16_542 rfl rfl dX16_passFold_80 ?_
  refine lv_aload_n B.1 B.2.1 dX16_passFold_83 rfl (lv_at hl 0 rfl) ?_
  refine r_getp B hH hS 17 (by decide) wf_X16_356 rfl rfl dX16_passFold_84 ?_
  obtain ⟨a51, ea51, ja51, h⟩ := h
  refine W.eq (g2 := F0 m 87 ls [.ref a51, .ref (ra 81)]) (by rw [ea51]; rfl) ?_
  refine n_arr B hH hS ja51 10 (kd := 100) (n := 16) (by decide) (by decide) (List.mem_of_getElem? (i := 10) rfl) rfl dX16_passFold_87 ?_
  refine lv_iload_n B.1 B.2.1 dX16_passFold_90 rfl (lv_at hl 1 rfl) ?_
  obtain ⟨q2, h⟩ := h
  refine x_iald B K.2.1 hH (hS.ja ja51 (k := 10) (kd := 100) (n := 16) (by decide)) (by decide) q2 dX16_passFold_91 ?_
  obtain ⟨q3, h⟩ := h
  refine x_lald B K.2.1 hH (hS.ar (k := 81) (kd := 101) (n := 8) (by decide)) (by decide) q3 dX16_passFold_92 ?_
  refine lv_lstore (lv' := [(10, .long (gJ σ (ra 81) (gI σ (jx a51 10) v1.toNat).toNat)), (0, .ref rm), (1, .int (i32 v1)), (3, .int (i32 v3)), (4, .int (i32 v4)), (5, .int (i32 v5)), (6, .int (i32 v6)), (8, .long v8)]) B.1 B.2.1 dX16_passFold_93 hl (by decide) rfl (fun ls hl => ?_)
  refine lv_iload B.1 B.2.1 dX16_passFold_95 (lv_at hl 4 rfl) ?_
  refine lv_if_eq (tgt := 128) B.1 B.2.1 dX16_passFold_97 (by decide) (fun h9 => ?_) (fun h9 => ?_)
  · rw [if_pos ((z_eq g4).mp h9)] at h
    exact a_X16_passFold_128 K hQ hX hK35 _ _ _ _ _ _ _ _ g1 g3 g4 g5 g6 h hGσ hS _ _ _ hH (lv_sub (l' := [(0, .ref rm), (1, .int (i32 v1)), (3, .int (i32 v3)), (4, .int (i32 v4)), (5, .int (i32 v5)), (6, .int (i32 v6)), (8, .long v8), (10, .long (gJ σ (ra 81) (gI σ (jx a51 10) v1.toNat).toNat))]) hl [1, 2, 3, 4, 5, 6, 7, 0] rfl) hc
  · rw [if_neg (fun q => h9 ((z_eq g4).mpr q))] at h
    exact a_X16_passFold_100 K hQ hX hK35 _ _ _ _ _ _ _ _ g1 g3 g4 g5 g6 h hGσ hS _ _ _ hH (lv_sub (l' := [(0, .ref rm), (1, .int (i32 v1)), (3, .int (i32 v3)), (4, .int (i32 v4)), (5, .int (i32 v5)), (6, .int (i32 v6)), (8, .long v8), (10, .long (gJ σ (ra 81) (gI σ (jx a51 10) v1.toNat).toNat))]) hl [1, 2, 3, 4, 5, 6, 7, 0] rfl) hc
set_option maxRecDepth 20000 in
theorem a_X16_passFold_76 {Q : Sg → Unit → Prop} {X : Sg → String → Prop} (K : MC R p s m args c cX16_passFold 14 RX16 D cA tys A n0 s0 3 82 []) (hQ : HQV p l e R s m args below meth c cX16_passFold D cA A n0 s0 QM dm ra jx rm Q) (hX : HX p l e R s m args below meth c 14 D cA A n0 s0 QM dm ra jx rm X) {K35 : Sg → Int → Int → Int → Int → Int → Prop} (hK35 : ∀ (σ : Sg) (v1 : Int) (v3 : Int) (v4 : Int) (v5 : Int) (v6 : Int) (g1 : rng v1) (g3 : rng v3) (g4 : rng v4) (g5 : rng v5) (g6 : rng v6), K35 σ v1 v3 v4 v5 v6 → RG σ → Shp dm ra jx rm σ → JJ p l e R s m args below meth c 14 D cA A n0 s0 QM σ 35 [(0, .ref rm), (1, .int (i32 v1)), (3, .int (i32 v3)), (4, .int (i32 v4)), (5, .int (i32 v5)), (6, .int (i32 v6))] []) : ∀ (σ : Sg) (v1 : Int) (v3 : Int) (v4 : Int) (v5 : Int) (v6 : Int) (g1 : rng v1) (g3 : rng v3) (g4 : rng v4) (g5 : rng v5) (g6 : rng v6), w_X16_passFold_76 ra jx rm K35 Q X σ v1 v3 v4 v5 v6 → RG σ → Shp dm ra jx rm σ → JJ p l e R s m args below meth c 14 D cA A n0 s0 QM σ 76 [(0, .ref rm), (1, .int (i32 v1)), (3, .int (i32 v3)), (4, .int (i32 v4)), (5, .int (i32 v5)), (6, .int (i32 v6))] [] := by
  intro σ v1 v3 v4 v5 v6 g1 g3 g4 g5 g6 h hGσ hS H locs ls hH hl hc
  have B := K.1
  unfold w_X16_passFold_76 at h
  refine lv_goto (tgt := 220) B.1 B.2.1 dX16_passFold_76 (by decide) ?_
  exact a_X16_passFold_220 K hQ hX hK35 _ _ _ _ _ _ g1 g3 g4 g5 g6 h hGσ hS _ _ _ hH (lv_sub (l' := [(0, .ref rm), (1, .int (i32 v1)), (3, .int (i32 v3)), (4, .int (i32 v4)), (5, .int (i32 v5)), (6, .int (i32 v6))]) hl [0, 1, 2, 3, 4, 5] rfl) hc
set_option maxRecDepth 20000 in
theorem a_X16_passFold_42 {Q : Sg → Unit → Prop} {X : Sg → String → Prop} (K : MC R p s m args c cX16_passFold 14 RX16 D cA tys A n0 s0 3 82 []) (hQ : HQV p l e R s m args below meth c cX16_passFold D cA A n0 s0 QM dm ra jx rm Q) (hX : HX p l e R s m args below meth c 14 D cA A n0 s0 QM dm ra jx rm X) {K35 : Sg → Int → Int → Int → Int → Int → Prop} (hK35 : ∀ (σ : Sg) (v1 : Int) (v3 : Int) (v4 : Int) (v5 : Int) (v6 : Int) (g1 : rng v1) (g3 : rng v3) (g4 : rng v4) (g5 : rng v5) (g6 : rng v6), K35 σ v1 v3 v4 v5 v6 → RG σ → Shp dm ra jx rm σ → JJ p l e R s m args below meth c 14 D cA A n0 s0 QM σ 35 [(0, .ref rm), (1, .int (i32 v1)), (3, .int (i32 v3)), (4, .int (i32 v4)), (5, .int (i32 v5)), (6, .int (i32 v6))] []) : ∀ (σ : Sg) (v1 : Int) (v3 : Int) (v4 : Int) (v5 : Int) (v6 : Int) (g1 : rng v1) (g3 : rng v3) (g4 : rng v4) (g5 : rng v5) (g6 : rng v6), w_X16_passFold_42 ra jx rm K35 Q X σ v1 v3 v4 v5 v6 → RG σ → Shp dm ra jx rm σ → JJ p l e R s m args below meth c 14 D cA A n0 s0 QM σ 42 [(0, .ref rm), (1, .int (i32 v1)), (3, .int (i32 v3)), (4, .int (i32 v4)), (5, .int (i32 v5)), (6, .int (i32 v6))] [] := by
  intro σ v1 v3 v4 v5 v6 g1 g3 g4 g5 g6 h hGσ hS H locs ls hH hl hc
  have B := K.1
  unfold w_X16_passFold_42 at h
  refine lv_aload_n B.1 B.2.1 dX16_passFold_42 rfl (lv_at hl 0 rfl) ?_
  refine r_arr B hH hS 119 (kd := 100) (n := 4000) (by decide) (by decide) wf_X16_877 rfl rfl dX16_passFold_43 ?_
  refine lv_iload B.1 B.2.1 dX16_passFold_46 (lv_at hl 5 rfl) ?_
  obtain ⟨q1, h⟩ := h
  refine x_iald B K.2.1 hH (hS.ar (k := 119) (kd := 100) (n := 4000) (by decide)) (by decide) q1 dX16_passFold_48 ?_
  refine lv_istore (lv' := [(7, .int (i32 (gI σ (ra 119) v6.toNat))), (0, .ref rm), (1, .int (i32 v1)), (3, .int (i32 v3)), (4, .int (i32 v4)), (5, .int (i32 v5)), (6, .int (i32 v6))]) B.1 B.2.1 dX16_passFold_49 hl (by decide) rfl (fun ls hl => ?_)
  refine lv_aload_n B.1 B.2.1 dX16_passFold_51 rfl (lv_at hl 1 rfl) ?_
  refine lv_iload B.1 B.2.1 dX16_passFold_52 (lv_at hl 0 rfl) ?_
  refine c_V B hH hl hc K.2.2.1 (C := RX16) (T := TX16) (N := 123) (ci := 16) (As := [.int (i32 (gI σ (ra 119) v6.toNat))]) (ok_X16_load K.2.1 σ (gI σ (ra 119) v6.toNat) (hGσ _ _) hGσ hS h) wc_X16_880 1 hd_X16_load ⟨Nat.le_trans (Nat.le_of_ble_eq_true rfl) K.2.2.2.1, Nat.le_trans (Nat.le_of_ble_eq_true rfl) K.2.2.2.2.1⟩ hS.1.1 hS.1.2 (by decide) rfl rfl (rest := []) rfl (Nat.le_of_ble_eq_true rfl) dX16_passFold_54 (fun σ52 w hq => ?_) (fun σ9 E9 hx9 => hX σ9 E9 _ _ _ (tb_out K.2.2.2.2.2 rfl) hx9.1 hx9.2.1 hx9.2.2)
  obtain ⟨rfl, h, hGσ52, hS⟩ := hq
  intro H locs ls hH hl hc
  refine W.eq (g2 := F0 m 57 ls []) (rfl) ?_
  try dsimp only at h
  refine lv_aload_n B.1 B.2.1 dX16_passFold_57 rfl (lv_at hl 1 rfl) ?_
  refine r_arr B hH hS 115 (kd := 101) (n := 4000) (by decide) (by decide) wf_X16_864 rfl rfl dX16_passFold_58 ?_
  refine lv_iload B.1 B.2.1 dX16_passFold_61 (lv_at hl 0 rfl) ?_
  obtain ⟨q2, h⟩ := h
  refine x_lald B K.2.1 hH (hS.ar (k := 115) (kd := 101) (n := 4000) (by decide)) (by decide) q2 dX16_passFold_63 ?_
  refine lv_lstore (lv' := [(8, .long (gJ σ52 (ra 115) (gI σ (ra 119) v6.toNat).toNat)), (7, .int (i32 (gI σ (ra 119) v6.toNat))), (0, .ref rm), (1, .int (i32 v1)), (3, .int (i32 v3)), (4, .int (i32 v4)), (5, .int (i32 v5)), (6, .int (i32 v6))]) B.1 B.2.1 dX16_passFold_64 hl (by decide) rfl (fun ls hl => ?_)
  refine lv_aload_n B.1 B.2.1 dX16_passFold_66 rfl (lv_at hl 2 rfl) ?_
  refine lv_iload_n B.1 B.2.1 dX16_passFold_67 rfl (lv_at hl 3 rfl) ?_
  refine lv_lload B.1 B.2.1 dX16_passFold_68 (lv_at hl 0 rfl) ?_
  refine c_V B hH hl hc K.2.2.1 (C := RX16) (T := TX16) (N := 123) (ci := 16) (As := [.int (i32 v1), .long (gJ σ52 (ra 115) (gI σ (ra 119) v6.toNat).toNat)]) (ok_X16_isWeighed K.2.1 σ52 v1 (gJ σ52 (ra 115) (gI σ (ra 119) v6.toNat).toNat) g1 hGσ52 hS h) wc_X16_886 2 hd_X16_isWeighed ⟨Nat.le_trans (Nat.le_of_ble_eq_true rfl) K.2.2.2.1, Nat.le_trans (Nat.le_of_ble_eq_true rfl) K.2.2.2.2.1⟩ hS.1.1 hS.1.2 (by decide) rfl rfl (rest := []) rfl (Nat.le_of_ble_eq_true rfl) dX16_passFold_70 (fun σ53 w hq => ?_) (fun σ9 E9 hx9 => hX σ9 E9 _ _ _ (tb_out K.2.2.2.2.2 rfl) hx9.1 hx9.2.1 hx9.2.2)
  obtain ⟨r54, rfl, ⟨gr54, gzr54⟩, h, hGσ53, hS⟩ := hq
  intro H locs ls hH hl hc
  refine W.eq (g2 := F0 m 73 ls [.int (i32 r54)]) (rfl) ?_
  try dsimp only at h
  refine lv_if_ne (tgt := 79) B.1 B.2.1 dX16_passFold_73 (by decide) (fun h9 => ?_) (fun h9 => ?_)
  · rw [if_pos (fun q => h9 ((z_eq gr54).mpr q))] at h
    exact a_X16_passFold_79 K hQ hX hK35 _ _ _ _ _ _ _ g1 g3 g4 g5 g6 h hGσ53 hS _ _ _ hH (lv_sub (l' := [(0, .ref rm), (1, .int (i32 v1)), (3, .int (i32 v3)), (4, .int (i32 v4)), (5, .int (i32 v5)), (6, .int (i32 v6)), (8, .long (gJ σ52 (ra 115) (gI σ (ra 119) v6.toNat).toNat))]) hl [2, 3, 4, 5, 6, 7, 0] rfl) hc
  · rw [if_neg (fun q => q ((z_eq gr54).mp h9))] at h
    exact a_X16_passFold_76 K hQ hX hK35 _ _ _ _ _ _ g1 g3 g4 g5 g6 h hGσ53 hS _ _ _ hH (lv_sub (l' := [(0, .ref rm), (1, .int (i32 v1)), (3, .int (i32 v3)), (4, .int (i32 v4)), (5, .int (i32 v5)), (6, .int (i32 v6))]) hl [2, 3, 4, 5, 6, 7] rfl) hc
set_option maxRecDepth 20000 in
theorem a_X16_passFold_35 {Q : Sg → Unit → Prop} {X : Sg → String → Prop} (K : MC R p s m args c cX16_passFold 14 RX16 D cA tys A n0 s0 3 82 []) (hQ : HQV p l e R s m args below meth c cX16_passFold D cA A n0 s0 QM dm ra jx rm Q) (hX : HX p l e R s m args below meth c 14 D cA A n0 s0 QM dm ra jx rm X) {K35 : Sg → Int → Int → Int → Int → Int → Prop} (hK35 : ∀ (σ : Sg) (v1 : Int) (v3 : Int) (v4 : Int) (v5 : Int) (v6 : Int) (g1 : rng v1) (g3 : rng v3) (g4 : rng v4) (g5 : rng v5) (g6 : rng v6), K35 σ v1 v3 v4 v5 v6 → RG σ → Shp dm ra jx rm σ → JJ p l e R s m args below meth c 14 D cA A n0 s0 QM σ 35 [(0, .ref rm), (1, .int (i32 v1)), (3, .int (i32 v3)), (4, .int (i32 v4)), (5, .int (i32 v5)), (6, .int (i32 v6))] []) : ∀ (σ : Sg) (v1 : Int) (v3 : Int) (v4 : Int) (v5 : Int) (v6 : Int) (g1 : rng v1) (g3 : rng v3) (g4 : rng v4) (g5 : rng v5) (g6 : rng v6), w_X16_passFold_35 ra jx rm K35 Q X σ v1 v3 v4 v5 v6 → RG σ → Shp dm ra jx rm σ → JJ p l e R s m args below meth c 14 D cA A n0 s0 QM σ 35 [(0, .ref rm), (1, .int (i32 v1)), (3, .int (i32 v3)), (4, .int (i32 v4)), (5, .int (i32 v5)), (6, .int (i32 v6))] [] := by
  intro σ v1 v3 v4 v5 v6 g1 g3 g4 g5 g6 h hGσ hS H locs ls hH hl hc
  have B := K.1
  unfold w_X16_passFold_35 at h
  refine lv_iload B.1 B.2.1 dX16_passFold_35 (lv_at hl 5 rfl) ?_
  refine lv_iload B.1 B.2.1 dX16_passFold_37 (lv_at hl 4 rfl) ?_
  refine lv_icmp_ge (tgt := 226) B.1 B.2.1 dX16_passFold_39 (by decide) (fun h9 => ?_) (fun h9 => ?_)
  · rw [if_pos ((i32_le g5 g6).mp h9)] at h
    exact a_X16_passFold_226 K hQ hX _ h hGσ hS _ _ _ hH (lv_sub (l' := [(0, .ref rm)]) hl [0] rfl) hc
  · rw [if_neg (fun q => h9 ((i32_le g5 g6).mpr q))] at h
    exact a_X16_passFold_42 K hQ hX hK35 _ _ _ _ _ _ g1 g3 g4 g5 g6 h hGσ hS _ _ _ hH (lv_sub (l' := [(0, .ref rm), (1, .int (i32 v1)), (3, .int (i32 v3)), (4, .int (i32 v4)), (5, .int (i32 v5)), (6, .int (i32 v6))]) hl [0, 1, 2, 3, 4, 5] rfl) hc
theorem al_X16_passFold_35 {Q : Sg → Unit → Prop} {X : Sg → String → Prop} (K : MC R p s m args c cX16_passFold 14 RX16 D cA tys A n0 s0 3 82 []) (hQ : HQV p l e R s m args below meth c cX16_passFold D cA A n0 s0 QM dm ra jx rm Q) (hX : HX p l e R s m args below meth c 14 D cA A n0 s0 QM dm ra jx rm X) : ∀ (n : Nat), ∀ (σ : Sg) (v1 : Int) (v3 : Int) (v4 : Int) (v5 : Int) (v6 : Int) (g1 : rng v1) (g3 : rng v3) (g4 : rng v4) (g5 : rng v5) (g6 : rng v6), wl_X16_passFold_35 ra jx rm Q X n σ v1 v3 v4 v5 v6 → RG σ → Shp dm ra jx rm σ → JJ p l e R s m args below meth c 14 D cA A n0 s0 QM σ 35 [(0, .ref rm), (1, .int (i32 v1)), (3, .int (i32 v3)), (4, .int (i32 v4)), (5, .int (i32 v5)), (6, .int (i32 v6))] [] := by
  intro n
  induction n with
  | zero => intro σ v1 v3 v4 v5 v6 g1 g3 g4 g5 g6 h; exact h.elim
  | succ n ih => exact fun σ v1 v3 v4 v5 v6 g1 g3 g4 g5 g6 h => a_X16_passFold_35 K hQ hX ih σ v1 v3 v4 v5 v6 g1 g3 g4 g5 g6 h
set_option maxRecDepth 20000 in
theorem a_X16_passFold_23 {Q : Sg → Unit → Prop} {X : Sg → String → Prop} (K : MC R p s m args c cX16_passFold 14 RX16 D cA tys A n0 s0 3 82 []) (hQ : HQV p l e R s m args below meth c cX16_passFold D cA A n0 s0 QM dm ra jx rm Q) (hX : HX p l e R s m args below meth c 14 D cA A n0 s0 QM dm ra jx rm X) : ∀ (σ : Sg) (v1 : Int) (v2 : Int) (v3 : Int) (u0 : Int) (g1 : rng v1) (g2 : rng v2) (g3 : rng v3) (gu0 : rng u0), w_X16_passFold_23 ra jx rm Q X σ v1 v2 v3 u0 → RG σ → Shp dm ra jx rm σ → JJ p l e R s m args below meth c 14 D cA A n0 s0 QM σ 23 [(0, .ref rm), (1, .int (i32 v1)), (2, .int (i32 v2)), (3, .int (i32 v3))] [.int (i32 u0)] := by
  intro σ v1 v2 v3 u0 g1 g2 g3 gu0 h hGσ hS H locs ls hH hl hc
  have B := K.1
  unfold w_X16_passFold_23 at h
  refine lv_istore (lv' := [(4, .int (i32 u0)), (0, .ref rm), (1, .int (i32 v1)), (2, .int (i32 v2)), (3, .int (i32 v3))]) B.1 B.2.1 dX16_passFold_23 hl (by decide) rfl (fun ls hl => ?_)
  refine lv_aload_n B.1 B.2.1 dX16_passFold_25 rfl (lv_at hl 1 rfl) ?_
  refine lv_iload_n B.1 B.2.1 dX16_passFold_26 rfl (lv_at hl 3 rfl) ?_
  refine c_V B hH hl hc K.2.2.1 (C := RX16) (T := TX16) (N := 123) (ci := 16) (As := [.int (i32 v2)]) (ok_X16_sort K.2.1 σ v2 g2 hGσ hS h) wc_X16_883 1 hd_X16_sort ⟨Nat.le_trans (Nat.le_of_ble_eq_true rfl) K.2.2.2.1, Nat.le_trans (Nat.le_of_ble_eq_true rfl) K.2.2.2.2.1⟩ hS.1.1 hS.1.2 (by decide) rfl rfl (rest := []) rfl (Nat.le_of_ble_eq_true rfl) dX16_passFold_27 (fun σ55 w hq => ?_) (fun σ9 E9 hx9 => hX σ9 E9 _ _ _ (tb_out K.2.2.2.2.2 rfl) hx9.1 hx9.2.1 hx9.2.2)
  obtain ⟨r56, rfl, gr56, h, hGσ55, hS⟩ := hq
  intro H locs ls hH hl hc
  refine W.eq (g2 := F0 m 30 ls [.int (i32 r56)]) (rfl) ?_
  try dsimp only at h
  refine lv_istore (lv' := [(5, .int (i32 r56)), (4, .int (i32 u0)), (0, .ref rm), (1, .int (i32 v1)), (2, .int (i32 v2)), (3, .int (i32 v3))]) B.1 B.2.1 dX16_passFold_30 hl (by decide) rfl (fun ls hl => ?_)
  refine lv_iconst (v := i32 0) B.1 B.2.1 dX16_passFold_32 (by decide) ?_
  refine lv_istore (lv' := [(6, .int (i32 0)), (5, .int (i32 r56)), (4, .int (i32 u0)), (0, .ref rm), (1, .int (i32 v1)), (2, .int (i32 v2)), (3, .int (i32 v3))]) B.1 B.2.1 dX16_passFold_33 hl (by decide) rfl (fun ls hl => ?_)
  obtain ⟨n9, h⟩ := h
  exact al_X16_passFold_35 K hQ hX n9 _ _ _ _ _ _ g1 g3 gu0 gr56 (by unfold rng; omega) h hGσ55 hS _ _ _ hH (lv_sub (l' := [(0, .ref rm), (1, .int (i32 v1)), (3, .int (i32 v3)), (4, .int (i32 u0)), (5, .int (i32 r56)), (6, .int (i32 0))]) hl [3, 4, 6, 2, 1, 0] rfl) hc
set_option maxRecDepth 20000 in
theorem a_X16_passFold_22 {Q : Sg → Unit → Prop} {X : Sg → String → Prop} (K : MC R p s m args c cX16_passFold 14 RX16 D cA tys A n0 s0 3 82 []) (hQ : HQV p l e R s m args below meth c cX16_passFold D cA A n0 s0 QM dm ra jx rm Q) (hX : HX p l e R s m args below meth c 14 D cA A n0 s0 QM dm ra jx rm X) : ∀ (σ : Sg) (v1 : Int) (v2 : Int) (v3 : Int) (g1 : rng v1) (g2 : rng v2) (g3 : rng v3), w_X16_passFold_22 ra jx rm Q X σ v1 v2 v3 → RG σ → Shp dm ra jx rm σ → JJ p l e R s m args below meth c 14 D cA A n0 s0 QM σ 22 [(0, .ref rm), (1, .int (i32 v1)), (2, .int (i32 v2)), (3, .int (i32 v3))] [] := by
  intro σ v1 v2 v3 g1 g2 g3 h hGσ hS H locs ls hH hl hc
  have B := K.1
  unfold w_X16_passFold_22 at h
  refine lv_iconst (v := i32 0) B.1 B.2.1 dX16_passFold_22 (by decide) ?_
  exact a_X16_passFold_23 K hQ hX _ _ _ _ _ g1 g2 g3 (by unfold rng; omega) h hGσ hS _ _ _ hH (lv_sub (l' := [(0, .ref rm), (1, .int (i32 v1)), (2, .int (i32 v2)), (3, .int (i32 v3))]) hl [0, 1, 2, 3] rfl) hc
set_option maxRecDepth 20000 in
theorem a_X16_passFold_18 {Q : Sg → Unit → Prop} {X : Sg → String → Prop} (K : MC R p s m args c cX16_passFold 14 RX16 D cA tys A n0 s0 3 82 []) (hQ : HQV p l e R s m args below meth c cX16_passFold D cA A n0 s0 QM dm ra jx rm Q) (hX : HX p l e R s m args below meth c 14 D cA A n0 s0 QM dm ra jx rm X) : ∀ (σ : Sg) (v1 : Int) (v2 : Int) (v3 : Int) (g1 : rng v1) (g2 : rng v2) (g3 : rng v3), w_X16_passFold_18 ra jx rm Q X σ v1 v2 v3 → RG σ → Shp dm ra jx rm σ → JJ p l e R s m args below meth c 14 D cA A n0 s0 QM σ 18 [(0, .ref rm), (1, .int (i32 v1)), (2, .int (i32 v2)), (3, .int (i32 v3))] [] := by
  intro σ v1 v2 v3 g1 g2 g3 h hGσ hS H locs ls hH hl hc
  have B := K.1
  unfold w_X16_passFold_18 at h
  refine lv_iconst (v := i32 1) B.1 B.2.1 dX16_passFold_18 (by decide) ?_
  refine lv_goto (tgt := 23) B.1 B.2.1 dX16_passFold_19 (by decide) ?_
  exact a_X16_passFold_23 K hQ hX _ _ _ _ _ g1 g2 g3 (by unfold rng; omega) h hGσ hS _ _ _ hH (lv_sub (l' := [(0, .ref rm), (1, .int (i32 v1)), (2, .int (i32 v2)), (3, .int (i32 v3))]) hl [0, 1, 2, 3] rfl) hc
set_option maxRecDepth 20000 in
theorem a_X16_passFold_0 {Q : Sg → Unit → Prop} {X : Sg → String → Prop} (K : MC R p s m args c cX16_passFold 14 RX16 D cA tys A n0 s0 3 82 []) (hQ : HQV p l e R s m args below meth c cX16_passFold D cA A n0 s0 QM dm ra jx rm Q) (hX : HX p l e R s m args below meth c 14 D cA A n0 s0 QM dm ra jx rm X) : ∀ (σ : Sg) (v1 : Int) (v2 : Int) (g1 : rng v1) (g2 : rng v2), w_X16_passFold_0 ra jx rm Q X σ v1 v2 → RG σ → Shp dm ra jx rm σ → JJ p l e R s m args below meth c 14 D cA A n0 s0 QM σ 0 [(0, .ref rm), (1, .int (i32 v1)), (2, .int (i32 v2))] [] := by
  intro σ v1 v2 g1 g2 h hGσ hS H locs ls hH hl hc
  have B := K.1
  unfold w_X16_passFold_0 at h
  refine lv_aload_n B.1 B.2.1 dX16_passFold_0 rfl (lv_at hl 0 rfl) ?_
  refine r_geti B hH hS 117 (by decide) wf_X16_861 rfl rfl dX16_passFold_1 ?_
  refine lv_istore_n (lv' := [(3, .int (i32 (gI σ rm 117))), (0, .ref rm), (1, .int (i32 v1)), (2, .int (i32 v2))]) B.1 B.2.1 dX16_passFold_4 rfl hl (by decide) rfl (fun ls hl => ?_)
  refine lv_aload_n B.1 B.2.1 dX16_passFold_5 rfl (lv_at hl 1 rfl) ?_
  refine r_getp B hH hS 17 (by decide) wf_X16_356 rfl rfl dX16_passFold_6 ?_
  obtain ⟨a57, ea57, ja57, h⟩ := h
  refine W.eq (g2 := F0 m 9 ls [.ref a57]) (by rw [ea57]; rfl) ?_
  refine n_arr B hH hS ja57 2 (kd := 100) (n := 16) (by decide) (by decide) (List.mem_of_getElem? (i := 2) rfl) rfl dX16_passFold_9 ?_
  refine lv_iload_n B.1 B.2.1 dX16_passFold_12 rfl (lv_at hl 2 rfl) ?_
  obtain ⟨q2, h⟩ := h
  refine x_iald B K.2.1 hH (hS.ja ja57 (k := 2) (kd := 100) (n := 16) (by decide)) (by decide) q2 dX16_passFold_13 ?_
  refine lv_iconst (v := i32 5) B.1 B.2.1 dX16_passFold_14 (by decide) ?_
  refine lv_icmp_ne (tgt := 22) B.1 B.2.1 dX16_passFold_15 (by decide) (fun h9 => ?_) (fun h9 => ?_)
  · rw [if_pos (fun q => h9 ((i32_eq (hGσ _ _) (by unfold rng; omega)).mpr q))] at h
    exact a_X16_passFold_22 K hQ hX _ _ _ _ g1 g2 (hGσ _ _) h hGσ hS _ _ _ hH (lv_sub (l' := [(0, .ref rm), (1, .int (i32 v1)), (2, .int (i32 v2)), (3, .int (i32 (gI σ rm 117)))]) hl [1, 2, 3, 0] rfl) hc
  · rw [if_neg (fun q => q ((i32_eq (hGσ _ _) (by unfold rng; omega)).mp h9))] at h
    exact a_X16_passFold_18 K hQ hX _ _ _ _ g1 g2 (hGσ _ _) h hGσ hS _ _ _ hH (lv_sub (l' := [(0, .ref rm), (1, .int (i32 v1)), (2, .int (i32 v2)), (3, .int (i32 (gI σ rm 117)))]) hl [1, 2, 3, 0] rfl) hc
theorem ok_X16_passFold (hT : Tys cA tys) {Q : Sg → Unit → Prop} {X : Sg → String → Prop} (σ : Sg) (v1 : Int) (v2 : Int) (g1 : rng v1) (g2 : rng v2) (hG : RG σ) (hS : Shp dm ra jx rm σ) (h : wp_X16_passFold ra jx rm v1 v2 σ Q X) : Ok l D cA tys A yX16_passFold (.code yX16_passFold cX16_passFold 14 none) 3 82 [.ref rm, .int (i32 v1), .int (i32 v2)] σ (QnV dm ra jx rm Q) (QxR dm ra jx rm X) := by
  unfold wp_X16_passFold at h
  exact ok_V (plainFor_of_name (by decide)) (by exact Nat.le_of_ble_eq_true rfl) hT (fun p e R s m args below meth c K hQ hX H locs ls hH hl hc => a_X16_passFold_0 K hQ hX σ v1 v2 g1 g2 h hG hS H locs ls hH (lv_sub (l' := [(0, .ref rm), (1, .int (i32 v1)), (2, .int (i32 v2))]) hl [0, 1, 2] rfl) hc)
theorem dX16_lay_0 : decode cX16_lay 0 = .ok (.aload_n 0, 1) := by decide +kernel
theorem dX16_lay_1 : decode cX16_lay 1 = .ok (.getfield 356, 3) := by decide +kernel
theorem dX16_lay_4 : decode cX16_lay 4 = .ok (.getfield 178, 3) := by decide +kernel
theorem dX16_lay_7 : decode cX16_lay 7 = .ok (.aload_n 0, 1) := by decide +kernel
theorem dX16_lay_8 : decode cX16_lay 8 = .ok (.getfield 356, 3) := by decide +kernel
theorem dX16_lay_11 : decode cX16_lay 11 = .ok (.getfield 216, 3) := by decide +kernel
theorem dX16_lay_14 : decode cX16_lay 14 = .ok (.iload_n 1, 1) := by decide +kernel
theorem dX16_lay_15 : decode cX16_lay 15 = .ok (.iaload, 1) := by decide +kernel
theorem dX16_lay_16 : decode cX16_lay 16 = .ok (.iaload, 1) := by decide +kernel
theorem dX16_lay_17 : decode cX16_lay 17 = .ok (.istore 4, 2) := by decide +kernel
theorem dX16_lay_19 : decode cX16_lay 19 = .ok (.aload_n 0, 1) := by decide +kernel
theorem dX16_lay_20 : decode cX16_lay 20 = .ok (.getfield 356, 3) := by decide +kernel
theorem dX16_lay_23 : decode cX16_lay 23 = .ok (.getfield 178, 3) := by decide +kernel
theorem dX16_lay_26 : decode cX16_lay 26 = .ok (.aload_n 0, 1) := by decide +kernel
theorem dX16_lay_27 : decode cX16_lay 27 = .ok (.getfield 356, 3) := by decide +kernel
theorem dX16_lay_30 : decode cX16_lay 30 = .ok (.getfield 231, 3) := by decide +kernel
theorem dX16_lay_33 : decode cX16_lay 33 = .ok (.iload_n 1, 1) := by decide +kernel
theorem dX16_lay_34 : decode cX16_lay 34 = .ok (.iaload, 1) := by decide +kernel
theorem dX16_lay_35 : decode cX16_lay 35 = .ok (.iaload, 1) := by decide +kernel
theorem dX16_lay_36 : decode cX16_lay 36 = .ok (.istore 5, 2) := by decide +kernel
theorem dX16_lay_38 : decode cX16_lay 38 = .ok (.iconst 0, 1) := by decide +kernel
theorem dX16_lay_39 : decode cX16_lay 39 = .ok (.istore 6, 2) := by decide +kernel
theorem dX16_lay_41 : decode cX16_lay 41 = .ok (.iload 6, 2) := by decide +kernel
theorem dX16_lay_43 : decode cX16_lay 43 = .ok (.bipush 8, 2) := by decide +kernel
theorem dX16_lay_45 : decode cX16_lay 45 = .ok (.if_icmp .ge 67, 3) := by decide +kernel
theorem dX16_lay_48 : decode cX16_lay 48 = .ok (.aload_n 0, 1) := by decide +kernel
theorem dX16_lay_49 : decode cX16_lay 49 = .ok (.getfield 578, 3) := by decide +kernel
theorem dX16_lay_52 : decode cX16_lay 52 = .ok (.iload 6, 2) := by decide +kernel
theorem dX16_lay_54 : decode cX16_lay 54 = .ok (.iload 6, 2) := by decide +kernel
theorem dX16_lay_56 : decode cX16_lay 56 = .ok (.iload 4, 2) := by decide +kernel
theorem dX16_lay_58 : decode cX16_lay 58 = .ok (.if_icmp .ge 18, 3) := by decide +kernel
theorem dX16_lay_61 : decode cX16_lay 61 = .ok (.aload_n 0, 1) := by decide +kernel
theorem dX16_lay_62 : decode cX16_lay 62 = .ok (.getfield 867, 3) := by decide +kernel
theorem dX16_lay_65 : decode cX16_lay 65 = .ok (.bipush 8, 2) := by decide +kernel
theorem dX16_lay_67 : decode cX16_lay 67 = .ok (.iload_n 2, 1) := by decide +kernel
theorem dX16_lay_68 : decode cX16_lay 68 = .ok (.imul, 1) := by decide +kernel
theorem dX16_lay_69 : decode cX16_lay 69 = .ok (.iload 6, 2) := by decide +kernel
theorem dX16_lay_71 : decode cX16_lay 71 = .ok (.iadd, 1) := by decide +kernel
theorem dX16_lay_72 : decode cX16_lay 72 = .ok (.laload, 1) := by decide +kernel
theorem dX16_lay_73 : decode cX16_lay 73 = .ok (.goto 32, 3) := by decide +kernel
theorem dX16_lay_76 : decode cX16_lay 76 = .ok (.iload 6, 2) := by decide +kernel
theorem dX16_lay_78 : decode cX16_lay 78 = .ok (.iload 4, 2) := by decide +kernel
theorem dX16_lay_80 : decode cX16_lay 80 = .ok (.iload 5, 2) := by decide +kernel
theorem dX16_lay_82 : decode cX16_lay 82 = .ok (.iadd, 1) := by decide +kernel
theorem dX16_lay_83 : decode cX16_lay 83 = .ok (.if_icmp .ge 21, 3) := by decide +kernel
theorem dX16_lay_86 : decode cX16_lay 86 = .ok (.aload_n 0, 1) := by decide +kernel
theorem dX16_lay_87 : decode cX16_lay 87 = .ok (.getfield 867, 3) := by decide +kernel
theorem dX16_lay_90 : decode cX16_lay 90 = .ok (.bipush 8, 2) := by decide +kernel
theorem dX16_lay_92 : decode cX16_lay 92 = .ok (.iload_n 3, 1) := by decide +kernel
theorem dX16_lay_93 : decode cX16_lay 93 = .ok (.imul, 1) := by decide +kernel
theorem dX16_lay_94 : decode cX16_lay 94 = .ok (.iload 6, 2) := by decide +kernel
theorem dX16_lay_96 : decode cX16_lay 96 = .ok (.iadd, 1) := by decide +kernel
theorem dX16_lay_97 : decode cX16_lay 97 = .ok (.iload 4, 2) := by decide +kernel
theorem dX16_lay_99 : decode cX16_lay 99 = .ok (.isub, 1) := by decide +kernel
theorem dX16_lay_100 : decode cX16_lay 100 = .ok (.laload, 1) := by decide +kernel
theorem dX16_lay_101 : decode cX16_lay 101 = .ok (.goto 4, 3) := by decide +kernel
theorem dX16_lay_104 : decode cX16_lay 104 = .ok (.lconst 0, 1) := by decide +kernel
theorem dX16_lay_105 : decode cX16_lay 105 = .ok (.lastore, 1) := by decide +kernel
theorem dX16_lay_106 : decode cX16_lay 106 = .ok (.iinc 6 1, 3) := by decide +kernel
theorem dX16_lay_109 : decode cX16_lay 109 = .ok (.goto (-68), 3) := by decide +kernel
theorem dX16_lay_112 : decode cX16_lay 112 = .ok (.return_, 1) := by decide +kernel
set_option maxRecDepth 20000 in
theorem a_X16_lay_112 {Q : Sg → Unit → Prop} {X : Sg → String → Prop} (K : MC R p s m args c cX16_lay 7 RX16 D cA tys A n0 s0 0 0 []) (hQ : HQV p l e R s m args below meth c cX16_lay D cA A n0 s0 QM dm ra jx rm Q) (hX : HX p l e R s m args below meth c 7 D cA A n0 s0 QM dm ra jx rm X) : ∀ (σ : Sg), w_X16_lay_112 ra jx rm Q X σ → RG σ → Shp dm ra jx rm σ → JJ p l e R s m args below meth c 7 D cA A n0 s0 QM σ 112 [(0, .ref rm)] [] := by
  intro σ h hGσ hS H locs ls hH hl hc
  have B := K.1
  unfold w_X16_lay_112 at h
  exact hQ _ _ _ _ _ dX16_lay_112 hH hc h hGσ hS
set_option maxRecDepth 20000 in
theorem a_X16_lay_105 {Q : Sg → Unit → Prop} {X : Sg → String → Prop} (K : MC R p s m args c cX16_lay 7 RX16 D cA tys A n0 s0 0 0 []) (hQ : HQV p l e R s m args below meth c cX16_lay D cA A n0 s0 QM dm ra jx rm Q) (hX : HX p l e R s m args below meth c 7 D cA A n0 s0 QM dm ra jx rm X) {K41 : Sg → Int → Int → Int → Int → Int → Prop} (hK41 : ∀ (σ : Sg) (v2 : Int) (v3 : Int) (v4 : Int) (v5 : Int) (v6 : Int) (g2 : rng v2) (g3 : rng v3) (g4 : rng v4) (g5 : rng v5) (g6 : rng v6), K41 σ v2 v3 v4 v5 v6 → RG σ → Shp dm ra jx rm σ → JJ p l e R s m args below meth c 7 D cA A n0 s0 QM σ 41 [(0, .ref rm), (2, .int (i32 v2)), (3, .int (i32 v3)), (4, .int (i32 v4)), (5, .int (i32 v5)), (6, .int (i32 v6))] []) : ∀ (σ : Sg) (v2 : Int) (v3 : Int) (v4 : Int) (v5 : Int) (v6 : Int) (u0 : Int64) (u1 : Int) (g2 : rng v2) (g3 : rng v3) (g4 : rng v4) (g5 : rng v5) (g6 : rng v6) (gu1 : rng u1), w_X16_lay_105 ra jx rm K41 Q X σ v2 v3 v4 v5 v6 u0 u1 → RG σ → Shp dm ra jx rm σ → JJ p l e R s m args below meth c 7 D cA A n0 s0 QM σ 105 [(0, .ref rm), (2, .int (i32 v2)), (3, .int (i32 v3)), (4, .int (i32 v4)), (5, .int (i32 v5)), (6, .int (i32 v6))] [.long u0, .int (i32 u1), .ref (ra 82)] := by
  intro σ v2 v3 v4 v5 v6 u0 u1 g2 g3 g4 g5 g6 gu1 h hGσ hS H locs ls hH hl hc
  have B := K.1
  unfold w_X16_lay_105 at h
  obtain ⟨q1, h⟩ := h
  obtain ⟨σ11, eσ11⟩ : ∃ z, z = pJ σ (ra 82) u1.toNat u0 := ⟨_, rfl⟩
  have h := h σ11 eσ11
  refine x_last B K.2.1 hH (hS.ar (k := 82) (kd := 101) (n := 16) (by decide)) (by decide) q1 dX16_lay_105 (fun H locs hH => ?_)
  have hH : Hd D cA A s (pJ σ (ra 82) u1.toNat u0) H locs := hH
  rw [← eσ11] at hH
  have hGσ11 : RG σ11 := by rw [eσ11]; exact hGσ.pJ
  have hS : Shp dm ra jx rm σ11 := by rw [eσ11]; exact hS
  have hc : CB n0 s0 σ11 := by rw [eσ11]; exact hc
  rw [show gc σ = gc σ11 by rw [eσ11], show gs σ = gs σ11 by rw [eσ11]]
  obtain ⟨q3, h⟩ := h
  refine lv_iinc (k := 5) (v := i32 (v6 + 1)) (lv' := [(6, .int (i32 (v6 + 1))), (0, .ref rm), (2, .int (i32 v2)), (3, .int (i32 v3)), (4, .int (i32 v4)), (5, .int (i32 v5))]) B.1 B.2.1 dX16_lay_106 hl rfl (i32_add _ _) (by decide) rfl (fun ls hl => ?_)
  refine lv_goto (tgt := 41) B.1 B.2.1 dX16_lay_109 (by decide) ?_
  exact hK41 _ _ _ _ _ _ g2 g3 g4 g5 q3 h hGσ11 hS _ _ _ hH (lv_sub (l' := [(0, .ref rm), (2, .int (i32 v2)), (3, .int (i32 v3)), (4, .int (i32 v4)), (5, .int (i32 v5)), (6, .int (i32 (v6 + 1)))]) hl [1, 2, 3, 4, 5, 0] rfl) hc
set_option maxRecDepth 20000 in
theorem a_X16_lay_104 {Q : Sg → Unit → Prop} {X : Sg → String → Prop} (K : MC R p s m args c cX16_lay 7 RX16 D cA tys A n0 s0 0 0 []) (hQ : HQV p l e R s m args below meth c cX16_lay D cA A n0 s0 QM dm ra jx rm Q) (hX : HX p l e R s m args below meth c 7 D cA A n0 s0 QM dm ra jx rm X) {K41 : Sg → Int → Int → Int → Int → Int → Prop} (hK41 : ∀ (σ : Sg) (v2 : Int) (v3 : Int) (v4 : Int) (v5 : Int) (v6 : Int) (g2 : rng v2) (g3 : rng v3) (g4 : rng v4) (g5 : rng v5) (g6 : rng v6), K41 σ v2 v3 v4 v5 v6 → RG σ → Shp dm ra jx rm σ → JJ p l e R s m args below meth c 7 D cA A n0 s0 QM σ 41 [(0, .ref rm), (2, .int (i32 v2)), (3, .int (i32 v3)), (4, .int (i32 v4)), (5, .int (i32 v5)), (6, .int (i32 v6))] []) : ∀ (σ : Sg) (v2 : Int) (v3 : Int) (v4 : Int) (v5 : Int) (v6 : Int) (u0 : Int) (g2 : rng v2) (g3 : rng v3) (g4 : rng v4) (g5 : rng v5) (g6 : rng v6) (gu0 : rng u0), w_X16_lay_104 ra jx rm K41 Q X σ v2 v3 v4 v5 v6 u0 → RG σ → Shp dm ra jx rm σ → JJ p l e R s m args below meth c 7 D cA A n0 s0 QM σ 104 [(0, .ref rm), (2, .int (i32 v2)), (3, .int (i32 v3)), (4, .int (i32 v4)), (5, .int (i32 v5)), (6, .int (i32 v6))] [.int (i32 u0), .ref (ra 82)] := by
  intro σ v2 v3 v4 v5 v6 u0 g2 g3 g4 g5 g6 gu0 h hGσ hS H locs ls hH hl hc
  have B := K.1
  unfold w_X16_lay_104 at h
  refine lv_lconst (v := 0) B.1 B.2.1 dX16_lay_104 (by decide) ?_
  exact a_X16_lay_105 K hQ hX hK41 _ _ _ _ _ _ _ _ g2 g3 g4 g5 g6 gu0 h hGσ hS _ _ _ hH (lv_sub (l' := [(0, .ref rm), (2, .int (i32 v2)), (3, .int (i32 v3)), (4, .int (i32 v4)), (5, .int (i32 v5)), (6, .int (i32 v6))]) hl [0, 1, 2, 3, 4, 5] rfl) hc
set_option maxRecDepth 20000 in
theorem a_X16_lay_86 {Q : Sg → Unit → Prop} {X : Sg → String → Prop} (K : MC R p s m args c cX16_lay 7 RX16 D cA tys A n0 s0 0 0 []) (hQ : HQV p l e R s m args below meth c cX16_lay D cA A n0 s0 QM dm ra jx rm Q) (hX : HX p l e R s m args below meth c 7 D cA A n0 s0 QM dm ra jx rm X) {K41 : Sg → Int → Int → Int → Int → Int → Prop} (hK41 : ∀ (σ : Sg) (v2 : Int) (v3 : Int) (v4 : Int) (v5 : Int) (v6 : Int) (g2 : rng v2) (g3 : rng v3) (g4 : rng v4) (g5 : rng v5) (g6 : rng v6), K41 σ v2 v3 v4 v5 v6 → RG σ → Shp dm ra jx rm σ → JJ p l e R s m args below meth c 7 D cA A n0 s0 QM σ 41 [(0, .ref rm), (2, .int (i32 v2)), (3, .int (i32 v3)), (4, .int (i32 v4)), (5, .int (i32 v5)), (6, .int (i32 v6))] []) : ∀ (σ : Sg) (v2 : Int) (v3 : Int) (v4 : Int) (v5 : Int) (v6 : Int) (u0 : Int) (g2 : rng v2) (g3 : rng v3) (g4 : rng v4) (g5 : rng v5) (g6 : rng v6) (gu0 : rng u0), w_X16_lay_86 ra jx rm K41 Q X σ v2 v3 v4 v5 v6 u0 → RG σ → Shp dm ra jx rm σ → JJ p l e R s m args below meth c 7 D cA A n0 s0 QM σ 86 [(0, .ref rm), (2, .int (i32 v2)), (3, .int (i32 v3)), (4, .int (i32 v4)), (5, .int (i32 v5)), (6, .int (i32 v6))] [.int (i32 u0), .ref (ra 82)] := by
  intro σ v2 v3 v4 v5 v6 u0 g2 g3 g4 g5 g6 gu0 h hGσ hS H locs ls hH hl hc
  have B := K.1
  unfold w_X16_lay_86 at h
  refine lv_aload_n B.1 B.2.1 dX16_lay_86 rfl (lv_at hl 0 rfl) ?_
  refine r_arr B hH hS 116 (kd := 101) (n := 32000) (by decide) (by decide) wf_X16_867 rfl rfl dX16_lay_87 ?_
  refine lv_bipush (v := i32 8) B.1 B.2.1 dX16_lay_90 (by decide) ?_
  refine lv_iload_n B.1 B.2.1 dX16_lay_92 rfl (lv_at hl 2 rfl) ?_
  obtain ⟨q1, h⟩ := h
  refine lv_imul B.1 B.2.1 dX16_lay_93 ?_
  rw [i32_mul]
  refine lv_iload B.1 B.2.1 dX16_lay_94 (lv_at hl 5 rfl) ?_
  obtain ⟨q2, h⟩ := h
  refine lv_iadd B.1 B.2.1 dX16_lay_96 ?_
  rw [i32_add]
  refine lv_iload B.1 B.2.1 dX16_lay_97 (lv_at hl 3 rfl) ?_
  obtain ⟨q3, h⟩ := h
  refine lv_isub B.1 B.2.1 dX16_lay_99 ?_
  rw [i32_sub]
  obtain ⟨q4, h⟩ := h
  refine x_lald B K.2.1 hH (hS.ar (k := 116) (kd := 101) (n := 32000) (by decide)) (by decide) q4 dX16_lay_100 ?_
  refine lv_goto (tgt := 105) B.1 B.2.1 dX16_lay_101 (by decide) ?_
  exact a_X16_lay_105 K hQ hX hK41 _ _ _ _ _ _ _ _ g2 g3 g4 g5 g6 gu0 h hGσ hS _ _ _ hH (lv_sub (l' := [(0, .ref rm), (2, .int (i32 v2)), (3, .int (i32 v3)), (4, .int (i32 v4)), (5, .int (i32 v5)), (6, .int (i32 v6))]) hl [0, 1, 2, 3, 4, 5] rfl) hc
set_option maxRecDepth 20000 in
theorem a_X16_lay_76 {Q : Sg → Unit → Prop} {X : Sg → String → Prop} (K : MC R p s m args c cX16_lay 7 RX16 D cA tys A n0 s0 0 0 []) (hQ : HQV p l e R s m args below meth c cX16_lay D cA A n0 s0 QM dm ra jx rm Q) (hX : HX p l e R s m args below meth c 7 D cA A n0 s0 QM dm ra jx rm X) {K41 : Sg → Int → Int → Int → Int → Int → Prop} (hK41 : ∀ (σ : Sg) (v2 : Int) (v3 : Int) (v4 : Int) (v5 : Int) (v6 : Int) (g2 : rng v2) (g3 : rng v3) (g4 : rng v4) (g5 : rng v5) (g6 : rng v6), K41 σ v2 v3 v4 v5 v6 → RG σ → Shp dm ra jx rm σ → JJ p l e R s m args below meth c 7 D cA A n0 s0 QM σ 41 [(0, .ref rm), (2, .int (i32 v2)), (3, .int (i32 v3)), (4, .int (i32 v4)), (5, .int (i32 v5)), (6, .int (i32 v6))] []) : ∀ (σ : Sg) (v2 : Int) (v3 : Int) (v4 : Int) (v5 : Int) (v6 : Int) (u0 : Int) (g2 : rng v2) (g3 : rng v3) (g4 : rng v4) (g5 : rng v5) (g6 : rng v6) (gu0 : rng u0), w_X16_lay_76 ra jx rm K41 Q X σ v2 v3 v4 v5 v6 u0 → RG σ → Shp dm ra jx rm σ → JJ p l e R s m args below meth c 7 D cA A n0 s0 QM σ 76 [(0, .ref rm), (2, .int (i32 v2)), (3, .int (i32 v3)), (4, .int (i32 v4)), (5, .int (i32 v5)), (6, .int (i32 v6))] [.int (i32 u0), .ref (ra 82)] := by
  intro σ v2 v3 v4 v5 v6 u0 g2 g3 g4 g5 g6 gu0 h hGσ hS H locs ls hH hl hc
  have B := K.1
  unfold w_X16_lay_76 at h
  refine lv_iload B.1 B.2.1 dX16_lay_76 (lv_at hl 5 rfl) ?_
  refine lv_iload B.1 B.2.1 dX16_lay_78 (lv_at hl 3 rfl) ?_
  refine lv_iload B.1 B.2.1 dX16_lay_80 (lv_at hl 4 rfl) ?_
  obtain ⟨q1, h⟩ := h
  refine lv_iadd B.1 B.2.1 dX16_lay_82 ?_
  rw [i32_add]
  refine lv_icmp_ge (tgt := 104) B.1 B.2.1 dX16_lay_83 (by decide) (fun h9 => ?_) (fun h9 => ?_)
  · rw [if_pos ((i32_le q1 g6).mp h9)] at h
    exact a_X16_lay_104 K hQ hX hK41 _ _ _ _ _ _ _ g2 g3 g4 g5 g6 gu0 h hGσ hS _ _ _ hH (lv_sub (l' := [(0, .ref rm), (2, .int (i32 v2)), (3, .int (i32 v3)), (4, .int (i32 v4)), (5, .int (i32 v5)), (6, .int (i32 v6))]) hl [0, 1, 2, 3, 4, 5] rfl) hc
  · rw [if_neg (fun q => h9 ((i32_le q1 g6).mpr q))] at h
    exact a_X16_lay_86 K hQ hX hK41 _ _ _ _ _ _ _ g2 g3 g4 g5 g6 gu0 h hGσ hS _ _ _ hH (lv_sub (l' := [(0, .ref rm), (2, .int (i32 v2)), (3, .int (i32 v3)), (4, .int (i32 v4)), (5, .int (i32 v5)), (6, .int (i32 v6))]) hl [0, 1, 2, 3, 4, 5] rfl) hc
set_option maxRecDepth 20000 in
theorem a_X16_lay_61 {Q : Sg → Unit → Prop} {X : Sg → String → Prop} (K : MC R p s m args c cX16_lay 7 RX16 D cA tys A n0 s0 0 0 []) (hQ : HQV p l e R s m args below meth c cX16_lay D cA A n0 s0 QM dm ra jx rm Q) (hX : HX p l e R s m args below meth c 7 D cA A n0 s0 QM dm ra jx rm X) {K41 : Sg → Int → Int → Int → Int → Int → Prop} (hK41 : ∀ (σ : Sg) (v2 : Int) (v3 : Int) (v4 : Int) (v5 : Int) (v6 : Int) (g2 : rng v2) (g3 : rng v3) (g4 : rng v4) (g5 : rng v5) (g6 : rng v6), K41 σ v2 v3 v4 v5 v6 → RG σ → Shp dm ra jx rm σ → JJ p l e R s m args below meth c 7 D cA A n0 s0 QM σ 41 [(0, .ref rm), (2, .int (i32 v2)), (3, .int (i32 v3)), (4, .int (i32 v4)), (5, .int (i32 v5)), (6, .int (i32 v6))] []) : ∀ (σ : Sg) (v2 : Int) (v3 : Int) (v4 : Int) (v5 : Int) (v6 : Int) (u0 : Int) (g2 : rng v2) (g3 : rng v3) (g4 : rng v4) (g5 : rng v5) (g6 : rng v6) (gu0 : rng u0), w_X16_lay_61 ra jx rm K41 Q X σ v2 v3 v4 v5 v6 u0 → RG σ → Shp dm ra jx rm σ → JJ p l e R s m args below meth c 7 D cA A n0 s0 QM σ 61 [(0, .ref rm), (2, .int (i32 v2)), (3, .int (i32 v3)), (4, .int (i32 v4)), (5, .int (i32 v5)), (6, .int (i32 v6))] [.int (i32 u0), .ref (ra 82)] := by
  intro σ v2 v3 v4 v5 v6 u0 g2 g3 g4 g5 g6 gu0 h hGσ hS H locs ls hH hl hc
  have B := K.1
  unfold w_X16_lay_61 at h
  refine lv_aload_n B.1 B.2.1 dX16_lay_61 rfl (lv_at hl 0 rfl) ?_
  refine r_arr B hH hS 116 (kd := 101) (n := 32000) (by decide) (by decide) wf_X16_867 rfl rfl dX16_lay_62 ?_
  refine lv_bipush (v := i32 8) B.1 B.2.1 dX16_lay_65 (by decide) ?_
  refine lv_iload_n B.1 B.2.1 dX16_lay_67 rfl (lv_at hl 1 rfl) ?_
  obtain ⟨q1, h⟩ := h
  refine lv_imul B.1 B.2.1 dX16_lay_68 ?_
  rw [i32_mul]
  refine lv_iload B.1 B.2.1 dX16_lay_69 (lv_at hl 5 rfl) ?_
  obtain ⟨q2, h⟩ := h
  refine lv_iadd B.1 B.2.1 dX16_lay_71 ?_
  rw [i32_add]
  obtain ⟨q3, h⟩ := h
  refine x_lald B K.2.1 hH (hS.ar (k := 116) (kd := 101) (n := 32000) (by decide)) (by decide) q3 dX16_lay_72 ?_
  refine lv_goto (tgt := 105) B.1 B.2.1 dX16_lay_73 (by decide) ?_
  exact a_X16_lay_105 K hQ hX hK41 _ _ _ _ _ _ _ _ g2 g3 g4 g5 g6 gu0 h hGσ hS _ _ _ hH (lv_sub (l' := [(0, .ref rm), (2, .int (i32 v2)), (3, .int (i32 v3)), (4, .int (i32 v4)), (5, .int (i32 v5)), (6, .int (i32 v6))]) hl [0, 1, 2, 3, 4, 5] rfl) hc
set_option maxRecDepth 20000 in
theorem a_X16_lay_48 {Q : Sg → Unit → Prop} {X : Sg → String → Prop} (K : MC R p s m args c cX16_lay 7 RX16 D cA tys A n0 s0 0 0 []) (hQ : HQV p l e R s m args below meth c cX16_lay D cA A n0 s0 QM dm ra jx rm Q) (hX : HX p l e R s m args below meth c 7 D cA A n0 s0 QM dm ra jx rm X) {K41 : Sg → Int → Int → Int → Int → Int → Prop} (hK41 : ∀ (σ : Sg) (v2 : Int) (v3 : Int) (v4 : Int) (v5 : Int) (v6 : Int) (g2 : rng v2) (g3 : rng v3) (g4 : rng v4) (g5 : rng v5) (g6 : rng v6), K41 σ v2 v3 v4 v5 v6 → RG σ → Shp dm ra jx rm σ → JJ p l e R s m args below meth c 7 D cA A n0 s0 QM σ 41 [(0, .ref rm), (2, .int (i32 v2)), (3, .int (i32 v3)), (4, .int (i32 v4)), (5, .int (i32 v5)), (6, .int (i32 v6))] []) : ∀ (σ : Sg) (v2 : Int) (v3 : Int) (v4 : Int) (v5 : Int) (v6 : Int) (g2 : rng v2) (g3 : rng v3) (g4 : rng v4) (g5 : rng v5) (g6 : rng v6), w_X16_lay_48 ra jx rm K41 Q X σ v2 v3 v4 v5 v6 → RG σ → Shp dm ra jx rm σ → JJ p l e R s m args below meth c 7 D cA A n0 s0 QM σ 48 [(0, .ref rm), (2, .int (i32 v2)), (3, .int (i32 v3)), (4, .int (i32 v4)), (5, .int (i32 v5)), (6, .int (i32 v6))] [] := by
  intro σ v2 v3 v4 v5 v6 g2 g3 g4 g5 g6 h hGσ hS H locs ls hH hl hc
  have B := K.1
  unfold w_X16_lay_48 at h
  refine lv_aload_n B.1 B.2.1 dX16_lay_48 rfl (lv_at hl 0 rfl) ?_
  refine r_arr B hH hS 82 (kd := 101) (n := 16) (by decide) (by decide) wf_X16_578 rfl rfl dX16_lay_49 ?_
  refine lv_iload B.1 B.2.1 dX16_lay_52 (lv_at hl 5 rfl) ?_
  refine lv_iload B.1 B.2.1 dX16_lay_54 (lv_at hl 5 rfl) ?_
  refine lv_iload B.1 B.2.1 dX16_lay_56 (lv_at hl 3 rfl) ?_
  refine lv_icmp_ge (tgt := 76) B.1 B.2.1 dX16_lay_58 (by decide) (fun h9 => ?_) (fun h9 => ?_)
  · rw [if_pos ((i32_le g4 g6).mp h9)] at h
    exact a_X16_lay_76 K hQ hX hK41 _ _ _ _ _ _ _ g2 g3 g4 g5 g6 g6 h hGσ hS _ _ _ hH (lv_sub (l' := [(0, .ref rm), (2, .int (i32 v2)), (3, .int (i32 v3)), (4, .int (i32 v4)), (5, .int (i32 v5)), (6, .int (i32 v6))]) hl [0, 1, 2, 3, 4, 5] rfl) hc
  · rw [if_neg (fun q => h9 ((i32_le g4 g6).mpr q))] at h
    exact a_X16_lay_61 K hQ hX hK41 _ _ _ _ _ _ _ g2 g3 g4 g5 g6 g6 h hGσ hS _ _ _ hH (lv_sub (l' := [(0, .ref rm), (2, .int (i32 v2)), (3, .int (i32 v3)), (4, .int (i32 v4)), (5, .int (i32 v5)), (6, .int (i32 v6))]) hl [0, 1, 2, 3, 4, 5] rfl) hc
set_option maxRecDepth 20000 in
theorem a_X16_lay_41 {Q : Sg → Unit → Prop} {X : Sg → String → Prop} (K : MC R p s m args c cX16_lay 7 RX16 D cA tys A n0 s0 0 0 []) (hQ : HQV p l e R s m args below meth c cX16_lay D cA A n0 s0 QM dm ra jx rm Q) (hX : HX p l e R s m args below meth c 7 D cA A n0 s0 QM dm ra jx rm X) {K41 : Sg → Int → Int → Int → Int → Int → Prop} (hK41 : ∀ (σ : Sg) (v2 : Int) (v3 : Int) (v4 : Int) (v5 : Int) (v6 : Int) (g2 : rng v2) (g3 : rng v3) (g4 : rng v4) (g5 : rng v5) (g6 : rng v6), K41 σ v2 v3 v4 v5 v6 → RG σ → Shp dm ra jx rm σ → JJ p l e R s m args below meth c 7 D cA A n0 s0 QM σ 41 [(0, .ref rm), (2, .int (i32 v2)), (3, .int (i32 v3)), (4, .int (i32 v4)), (5, .int (i32 v5)), (6, .int (i32 v6))] []) : ∀ (σ : Sg) (v2 : Int) (v3 : Int) (v4 : Int) (v5 : Int) (v6 : Int) (g2 : rng v2) (g3 : rng v3) (g4 : rng v4) (g5 : rng v5) (g6 : rng v6), w_X16_lay_41 ra jx rm K41 Q X σ v2 v3 v4 v5 v6 → RG σ → Shp dm ra jx rm σ → JJ p l e R s m args below meth c 7 D cA A n0 s0 QM σ 41 [(0, .ref rm), (2, .int (i32 v2)), (3, .int (i32 v3)), (4, .int (i32 v4)), (5, .int (i32 v5)), (6, .int (i32 v6))] [] := by
  intro σ v2 v3 v4 v5 v6 g2 g3 g4 g5 g6 h hGσ hS H locs ls hH hl hc
  have B := K.1
  unfold w_X16_lay_41 at h
  refine lv_iload B.1 B.2.1 dX16_lay_41 (lv_at hl 5 rfl) ?_
  refine lv_bipush (v := i32 8) B.1 B.2.1 dX16_lay_43 (by decide) ?_
  refine lv_icmp_ge (tgt := 112) B.1 B.2.1 dX16_lay_45 (by decide) (fun h9 => ?_) (fun h9 => ?_)
  · rw [if_pos ((i32_le (by unfold rng; omega) g6).mp h9)] at h
    exact a_X16_lay_112 K hQ hX _ h hGσ hS _ _ _ hH (lv_sub (l' := [(0, .ref rm)]) hl [0] rfl) hc
  · rw [if_neg (fun q => h9 ((i32_le (by unfold rng; omega) g6).mpr q))] at h
    exact a_X16_lay_48 K hQ hX hK41 _ _ _ _ _ _ g2 g3 g4 g5 g6 h hGσ hS _ _ _ hH (lv_sub (l' := [(0, .ref rm), (2, .int (i32 v2)), (3, .int (i32 v3)), (4, .int (i32 v4)), (5, .int (i32 v5)), (6, .int (i32 v6))]) hl [0, 1, 2, 3, 4, 5] rfl) hc
theorem al_X16_lay_41 {Q : Sg → Unit → Prop} {X : Sg → String → Prop} (K : MC R p s m args c cX16_lay 7 RX16 D cA tys A n0 s0 0 0 []) (hQ : HQV p l e R s m args below meth c cX16_lay D cA A n0 s0 QM dm ra jx rm Q) (hX : HX p l e R s m args below meth c 7 D cA A n0 s0 QM dm ra jx rm X) : ∀ (n : Nat), ∀ (σ : Sg) (v2 : Int) (v3 : Int) (v4 : Int) (v5 : Int) (v6 : Int) (g2 : rng v2) (g3 : rng v3) (g4 : rng v4) (g5 : rng v5) (g6 : rng v6), wl_X16_lay_41 ra jx rm Q X n σ v2 v3 v4 v5 v6 → RG σ → Shp dm ra jx rm σ → JJ p l e R s m args below meth c 7 D cA A n0 s0 QM σ 41 [(0, .ref rm), (2, .int (i32 v2)), (3, .int (i32 v3)), (4, .int (i32 v4)), (5, .int (i32 v5)), (6, .int (i32 v6))] [] := by
  intro n
  induction n with
  | zero => intro σ v2 v3 v4 v5 v6 g2 g3 g4 g5 g6 h; exact h.elim
  | succ n ih => exact fun σ v2 v3 v4 v5 v6 g2 g3 g4 g5 g6 h => a_X16_lay_41 K hQ hX ih σ v2 v3 v4 v5 v6 g2 g3 g4 g5 g6 h
set_option maxRecDepth 20000 in
theorem a_X16_lay_0 {Q : Sg → Unit → Prop} {X : Sg → String → Prop} (K : MC R p s m args c cX16_lay 7 RX16 D cA tys A n0 s0 0 0 []) (hQ : HQV p l e R s m args below meth c cX16_lay D cA A n0 s0 QM dm ra jx rm Q) (hX : HX p l e R s m args below meth c 7 D cA A n0 s0 QM dm ra jx rm X) : ∀ (σ : Sg) (v1 : Int) (v2 : Int) (v3 : Int) (g1 : rng v1) (g2 : rng v2) (g3 : rng v3), w_X16_lay_0 ra jx rm Q X σ v1 v2 v3 → RG σ → Shp dm ra jx rm σ → JJ p l e R s m args below meth c 7 D cA A n0 s0 QM σ 0 [(0, .ref rm), (1, .int (i32 v1)), (2, .int (i32 v2)), (3, .int (i32 v3))] [] := by
  intro σ v1 v2 v3 g1 g2 g3 h hGσ hS H locs ls hH hl hc
  have B := K.1
  unfold w_X16_lay_0 at h
  refine lv_aload_n B.1 B.2.1 dX16_lay_0 rfl (lv_at hl 0 rfl) ?_
  refine r_getp B hH hS 17 (by decide) wf_X16_356 rfl rfl dX16_lay_1 ?_
  obtain ⟨a12, ea12, ja12, h⟩ := h
  refine W.eq (g2 := F0 m 4 ls [.ref a12]) (by rw [ea12]; rfl) ?_
  refine n_arr B hH hS ja12 6 (kd := 100) (n := 16) (by decide) (by decide) (List.mem_of_getElem? (i := 6) rfl) rfl dX16_lay_4 ?_
  refine lv_aload_n B.1 B.2.1 dX16_lay_7 rfl (lv_at hl 0 rfl) ?_
  refine r_getp B hH hS 17 (by decide) wf_X16_356 rfl rfl dX16_lay_8 ?_
  obtain ⟨a13, ea13, ja13, h⟩ := h
  refine W.eq (g2 := F0 m 11 ls [.ref a13, .ref (jx a12 6)]) (by rw [ea13]; rfl) ?_
  refine n_arr B hH hS ja13 4 (kd := 100) (n := 16) (by decide) (by decide) (List.mem_of_getElem? (i := 4) rfl) rfl dX16_lay_11 ?_
  refine lv_iload_n B.1 B.2.1 dX16_lay_14 rfl (lv_at hl 1 rfl) ?_
  obtain ⟨q3, h⟩ := h
  refine x_iald B K.2.1 hH (hS.ja ja13 (k := 4) (kd := 100) (n := 16) (by decide)) (by decide) q3 dX16_lay_15 ?_
  obtain ⟨q4, h⟩ := h
  refine x_iald B K.2.1 hH (hS.ja ja12 (k := 6) (kd := 100) (n := 16) (by decide)) (by decide) q4 dX16_lay_16 ?_
  refine lv_istore (lv' := [(4, .int (i32 (gI σ (jx a12 6) (gI σ (jx a13 4) v1.toNat).toNat))), (0, .ref rm), (1, .int (i32 v1)), (2, .int (i32 v2)), (3, .int (i32 v3))]) B.1 B.2.1 dX16_lay_17 hl (by decide) rfl (fun ls hl => ?_)
  refine lv_aload_n B.1 B.2.1 dX16_lay_19 rfl (lv_at hl 1 rfl) ?_
  refine r_getp B hH hS 17 (by decide) wf_X16_356 rfl rfl dX16_lay_20 ?_
  obtain ⟨a14, ea14, ja14, h⟩ := h
  refine W.eq (g2 := F0 m 23 ls [.ref a14]) (by rw [ea14]; rfl) ?_
  refine n_arr B hH hS ja14 6 (kd := 100) (n := 16) (by decide) (by decide) (List.mem_of_getElem? (i := 6) rfl) rfl dX16_lay_23 ?_
  refine lv_aload_n B.1 B.2.1 dX16_lay_26 rfl (lv_at hl 1 rfl) ?_
  refine r_getp B hH hS 17 (by decide) wf_X16_356 rfl rfl dX16_lay_27 ?_
  obtain ⟨a15, ea15, ja15, h⟩ := h
  refine W.eq (g2 := F0 m 30 ls [.ref a15, .ref (jx a14 6)]) (by rw [ea15]; rfl) ?_
  refine n_arr B hH hS ja15 5 (kd := 100) (n := 16) (by decide) (by decide) (List.mem_of_getElem? (i := 5) rfl) rfl dX16_lay_30 ?_
  refine lv_iload_n B.1 B.2.1 dX16_lay_33 rfl (lv_at hl 2 rfl) ?_
  obtain ⟨q7, h⟩ := h
  refine x_iald B K.2.1 hH (hS.ja ja15 (k := 5) (kd := 100) (n := 16) (by decide)) (by decide) q7 dX16_lay_34 ?_
  obtain ⟨q8, h⟩ := h
  refine x_iald B K.2.1 hH (hS.ja ja14 (k := 6) (kd := 100) (n := 16) (by decide)) (by decide) q8 dX16_lay_35 ?_
  refine lv_istore (lv' := [(5, .int (i32 (gI σ (jx a14 6) (gI σ (jx a15 5) v1.toNat).toNat))), (4, .int (i32 (gI σ (jx a12 6) (gI σ (jx a13 4) v1.toNat).toNat))), (0, .ref rm), (1, .int (i32 v1)), (2, .int (i32 v2)), (3, .int (i32 v3))]) B.1 B.2.1 dX16_lay_36 hl (by decide) rfl (fun ls hl => ?_)
  refine lv_iconst (v := i32 0) B.1 B.2.1 dX16_lay_38 (by decide) ?_
  refine lv_istore (lv' := [(6, .int (i32 0)), (5, .int (i32 (gI σ (jx a14 6) (gI σ (jx a15 5) v1.toNat).toNat))), (4, .int (i32 (gI σ (jx a12 6) (gI σ (jx a13 4) v1.toNat).toNat))), (0, .ref rm), (1, .int (i32 v1)), (2, .int (i32 v2)), (3, .int (i32 v3))]) B.1 B.2.1 dX16_lay_39 hl (by decide) rfl (fun ls hl => ?_)
  obtain ⟨n9, h⟩ := h
  exact al_X16_lay_41 K hQ hX n9 _ _ _ _ _ _ g2 g3 (hGσ _ _) (hGσ _ _) (by unfold rng; omega) h hGσ hS _ _ _ hH (lv_sub (l' := [(0, .ref rm), (2, .int (i32 v2)), (3, .int (i32 v3)), (4, .int (i32 (gI σ (jx a12 6) (gI σ (jx a13 4) v1.toNat).toNat))), (5, .int (i32 (gI σ (jx a14 6) (gI σ (jx a15 5) v1.toNat).toNat))), (6, .int (i32 0))]) hl [3, 5, 6, 2, 1, 0] rfl) hc
theorem ok_X16_lay (hT : Tys cA tys) {Q : Sg → Unit → Prop} {X : Sg → String → Prop} (σ : Sg) (v1 : Int) (v2 : Int) (v3 : Int) (g1 : rng v1) (g2 : rng v2) (g3 : rng v3) (hG : RG σ) (hS : Shp dm ra jx rm σ) (h : wp_X16_lay ra jx rm v1 v2 v3 σ Q X) : Ok l D cA tys A yX16_lay (.code yX16_lay cX16_lay 7 none) 0 0 [.ref rm, .int (i32 v1), .int (i32 v2), .int (i32 v3)] σ (QnV dm ra jx rm Q) (QxR dm ra jx rm X) := by
  unfold wp_X16_lay at h
  exact ok_V (plainFor_of_name (by decide)) (by exact Nat.le_of_ble_eq_true rfl) hT (fun p e R s m args below meth c K hQ hX H locs ls hH hl hc => a_X16_lay_0 K hQ hX σ v1 v2 v3 g1 g2 g3 h hG hS H locs ls hH (lv_sub (l' := [(0, .ref rm), (1, .int (i32 v1)), (2, .int (i32 v2)), (3, .int (i32 v3))]) hl [0, 1, 2, 3] rfl) hc)
theorem dX16_passJoin_0 : decode cX16_passJoin 0 = .ok (.aload_n 0, 1) := by decide +kernel
theorem dX16_passJoin_1 : decode cX16_passJoin 1 = .ok (.getfield 874, 3) := by decide +kernel
theorem dX16_passJoin_4 : decode cX16_passJoin 4 = .ok (.iload_n 2, 1) := by decide +kernel
theorem dX16_passJoin_5 : decode cX16_passJoin 5 = .ok (.iaload, 1) := by decide +kernel
theorem dX16_passJoin_6 : decode cX16_passJoin 6 = .ok (.istore 4, 2) := by decide +kernel
theorem dX16_passJoin_8 : decode cX16_passJoin 8 = .ok (.iload 4, 2) := by decide +kernel
theorem dX16_passJoin_10 : decode cX16_passJoin 10 = .ok (.aload_n 0, 1) := by decide +kernel
theorem dX16_passJoin_11 : decode cX16_passJoin 11 = .ok (.getfield 874, 3) := by decide +kernel
theorem dX16_passJoin_14 : decode cX16_passJoin 14 = .ok (.iload_n 2, 1) := by decide +kernel
theorem dX16_passJoin_15 : decode cX16_passJoin 15 = .ok (.iconst 1, 1) := by decide +kernel
theorem dX16_passJoin_16 : decode cX16_passJoin 16 = .ok (.iadd, 1) := by decide +kernel
theorem dX16_passJoin_17 : decode cX16_passJoin 17 = .ok (.iaload, 1) := by decide +kernel
theorem dX16_passJoin_18 : decode cX16_passJoin 18 = .ok (.if_icmp .ge 154, 3) := by decide +kernel
theorem dX16_passJoin_21 : decode cX16_passJoin 21 = .ok (.aload_n 0, 1) := by decide +kernel
theorem dX16_passJoin_22 : decode cX16_passJoin 22 = .ok (.getfield 874, 3) := by decide +kernel
theorem dX16_passJoin_25 : decode cX16_passJoin 25 = .ok (.iload_n 3, 1) := by decide +kernel
theorem dX16_passJoin_26 : decode cX16_passJoin 26 = .ok (.iaload, 1) := by decide +kernel
theorem dX16_passJoin_27 : decode cX16_passJoin 27 = .ok (.istore 5, 2) := by decide +kernel
theorem dX16_passJoin_29 : decode cX16_passJoin 29 = .ok (.iload 5, 2) := by decide +kernel
theorem dX16_passJoin_31 : decode cX16_passJoin 31 = .ok (.aload_n 0, 1) := by decide +kernel
theorem dX16_passJoin_32 : decode cX16_passJoin 32 = .ok (.getfield 874, 3) := by decide +kernel
theorem dX16_passJoin_35 : decode cX16_passJoin 35 = .ok (.iload_n 3, 1) := by decide +kernel
theorem dX16_passJoin_36 : decode cX16_passJoin 36 = .ok (.iconst 1, 1) := by decide +kernel
theorem dX16_passJoin_37 : decode cX16_passJoin 37 = .ok (.iadd, 1) := by decide +kernel
theorem dX16_passJoin_38 : decode cX16_passJoin 38 = .ok (.iaload, 1) := by decide +kernel
theorem dX16_passJoin_39 : decode cX16_passJoin 39 = .ok (.if_icmp .ge 127, 3) := by decide +kernel
theorem dX16_passJoin_42 : decode cX16_passJoin 42 = .ok (.aload_n 0, 1) := by decide +kernel
theorem dX16_passJoin_43 : decode cX16_passJoin 43 = .ok (.getfield 867, 3) := by decide +kernel
theorem dX16_passJoin_46 : decode cX16_passJoin 46 = .ok (.bipush 8, 2) := by decide +kernel
theorem dX16_passJoin_48 : decode cX16_passJoin 48 = .ok (.iload 4, 2) := by decide +kernel
theorem dX16_passJoin_50 : decode cX16_passJoin 50 = .ok (.imul, 1) := by decide +kernel
theorem dX16_passJoin_51 : decode cX16_passJoin 51 = .ok (.aload_n 0, 1) := by decide +kernel
theorem dX16_passJoin_52 : decode cX16_passJoin 52 = .ok (.getfield 356, 3) := by decide +kernel
theorem dX16_passJoin_55 : decode cX16_passJoin 55 = .ok (.getfield 239, 3) := by decide +kernel
theorem dX16_passJoin_58 : decode cX16_passJoin 58 = .ok (.iload_n 1, 1) := by decide +kernel
theorem dX16_passJoin_59 : decode cX16_passJoin 59 = .ok (.iaload, 1) := by decide +kernel
theorem dX16_passJoin_60 : decode cX16_passJoin 60 = .ok (.iadd, 1) := by decide +kernel
theorem dX16_passJoin_61 : decode cX16_passJoin 61 = .ok (.laload, 1) := by decide +kernel
theorem dX16_passJoin_62 : decode cX16_passJoin 62 = .ok (.aload_n 0, 1) := by decide +kernel
theorem dX16_passJoin_63 : decode cX16_passJoin 63 = .ok (.getfield 867, 3) := by decide +kernel
theorem dX16_passJoin_66 : decode cX16_passJoin 66 = .ok (.bipush 8, 2) := by decide +kernel
theorem dX16_passJoin_68 : decode cX16_passJoin 68 = .ok (.iload 5, 2) := by decide +kernel
theorem dX16_passJoin_70 : decode cX16_passJoin 70 = .ok (.imul, 1) := by decide +kernel
theorem dX16_passJoin_71 : decode cX16_passJoin 71 = .ok (.aload_n 0, 1) := by decide +kernel
theorem dX16_passJoin_72 : decode cX16_passJoin 72 = .ok (.getfield 356, 3) := by decide +kernel
theorem dX16_passJoin_75 : decode cX16_passJoin 75 = .ok (.getfield 264, 3) := by decide +kernel
theorem dX16_passJoin_78 : decode cX16_passJoin 78 = .ok (.iload_n 1, 1) := by decide +kernel
theorem dX16_passJoin_79 : decode cX16_passJoin 79 = .ok (.iaload, 1) := by decide +kernel
theorem dX16_passJoin_80 : decode cX16_passJoin 80 = .ok (.iadd, 1) := by decide +kernel
theorem dX16_passJoin_81 : decode cX16_passJoin 81 = .ok (.laload, 1) := by decide +kernel
theorem dX16_passJoin_82 : decode cX16_passJoin 82 = .ok (.lcmp, 1) := by decide +kernel
theorem dX16_passJoin_83 : decode cX16_passJoin 83 = .ok (.ifCond .ne 77, 3) := by decide +kernel
theorem dX16_passJoin_86 : decode cX16_passJoin 86 = .ok (.aload_n 0, 1) := by decide +kernel
theorem dX16_passJoin_87 : decode cX16_passJoin 87 = .ok (.getfield 864, 3) := by decide +kernel
theorem dX16_passJoin_90 : decode cX16_passJoin 90 = .ok (.iload 5, 2) := by decide +kernel
theorem dX16_passJoin_92 : decode cX16_passJoin 92 = .ok (.laload, 1) := by decide +kernel
theorem dX16_passJoin_93 : decode cX16_passJoin 93 = .ok (.aload_n 0, 1) := by decide +kernel
theorem dX16_passJoin_94 : decode cX16_passJoin 94 = .ok (.getfield 864, 3) := by decide +kernel
theorem dX16_passJoin_97 : decode cX16_passJoin 97 = .ok (.iload 4, 2) := by decide +kernel
theorem dX16_passJoin_99 : decode cX16_passJoin 99 = .ok (.laload, 1) := by decide +kernel
theorem dX16_passJoin_100 : decode cX16_passJoin 100 = .ok (.lsub, 1) := by decide +kernel
theorem dX16_passJoin_101 : decode cX16_passJoin 101 = .ok (.aload_n 0, 1) := by decide +kernel
theorem dX16_passJoin_102 : decode cX16_passJoin 102 = .ok (.getfield 356, 3) := by decide +kernel
theorem dX16_passJoin_105 : decode cX16_passJoin 105 = .ok (.getfield 191, 3) := by decide +kernel
theorem dX16_passJoin_108 : decode cX16_passJoin 108 = .ok (.iload_n 1, 1) := by decide +kernel
theorem dX16_passJoin_109 : decode cX16_passJoin 109 = .ok (.laload, 1) := by decide +kernel
theorem dX16_passJoin_110 : decode cX16_passJoin 110 = .ok (.aload_n 0, 1) := by decide +kernel
theorem dX16_passJoin_111 : decode cX16_passJoin 111 = .ok (.getfield 356, 3) := by decide +kernel
theorem dX16_passJoin_114 : decode cX16_passJoin 114 = .ok (.getfield 204, 3) := by decide +kernel
theorem dX16_passJoin_117 : decode cX16_passJoin 117 = .ok (.iload_n 1, 1) := by decide +kernel
theorem dX16_passJoin_118 : decode cX16_passJoin 118 = .ok (.laload, 1) := by decide +kernel
theorem dX16_passJoin_119 : decode cX16_passJoin 119 = .ok (.invokestatic 45, 3) := by decide +kernel
theorem dX16_passJoin_122 : decode cX16_passJoin 122 = .ok (.ifCond .eq 38, 3) := by decide +kernel
theorem dX16_passJoin_125 : decode cX16_passJoin 125 = .ok (.aload_n 0, 1) := by decide +kernel
theorem dX16_passJoin_126 : decode cX16_passJoin 126 = .ok (.iload_n 1, 1) := by decide +kernel
theorem dX16_passJoin_127 : decode cX16_passJoin 127 = .ok (.iload 4, 2) := by decide +kernel
theorem dX16_passJoin_129 : decode cX16_passJoin 129 = .ok (.iload 5, 2) := by decide +kernel
theorem dX16_passJoin_131 : decode cX16_passJoin 131 = .ok (.invokevirtual 894, 3) := by decide +kernel
theorem dX16_passJoin_134 : decode cX16_passJoin 134 = .ok (.aload_n 0, 1) := by decide +kernel
theorem dX16_passJoin_135 : decode cX16_passJoin 135 = .ok (.aload_n 0, 1) := by decide +kernel
theorem dX16_passJoin_136 : decode cX16_passJoin 136 = .ok (.getfield 864, 3) := by decide +kernel
theorem dX16_passJoin_139 : decode cX16_passJoin 139 = .ok (.iload 4, 2) := by decide +kernel
theorem dX16_passJoin_141 : decode cX16_passJoin 141 = .ok (.laload, 1) := by decide +kernel
theorem dX16_passJoin_142 : decode cX16_passJoin 142 = .ok (.aload_n 0, 1) := by decide +kernel
theorem dX16_passJoin_143 : decode cX16_passJoin 143 = .ok (.getfield 864, 3) := by decide +kernel
theorem dX16_passJoin_146 : decode cX16_passJoin 146 = .ok (.iload 5, 2) := by decide +kernel
theorem dX16_passJoin_148 : decode cX16_passJoin 148 = .ok (.laload, 1) := by decide +kernel
theorem dX16_passJoin_149 : decode cX16_passJoin 149 = .ok (.invokestatic 586, 3) := by decide +kernel
theorem dX16_passJoin_152 : decode cX16_passJoin 152 = .ok (.aload_n 0, 1) := by decide +kernel
theorem dX16_passJoin_153 : decode cX16_passJoin 153 = .ok (.getfield 578, 3) := by decide +kernel
theorem dX16_passJoin_156 : decode cX16_passJoin 156 = .ok (.iconst 0, 1) := by decide +kernel
theorem dX16_passJoin_157 : decode cX16_passJoin 157 = .ok (.invokevirtual 870, 3) := by decide +kernel
theorem dX16_passJoin_160 : decode cX16_passJoin 160 = .ok (.iinc 5 1, 3) := by decide +kernel
theorem dX16_passJoin_163 : decode cX16_passJoin 163 = .ok (.goto (-134), 3) := by decide +kernel
theorem dX16_passJoin_166 : decode cX16_passJoin 166 = .ok (.iinc 4 1, 3) := by decide +kernel
theorem dX16_passJoin_169 : decode cX16_passJoin 169 = .ok (.goto (-161), 3) := by decide +kernel
theorem dX16_passJoin_172 : decode cX16_passJoin 172 = .ok (.return_, 1) := by decide +kernel
set_option maxRecDepth 20000 in
theorem a_X16_passJoin_172 {Q : Sg → Unit → Prop} {X : Sg → String → Prop} (K : MC R p s m args c cX16_passJoin 6 RX16 D cA tys A n0 s0 1 26 []) (hQ : HQV p l e R s m args below meth c cX16_passJoin D cA A n0 s0 QM dm ra jx rm Q) (hX : HX p l e R s m args below meth c 6 D cA A n0 s0 QM dm ra jx rm X) : ∀ (σ : Sg), w_X16_passJoin_172 ra jx rm Q X σ → RG σ → Shp dm ra jx rm σ → JJ p l e R s m args below meth c 6 D cA A n0 s0 QM σ 172 [(0, .ref rm)] [] := by
  intro σ h hGσ hS H locs ls hH hl hc
  have B := K.1
  unfold w_X16_passJoin_172 at h
  exact hQ _ _ _ _ _ dX16_passJoin_172 hH hc h hGσ hS
set_option maxRecDepth 20000 in
theorem a_X16_passJoin_166 {Q : Sg → Unit → Prop} {X : Sg → String → Prop} (K : MC R p s m args c cX16_passJoin 6 RX16 D cA tys A n0 s0 1 26 []) (hQ : HQV p l e R s m args below meth c cX16_passJoin D cA A n0 s0 QM dm ra jx rm Q) (hX : HX p l e R s m args below meth c 6 D cA A n0 s0 QM dm ra jx rm X) {K8 : Sg → Int → Int → Int → Int → Prop} (hK8 : ∀ (σ : Sg) (v1 : Int) (v2 : Int) (v3 : Int) (v4 : Int) (g1 : rng v1) (g2 : rng v2) (g3 : rng v3) (g4 : rng v4), K8 σ v1 v2 v3 v4 → RG σ → Shp dm ra jx rm σ → JJ p l e R s m args below meth c 6 D cA A n0 s0 QM σ 8 [(0, .ref rm), (1, .int (i32 v1)), (2, .int (i32 v2)), (3, .int (i32 v3)), (4, .int (i32 v4))] []) : ∀ (σ : Sg) (v1 : Int) (v2 : Int) (v3 : Int) (v4 : Int) (g1 : rng v1) (g2 : rng v2) (g3 : rng v3) (g4 : rng v4), w_X16_passJoin_166 ra jx rm K8 Q X σ v1 v2 v3 v4 → RG σ → Shp dm ra jx rm σ → JJ p l e R s m args below meth c 6 D cA A n0 s0 QM σ 166 [(0, .ref rm), (1, .int (i32 v1)), (2, .int (i32 v2)), (3, .int (i32 v3)), (4, .int (i32 v4))] [] := by
  intro σ v1 v2 v3 v4 g1 g2 g3 g4 h hGσ hS H locs ls hH hl hc
  have B := K.1
  unfold w_X16_passJoin_166 at h
  obtain ⟨q1, h⟩ := h
  refine lv_iinc (k := 4) (v := i32 (v4 + 1)) (lv' := [(4, .int (i32 (v4 + 1))), (0, .ref rm), (1, .int (i32 v1)), (2, .int (i32 v2)), (3, .int (i32 v3))]) B.1 B.2.1 dX16_passJoin_166 hl rfl (i32_add _ _) (by decide) rfl (fun ls hl => ?_)
  refine lv_goto (tgt := 8) B.1 B.2.1 dX16_passJoin_169 (by decide) ?_
  exact hK8 _ _ _ _ _ g1 g2 g3 q1 h hGσ hS _ _ _ hH (lv_sub (l' := [(0, .ref rm), (1, .int (i32 v1)), (2, .int (i32 v2)), (3, .int (i32 v3)), (4, .int (i32 (v4 + 1)))]) hl [1, 2, 3, 4, 0] rfl) hc
set_option maxRecDepth 20000 in
theorem a_X16_passJoin_160 {Q : Sg → Unit → Prop} {X : Sg → String → Prop} (K : MC R p s m args c cX16_passJoin 6 RX16 D cA tys A n0 s0 1 26 []) (hQ : HQV p l e R s m args below meth c cX16_passJoin D cA A n0 s0 QM dm ra jx rm Q) (hX : HX p l e R s m args below meth c 6 D cA A n0 s0 QM dm ra jx rm X) {K8 : Sg → Int → Int → Int → Int → Prop} (hK8 : ∀ (σ : Sg) (v1 : Int) (v2 : Int) (v3 : Int) (v4 : Int) (g1 : rng v1) (g2 : rng v2) (g3 : rng v3) (g4 : rng v4), K8 σ v1 v2 v3 v4 → RG σ → Shp dm ra jx rm σ → JJ p l e R s m args below meth c 6 D cA A n0 s0 QM σ 8 [(0, .ref rm), (1, .int (i32 v1)), (2, .int (i32 v2)), (3, .int (i32 v3)), (4, .int (i32 v4))] []) {K29 : Sg → Int → Int → Int → Int → Int → Prop} (hK29 : ∀ (σ : Sg) (v1 : Int) (v2 : Int) (v3 : Int) (v4 : Int) (v5 : Int) (g1 : rng v1) (g2 : rng v2) (g3 : rng v3) (g4 : rng v4) (g5 : rng v5), K29 σ v1 v2 v3 v4 v5 → RG σ → Shp dm ra jx rm σ → JJ p l e R s m args below meth c 6 D cA A n0 s0 QM σ 29 [(0, .ref rm), (1, .int (i32 v1)), (2, .int (i32 v2)), (3, .int (i32 v3)), (4, .int (i32 v4)), (5, .int (i32 v5))] []) : ∀ (σ : Sg) (v1 : Int) (v2 : Int) (v3 : Int) (v4 : Int) (v5 : Int) (g1 : rng v1) (g2 : rng v2) (g3 : rng v3) (g4 : rng v4) (g5 : rng v5), w_X16_passJoin_160 ra jx rm K8 K29 Q X σ v1 v2 v3 v4 v5 → RG σ → Shp dm ra jx rm σ → JJ p l e R s m args below meth c 6 D cA A n0 s0 QM σ 160 [(0, .ref rm), (1, .int (i32 v1)), (2, .int (i32 v2)), (3, .int (i32 v3)), (4, .int (i32 v4)), (5, .int (i32 v5))] [] := by
  intro σ v1 v2 v3 v4 v5 g1 g2 g3 g4 g5 h hGσ hS H locs ls hH hl hc
  have B := K.1
  unfold w_X16_passJoin_160 at h
  obtain ⟨q1, h⟩ := h
  refine lv_iinc (k := 5) (v := i32 (v5 + 1)) (lv' := [(5, .int (i32 (v5 + 1))), (0, .ref rm), (1, .int (i32 v1)), (2, .int (i32 v2)), (3, .int (i32 v3)), (4, .int (i32 v4))]) B.1 B.2.1 dX16_passJoin_160 hl rfl (i32_add _ _) (by decide) rfl (fun ls hl => ?_)
  refine lv_goto (tgt := 29) B.1 B.2.1 dX16_passJoin_163 (by decide) ?_
  exact hK29 _ _ _ _ _ _ g1 g2 g3 g4 q1 h hGσ hS _ _ _ hH (lv_sub (l' := [(0, .ref rm), (1, .int (i32 v1)), (2, .int (i32 v2)), (3, .int (i32 v3)), (4, .int (i32 v4)), (5, .int (i32 (v5 + 1)))]) hl [1, 2, 3, 4, 5, 0] rfl) hc
set_option maxRecDepth 20000 in
theorem a_X16_passJoin_125 {Q : Sg → Unit → Prop} {X : Sg → String → Prop} (K : MC R p s m args c cX16_passJoin 6 RX16 D cA tys A n0 s0 1 26 []) (hQ : HQV p l e R s m args below meth c cX16_passJoin D cA A n0 s0 QM dm ra jx rm Q) (hX : HX p l e R s m args below meth c 6 D cA A n0 s0 QM dm ra jx rm X) {K8 : Sg → Int → Int → Int → Int → Prop} (hK8 : ∀ (σ : Sg) (v1 : Int) (v2 : Int) (v3 : Int) (v4 : Int) (g1 : rng v1) (g2 : rng v2) (g3 : rng v3) (g4 : rng v4), K8 σ v1 v2 v3 v4 → RG σ → Shp dm ra jx rm σ → JJ p l e R s m args below meth c 6 D cA A n0 s0 QM σ 8 [(0, .ref rm), (1, .int (i32 v1)), (2, .int (i32 v2)), (3, .int (i32 v3)), (4, .int (i32 v4))] []) {K29 : Sg → Int → Int → Int → Int → Int → Prop} (hK29 : ∀ (σ : Sg) (v1 : Int) (v2 : Int) (v3 : Int) (v4 : Int) (v5 : Int) (g1 : rng v1) (g2 : rng v2) (g3 : rng v3) (g4 : rng v4) (g5 : rng v5), K29 σ v1 v2 v3 v4 v5 → RG σ → Shp dm ra jx rm σ → JJ p l e R s m args below meth c 6 D cA A n0 s0 QM σ 29 [(0, .ref rm), (1, .int (i32 v1)), (2, .int (i32 v2)), (3, .int (i32 v3)), (4, .int (i32 v4)), (5, .int (i32 v5))] []) : ∀ (σ : Sg) (v1 : Int) (v2 : Int) (v3 : Int) (v4 : Int) (v5 : Int) (g1 : rng v1) (g2 : rng v2) (g3 : rng v3) (g4 : rng v4) (g5 : rng v5), w_X16_passJoin_125 ra jx rm K8 K29 Q X σ v1 v2 v3 v4 v5 → RG σ → Shp dm ra jx rm σ → JJ p l e R s m args below meth c 6 D cA A n0 s0 QM σ 125 [(0, .ref rm), (1, .int (i32 v1)), (2, .int (i32 v2)), (3, .int (i32 v3)), (4, .int (i32 v4)), (5, .int (i32 v5))] [] := by
  intro σ v1 v2 v3 v4 v5 g1 g2 g3 g4 g5 h hGσ hS H locs ls hH hl hc
  have B := K.1
  unfold w_X16_passJoin_125 at h
  refine lv_aload_n B.1 B.2.1 dX16_passJoin_125 rfl (lv_at hl 0 rfl) ?_
  refine lv_iload_n B.1 B.2.1 dX16_passJoin_126 rfl (lv_at hl 1 rfl) ?_
  refine lv_iload B.1 B.2.1 dX16_passJoin_127 (lv_at hl 4 rfl) ?_
  refine lv_iload B.1 B.2.1 dX16_passJoin_129 (lv_at hl 5 rfl) ?_
  refine c_V B hH hl hc K.2.2.1 (C := RX16) (T := TX16) (N := 123) (ci := 16) (As := [.int (i32 v1), .int (i32 v4), .int (i32 v5)]) (ok_X16_lay K.2.1 σ v1 v4 v5 g1 g4 g5 hGσ hS h) wc_X16_894 3 hd_X16_lay ⟨Nat.le_trans (Nat.le_of_ble_eq_true rfl) K.2.2.2.1, Nat.le_trans (Nat.le_of_ble_eq_true rfl) K.2.2.2.2.1⟩ hS.1.1 hS.1.2 (by decide) rfl rfl (rest := []) rfl (Nat.le_of_ble_eq_true rfl) dX16_passJoin_131 (fun σ17 w hq => ?_) (fun σ9 E9 hx9 => hX σ9 E9 _ _ _ (tb_out K.2.2.2.2.2 rfl) hx9.1 hx9.2.1 hx9.2.2)
  obtain ⟨rfl, h, hGσ17, hS⟩ := hq
  intro H locs ls hH hl hc
  refine W.eq (g2 := F0 m 134 ls []) (rfl) ?_
  try dsimp only at h
  refine lv_aload_n B.1 B.2.1 dX16_passJoin_134 rfl (lv_at hl 0 rfl) ?_
  refine lv_aload_n B.1 B.2.1 dX16_passJoin_135 rfl (lv_at hl 0 rfl) ?_
  refine r_arr B hH hS 115 (kd := 101) (n := 4000) (by decide) (by decide) wf_X16_864 rfl rfl dX16_passJoin_136 ?_
  refine lv_iload B.1 B.2.1 dX16_passJoin_139 (lv_at hl 4 rfl) ?_
  obtain ⟨q1, h⟩ := h
  refine x_lald B K.2.1 hH (hS.ar (k := 115) (kd := 101) (n := 4000) (by decide)) (by decide) q1 dX16_passJoin_141 ?_
  refine lv_aload_n B.1 B.2.1 dX16_passJoin_142 rfl (lv_at hl 0 rfl) ?_
  refine r_arr B hH hS 115 (kd := 101) (n := 4000) (by decide) (by decide) wf_X16_864 rfl rfl dX16_passJoin_143 ?_
  refine lv_iload B.1 B.2.1 dX16_passJoin_146 (lv_at hl 5 rfl) ?_
  obtain ⟨q2, h⟩ := h
  refine x_lald B K.2.1 hH (hS.ar (k := 115) (kd := 101) (n := 4000) (by decide)) (by decide) q2 dX16_passJoin_148 ?_
  refine c_S B hH hl hc K.2.2.1 (As := [.long (gJ σ17 (ra 115) v4.toNat), .long (gJ σ17 (ra 115) v5.toNat)]) (ok_J9_max_f86c9 (dm := dm) (ra := ra) (jx := jx) (rm := rm) K.2.1 σ17 (gJ σ17 (ra 115) v4.toNat) (gJ σ17 (ra 115) v5.toNat) hGσ17 hS mj_J9_max_f86c9) wc_X16_586 2 hd_J9_max_f86c9 ⟨Nat.le_trans (Nat.le_of_ble_eq_true rfl) K.2.2.2.1, Nat.le_trans (Nat.le_of_ble_eq_true rfl) K.2.2.2.2.1⟩ rfl (rest := [.ref rm]) rfl (Nat.le_of_ble_eq_true rfl) dX16_passJoin_149 (fun σm3 w hq => ?_) (fun σ9 E9 hx9 => False.elim hx9.1)
  obtain ⟨rm9, rfl, ⟨e9, rfl⟩, hG9, hS9⟩ := hq
  subst e9
  intro H locs ls hH hl hc
  refine W.eq (g2 := F0 m 152 ls [.long (maxJ (gJ σ17 (ra 115) v4.toNat) (gJ σ17 (ra 115) v5.toNat)), .ref rm]) (rfl) ?_
  refine lv_aload_n B.1 B.2.1 dX16_passJoin_152 rfl (lv_at hl 0 rfl) ?_
  refine r_arr B hH hS 82 (kd := 101) (n := 16) (by decide) (by decide) wf_X16_578 rfl rfl dX16_passJoin_153 ?_
  refine lv_iconst (v := i32 0) B.1 B.2.1 dX16_passJoin_156 (by decide) ?_
  refine c_V B hH hl hc K.2.2.1 (C := RX16) (T := TX16) (N := 123) (ci := 16) (As := [.long (maxJ (gJ σ17 (ra 115) v4.toNat) (gJ σ17 (ra 115) v5.toNat)), va_rf (some (ra 82)), .int (i32 0)]) (ok_X16_pass K.2.1 σ17 (maxJ (gJ σ17 (ra 115) v4.toNat) (gJ σ17 (ra 115) v5.toNat)) (some (ra 82)) 0 (by unfold rng; omega) hGσ17 hS h) wc_X16_870 3 hd_X16_pass ⟨Nat.le_trans (Nat.le_of_ble_eq_true rfl) K.2.2.2.1, Nat.le_trans (Nat.le_of_ble_eq_true rfl) K.2.2.2.2.1⟩ hS.1.1 hS.1.2 (by decide) rfl rfl (rest := []) rfl (Nat.le_of_ble_eq_true rfl) dX16_passJoin_157 (fun σ18 w hq => ?_) (fun σ9 E9 hx9 => hX σ9 E9 _ _ _ (tb_out K.2.2.2.2.2 rfl) hx9.1 hx9.2.1 hx9.2.2)
  obtain ⟨rfl, h, hGσ18, hS⟩ := hq
  intro H locs ls hH hl hc
  refine W.eq (g2 := F0 m 160 ls []) (rfl) ?_
  try dsimp only at h
  exact a_X16_passJoin_160 K hQ hX hK8 hK29 _ _ _ _ _ _ g1 g2 g3 g4 g5 h hGσ18 hS _ _ _ hH (lv_sub (l' := [(0, .ref rm), (1, .int (i32 v1)), (2, .int (i32 v2)), (3, .int (i32 v3)), (4, .int (i32 v4)), (5, .int (i32 v5))]) hl [0, 1, 2, 3, 4, 5] rfl) hc
set_option maxRecDepth 20000 in
theorem a_X16_passJoin_86 {Q : Sg → Unit → Prop} {X : Sg → String → Prop} (K : MC R p s m args c cX16_passJoin 6 RX16 D cA tys A n0 s0 1 26 []) (hQ : HQV p l e R s m args below meth c cX16_passJoin D cA A n0 s0 QM dm ra jx rm Q) (hX : HX p l e R s m args below meth c 6 D cA A n0 s0 QM dm ra jx rm X) {K8 : Sg → Int → Int → Int → Int → Prop} (hK8 : ∀ (σ : Sg) (v1 : Int) (v2 : Int) (v3 : Int) (v4 : Int) (g1 : rng v1) (g2 : rng v2) (g3 : rng v3) (g4 : rng v4), K8 σ v1 v2 v3 v4 → RG σ → Shp dm ra jx rm σ → JJ p l e R s m args below meth c 6 D cA A n0 s0 QM σ 8 [(0, .ref rm), (1, .int (i32 v1)), (2, .int (i32 v2)), (3, .int (i32 v3)), (4, .int (i32 v4))] []) {K29 : Sg → Int → Int → Int → Int → Int → Prop} (hK29 : ∀ (σ : Sg) (v1 : Int) (v2 : Int) (v3 : Int) (v4 : Int) (v5 : Int) (g1 : rng v1) (g2 : rng v2) (g3 : rng v3) (g4 : rng v4) (g5 : rng v5), K29 σ v1 v2 v3 v4 v5 → RG σ → Shp dm ra jx rm σ → JJ p l e R s m args below meth c 6 D cA A n0 s0 QM σ 29 [(0, .ref rm), (1, .int (i32 v1)), (2, .int (i32 v2)), (3, .int (i32 v3)), (4, .int (i32 v4)), (5, .int (i32 v5))] []) : ∀ (σ : Sg) (v1 : Int) (v2 : Int) (v3 : Int) (v4 : Int) (v5 : Int) (g1 : rng v1) (g2 : rng v2) (g3 : rng v3) (g4 : rng v4) (g5 : rng v5), w_X16_passJoin_86 ra jx rm K8 K29 Q X σ v1 v2 v3 v4 v5 → RG σ → Shp dm ra jx rm σ → JJ p l e R s m args below meth c 6 D cA A n0 s0 QM σ 86 [(0, .ref rm), (1, .int (i32 v1)), (2, .int (i32 v2)), (3, .int (i32 v3)), (4, .int (i32 v4)), (5, .int (i32 v5))] [] := by
  intro σ v1 v2 v3 v4 v5 g1 g2 g3 g4 g5 h hGσ hS H locs ls hH hl hc
  have B := K.1
  unfold w_X16_passJoin_86 at h
  refine lv_aload_n B.1 B.2.1 dX16_passJoin_86 rfl (lv_at hl 0 rfl) ?_
  refine r_arr B hH hS 115 (kd := 101) (n := 4000) (by decide) (by decide) wf_X16_864 rfl rfl dX16_passJoin_87 ?_
  refine lv_iload B.1 B.2.1 dX16_passJoin_90 (lv_at hl 5 rfl) ?_
  obtain ⟨q1, h⟩ := h
  refine x_lald B K.2.1 hH (hS.ar (k := 115) (kd := 101) (n := 4000) (by decide)) (by decide) q1 dX16_passJoin_92 ?_
  refine lv_aload_n B.1 B.2.1 dX16_passJoin_93 rfl (lv_at hl 0 rfl) ?_
  refine r_arr B hH hS 115 (kd := 101) (n := 4000) (by decide) (by decide) wf_X16_864 rfl rfl dX16_passJoin_94 ?_
  refine lv_iload B.1 B.2.1 dX16_passJoin_97 (lv_at hl 4 rfl) ?_
  obtain ⟨q2, h⟩ := h
  refine x_lald B K.2.1 hH (hS.ar (k := 115) (kd := 101) (n := 4000) (by decide)) (by decide) q2 dX16_passJoin_99 ?_
  refine lv_lsub B.1 B.2.1 dX16_passJoin_100 ?_
  refine lv_aload_n B.1 B.2.1 dX16_passJoin_101 rfl (lv_at hl 0 rfl) ?_
  refine r_getp B hH hS 17 (by decide) wf_X16_356 rfl rfl dX16_passJoin_102 ?_
  obtain ⟨a19, ea19, ja19, h⟩ := h
  refine W.eq (g2 := F0 m 105 ls [.ref a19, .long ((gJ σ (ra 115) v5.toNat) - (gJ σ (ra 115) v4.toNat))]) (by rw [ea19]; rfl) ?_
  refine n_arr B hH hS ja19 8 (kd := 101) (n := 16) (by decide) (by decide) (List.mem_of_getElem? (i := 8) rfl) rfl dX16_passJoin_105 ?_
  refine lv_iload_n B.1 B.2.1 dX16_passJoin_108 rfl (lv_at hl 1 rfl) ?_
  obtain ⟨q4, h⟩ := h
  refine x_lald B K.2.1 hH (hS.ja ja19 (k := 8) (kd := 101) (n := 16) (by decide)) (by decide) q4 dX16_passJoin_109 ?_
  refine lv_aload_n B.1 B.2.1 dX16_passJoin_110 rfl (lv_at hl 0 rfl) ?_
  refine r_getp B hH hS 17 (by decide) wf_X16_356 rfl rfl dX16_passJoin_111 ?_
  obtain ⟨a20, ea20, ja20, h⟩ := h
  refine W.eq (g2 := F0 m 114 ls [.ref a20, .long (gJ σ (jx a19 8) v1.toNat), .long ((gJ σ (ra 115) v5.toNat) - (gJ σ (ra 115) v4.toNat))]) (by rw [ea20]; rfl) ?_
  refine n_arr B hH hS ja20 9 (kd := 101) (n := 16) (by decide) (by decide) (List.mem_of_getElem? (i := 9) rfl) rfl dX16_passJoin_114 ?_
  refine lv_iload_n B.1 B.2.1 dX16_passJoin_117 rfl (lv_at hl 1 rfl) ?_
  obtain ⟨q6, h⟩ := h
  refine x_lald B K.2.1 hH (hS.ja ja20 (k := 9) (kd := 101) (n := 16) (by decide)) (by decide) q6 dX16_passJoin_118 ?_
  refine c_S B hH hl hc K.2.2.1 (As := [.long ((gJ σ (ra 115) v5.toNat) - (gJ σ (ra 115) v4.toNat)), .long (gJ σ (jx a19 8) v1.toNat), .long (gJ σ (jx a20 9) v1.toNat)]) (ok_X16_within K.2.1 σ ((gJ σ (ra 115) v5.toNat) - (gJ σ (ra 115) v4.toNat)) (gJ σ (jx a19 8) v1.toNat) (gJ σ (jx a20 9) v1.toNat) hGσ hS h) wc_X16_45 3 hd_X16_within ⟨Nat.le_trans (Nat.le_of_ble_eq_true rfl) K.2.2.2.1, Nat.le_trans (Nat.le_of_ble_eq_true rfl) K.2.2.2.2.1⟩ rfl (rest := []) rfl (Nat.le_of_ble_eq_true rfl) dX16_passJoin_119 (fun σ21 w hq => ?_) (fun σ9 E9 hx9 => hX σ9 E9 _ _ _ (tb_out K.2.2.2.2.2 rfl) hx9.1 hx9.2.1 hx9.2.2)
  obtain ⟨r22, rfl, ⟨gr22, gzr22⟩, h, hGσ21, hS⟩ := hq
  intro H locs ls hH hl hc
  refine W.eq (g2 := F0 m 122 ls [.int (i32 r22)]) (rfl) ?_
  try dsimp only at h
  refine lv_if_eq (tgt := 160) B.1 B.2.1 dX16_passJoin_122 (by decide) (fun h9 => ?_) (fun h9 => ?_)
  · rw [if_pos ((z_eq gr22).mp h9)] at h
    exact a_X16_passJoin_160 K hQ hX hK8 hK29 _ _ _ _ _ _ g1 g2 g3 g4 g5 h hGσ21 hS _ _ _ hH (lv_sub (l' := [(0, .ref rm), (1, .int (i32 v1)), (2, .int (i32 v2)), (3, .int (i32 v3)), (4, .int (i32 v4)), (5, .int (i32 v5))]) hl [0, 1, 2, 3, 4, 5] rfl) hc
  · rw [if_neg (fun q => h9 ((z_eq gr22).mpr q))] at h
    exact a_X16_passJoin_125 K hQ hX hK8 hK29 _ _ _ _ _ _ g1 g2 g3 g4 g5 h hGσ21 hS _ _ _ hH (lv_sub (l' := [(0, .ref rm), (1, .int (i32 v1)), (2, .int (i32 v2)), (3, .int (i32 v3)), (4, .int (i32 v4)), (5, .int (i32 v5))]) hl [0, 1, 2, 3, 4, 5] rfl) hc
set_option maxRecDepth 20000 in
theorem a_X16_passJoin_42 {Q : Sg → Unit → Prop} {X : Sg → String → Prop} (K : MC R p s m args c cX16_passJoin 6 RX16 D cA tys A n0 s0 1 26 []) (hQ : HQV p l e R s m args below meth c cX16_passJoin D cA A n0 s0 QM dm ra jx rm Q) (hX : HX p l e R s m args below meth c 6 D cA A n0 s0 QM dm ra jx rm X) {K8 : Sg → Int → Int → Int → Int → Prop} (hK8 : ∀ (σ : Sg) (v1 : Int) (v2 : Int) (v3 : Int) (v4 : Int) (g1 : rng v1) (g2 : rng v2) (g3 : rng v3) (g4 : rng v4), K8 σ v1 v2 v3 v4 → RG σ → Shp dm ra jx rm σ → JJ p l e R s m args below meth c 6 D cA A n0 s0 QM σ 8 [(0, .ref rm), (1, .int (i32 v1)), (2, .int (i32 v2)), (3, .int (i32 v3)), (4, .int (i32 v4))] []) {K29 : Sg → Int → Int → Int → Int → Int → Prop} (hK29 : ∀ (σ : Sg) (v1 : Int) (v2 : Int) (v3 : Int) (v4 : Int) (v5 : Int) (g1 : rng v1) (g2 : rng v2) (g3 : rng v3) (g4 : rng v4) (g5 : rng v5), K29 σ v1 v2 v3 v4 v5 → RG σ → Shp dm ra jx rm σ → JJ p l e R s m args below meth c 6 D cA A n0 s0 QM σ 29 [(0, .ref rm), (1, .int (i32 v1)), (2, .int (i32 v2)), (3, .int (i32 v3)), (4, .int (i32 v4)), (5, .int (i32 v5))] []) : ∀ (σ : Sg) (v1 : Int) (v2 : Int) (v3 : Int) (v4 : Int) (v5 : Int) (g1 : rng v1) (g2 : rng v2) (g3 : rng v3) (g4 : rng v4) (g5 : rng v5), w_X16_passJoin_42 ra jx rm K8 K29 Q X σ v1 v2 v3 v4 v5 → RG σ → Shp dm ra jx rm σ → JJ p l e R s m args below meth c 6 D cA A n0 s0 QM σ 42 [(0, .ref rm), (1, .int (i32 v1)), (2, .int (i32 v2)), (3, .int (i32 v3)), (4, .int (i32 v4)), (5, .int (i32 v5))] [] := by
  intro σ v1 v2 v3 v4 v5 g1 g2 g3 g4 g5 h hGσ hS H locs ls hH hl hc
  have B := K.1
  unfold w_X16_passJoin_42 at h
  refine lv_aload_n B.1 B.2.1 dX16_passJoin_42 rfl (lv_at hl 0 rfl) ?_
  refine r_arr B hH hS 116 (kd := 101) (n := 32000) (by decide) (by decide) wf_X16_867 rfl rfl dX16_passJoin_43 ?_
  refine lv_bipush (v := i32 8) B.1 B.2.1 dX16_passJoin_46 (by decide) ?_
  refine lv_iload B.1 B.2.1 dX16_passJoin_48 (lv_at hl 4 rfl) ?_
  obtain ⟨q1, h⟩ := h
  refine lv_imul B.1 B.2.1 dX16_passJoin_50 ?_
  rw [i32_mul]
  refine lv_aload_n B.1 B.2.1 dX16_passJoin_51 rfl (lv_at hl 0 rfl) ?_
  refine r_getp B hH hS 17 (by decide) wf_X16_356 rfl rfl dX16_passJoin_52 ?_
  obtain ⟨a23, ea23, ja23, h⟩ := h
  refine W.eq (g2 := F0 m 55 ls [.ref a23, .int (i32 (8 * v4)), .ref (ra 116)]) (by rw [ea23]; rfl) ?_
  refine n_arr B hH hS ja23 10 (kd := 100) (n := 16) (by decide) (by decide) (List.mem_of_getElem? (i := 10) rfl) rfl dX16_passJoin_55 ?_
  refine lv_iload_n B.1 B.2.1 dX16_passJoin_58 rfl (lv_at hl 1 rfl) ?_
  obtain ⟨q3, h⟩ := h
  refine x_iald B K.2.1 hH (hS.ja ja23 (k := 10) (kd := 100) (n := 16) (by decide)) (by decide) q3 dX16_passJoin_59 ?_
  obtain ⟨q4, h⟩ := h
  refine lv_iadd B.1 B.2.1 dX16_passJoin_60 ?_
  rw [i32_add]
  obtain ⟨q5, h⟩ := h
  refine x_lald B K.2.1 hH (hS.ar (k := 116) (kd := 101) (n := 32000) (by decide)) (by decide) q5 dX16_passJoin_61 ?_
  refine lv_aload_n B.1 B.2.1 dX16_passJoin_62 rfl (lv_at hl 0 rfl) ?_
  refine r_arr B hH hS 116 (kd := 101) (n := 32000) (by decide) (by decide) wf_X16_867 rfl rfl dX16_passJoin_63 ?_
  refine lv_bipush (v := i32 8) B.1 B.2.1 dX16_passJoin_66 (by decide) ?_
  refine lv_iload B.1 B.2.1 dX16_passJoin_68 (lv_at hl 5 rfl) ?_
  obtain ⟨q6, h⟩ := h
  refine lv_imul B.1 B.2.1 dX16_passJoin_70 ?_
  rw [i32_mul]
  refine lv_aload_n B.1 B.2.1 dX16_passJoin_71 rfl (lv_at hl 0 rfl) ?_
  refine r_getp B hH hS 17 (by decide) wf_X16_356 rfl rfl dX16_passJoin_72 ?_
  obtain ⟨a24, ea24, ja24, h⟩ := h
  refine W.eq (g2 := F0 m 75 ls [.ref a24, .int (i32 (8 * v5)), .ref (ra 116), .long (gJ σ (ra 116) ((8 * v4) + (gI σ (jx a23 10) v1.toNat)).toNat)]) (by rw [ea24]; rfl) ?_
  refine n_arr B hH hS ja24 11 (kd := 100) (n := 16) (by decide) (by decide) (List.mem_of_getElem? (i := 11) rfl) rfl dX16_passJoin_75 ?_
  refine lv_iload_n B.1 B.2.1 dX16_passJoin_78 rfl (lv_at hl 1 rfl) ?_
  obtain ⟨q8, h⟩ := h
  refine x_iald B K.2.1 hH (hS.ja ja24 (k := 11) (kd := 100) (n := 16) (by decide)) (by decide) q8 dX16_passJoin_79 ?_
  obtain ⟨q9, h⟩ := h
  refine lv_iadd B.1 B.2.1 dX16_passJoin_80 ?_
  rw [i32_add]
  obtain ⟨q10, h⟩ := h
  refine x_lald B K.2.1 hH (hS.ar (k := 116) (kd := 101) (n := 32000) (by decide)) (by decide) q10 dX16_passJoin_81 ?_
  refine W.lcmp B.1 B.2.1 dX16_passJoin_82 ?_
  refine lv_if_ne (tgt := 160) B.1 B.2.1 dX16_passJoin_83 (by decide) (fun h9 => ?_) (fun h9 => ?_)
  · rw [if_pos (fun q => h9 ((lg_cmp_eq _ _).mpr q))] at h
    exact a_X16_passJoin_160 K hQ hX hK8 hK29 _ _ _ _ _ _ g1 g2 g3 g4 g5 h hGσ hS _ _ _ hH (lv_sub (l' := [(0, .ref rm), (1, .int (i32 v1)), (2, .int (i32 v2)), (3, .int (i32 v3)), (4, .int (i32 v4)), (5, .int (i32 v5))]) hl [0, 1, 2, 3, 4, 5] rfl) hc
  · rw [if_neg (fun q => q ((lg_cmp_eq _ _).mp h9))] at h
    exact a_X16_passJoin_86 K hQ hX hK8 hK29 _ _ _ _ _ _ g1 g2 g3 g4 g5 h hGσ hS _ _ _ hH (lv_sub (l' := [(0, .ref rm), (1, .int (i32 v1)), (2, .int (i32 v2)), (3, .int (i32 v3)), (4, .int (i32 v4)), (5, .int (i32 v5))]) hl [0, 1, 2, 3, 4, 5] rfl) hc
set_option maxRecDepth 20000 in
theorem a_X16_passJoin_29 {Q : Sg → Unit → Prop} {X : Sg → String → Prop} (K : MC R p s m args c cX16_passJoin 6 RX16 D cA tys A n0 s0 1 26 []) (hQ : HQV p l e R s m args below meth c cX16_passJoin D cA A n0 s0 QM dm ra jx rm Q) (hX : HX p l e R s m args below meth c 6 D cA A n0 s0 QM dm ra jx rm X) {K8 : Sg → Int → Int → Int → Int → Prop} (hK8 : ∀ (σ : Sg) (v1 : Int) (v2 : Int) (v3 : Int) (v4 : Int) (g1 : rng v1) (g2 : rng v2) (g3 : rng v3) (g4 : rng v4), K8 σ v1 v2 v3 v4 → RG σ → Shp dm ra jx rm σ → JJ p l e R s m args below meth c 6 D cA A n0 s0 QM σ 8 [(0, .ref rm), (1, .int (i32 v1)), (2, .int (i32 v2)), (3, .int (i32 v3)), (4, .int (i32 v4))] []) {K29 : Sg → Int → Int → Int → Int → Int → Prop} (hK29 : ∀ (σ : Sg) (v1 : Int) (v2 : Int) (v3 : Int) (v4 : Int) (v5 : Int) (g1 : rng v1) (g2 : rng v2) (g3 : rng v3) (g4 : rng v4) (g5 : rng v5), K29 σ v1 v2 v3 v4 v5 → RG σ → Shp dm ra jx rm σ → JJ p l e R s m args below meth c 6 D cA A n0 s0 QM σ 29 [(0, .ref rm), (1, .int (i32 v1)), (2, .int (i32 v2)), (3, .int (i32 v3)), (4, .int (i32 v4)), (5, .int (i32 v5))] []) : ∀ (σ : Sg) (v1 : Int) (v2 : Int) (v3 : Int) (v4 : Int) (v5 : Int) (g1 : rng v1) (g2 : rng v2) (g3 : rng v3) (g4 : rng v4) (g5 : rng v5), w_X16_passJoin_29 ra jx rm K8 K29 Q X σ v1 v2 v3 v4 v5 → RG σ → Shp dm ra jx rm σ → JJ p l e R s m args below meth c 6 D cA A n0 s0 QM σ 29 [(0, .ref rm), (1, .int (i32 v1)), (2, .int (i32 v2)), (3, .int (i32 v3)), (4, .int (i32 v4)), (5, .int (i32 v5))] [] := by
  intro σ v1 v2 v3 v4 v5 g1 g2 g3 g4 g5 h hGσ hS H locs ls hH hl hc
  have B := K.1
  unfold w_X16_passJoin_29 at h
  refine lv_iload B.1 B.2.1 dX16_passJoin_29 (lv_at hl 5 rfl) ?_
  refine lv_aload_n B.1 B.2.1 dX16_passJoin_31 rfl (lv_at hl 0 rfl) ?_
  refine r_arr B hH hS 118 (kd := 100) (n := 17) (by decide) (by decide) wf_X16_874 rfl rfl dX16_passJoin_32 ?_
  refine lv_iload_n B.1 B.2.1 dX16_passJoin_35 rfl (lv_at hl 3 rfl) ?_
  refine lv_iconst (v := i32 1) B.1 B.2.1 dX16_passJoin_36 (by decide) ?_
  obtain ⟨q1, h⟩ := h
  refine lv_iadd B.1 B.2.1 dX16_passJoin_37 ?_
  rw [i32_add]
  obtain ⟨q2, h⟩ := h
  refine x_iald B K.2.1 hH (hS.ar (k := 118) (kd := 100) (n := 17) (by decide)) (by decide) q2 dX16_passJoin_38 ?_
  refine lv_icmp_ge (tgt := 166) B.1 B.2.1 dX16_passJoin_39 (by decide) (fun h9 => ?_) (fun h9 => ?_)
  · rw [if_pos ((i32_le (hGσ _ _) g5).mp h9)] at h
    exact a_X16_passJoin_166 K hQ hX hK8 _ _ _ _ _ g1 g2 g3 g4 h hGσ hS _ _ _ hH (lv_sub (l' := [(0, .ref rm), (1, .int (i32 v1)), (2, .int (i32 v2)), (3, .int (i32 v3)), (4, .int (i32 v4))]) hl [0, 1, 2, 3, 4] rfl) hc
  · rw [if_neg (fun q => h9 ((i32_le (hGσ _ _) g5).mpr q))] at h
    exact a_X16_passJoin_42 K hQ hX hK8 hK29 _ _ _ _ _ _ g1 g2 g3 g4 g5 h hGσ hS _ _ _ hH (lv_sub (l' := [(0, .ref rm), (1, .int (i32 v1)), (2, .int (i32 v2)), (3, .int (i32 v3)), (4, .int (i32 v4)), (5, .int (i32 v5))]) hl [0, 1, 2, 3, 4, 5] rfl) hc
theorem al_X16_passJoin_29 {Q : Sg → Unit → Prop} {X : Sg → String → Prop} (K : MC R p s m args c cX16_passJoin 6 RX16 D cA tys A n0 s0 1 26 []) (hQ : HQV p l e R s m args below meth c cX16_passJoin D cA A n0 s0 QM dm ra jx rm Q) (hX : HX p l e R s m args below meth c 6 D cA A n0 s0 QM dm ra jx rm X) {K8 : Sg → Int → Int → Int → Int → Prop} (hK8 : ∀ (σ : Sg) (v1 : Int) (v2 : Int) (v3 : Int) (v4 : Int) (g1 : rng v1) (g2 : rng v2) (g3 : rng v3) (g4 : rng v4), K8 σ v1 v2 v3 v4 → RG σ → Shp dm ra jx rm σ → JJ p l e R s m args below meth c 6 D cA A n0 s0 QM σ 8 [(0, .ref rm), (1, .int (i32 v1)), (2, .int (i32 v2)), (3, .int (i32 v3)), (4, .int (i32 v4))] []) : ∀ (n : Nat), ∀ (σ : Sg) (v1 : Int) (v2 : Int) (v3 : Int) (v4 : Int) (v5 : Int) (g1 : rng v1) (g2 : rng v2) (g3 : rng v3) (g4 : rng v4) (g5 : rng v5), wl_X16_passJoin_29 ra jx rm K8 Q X n σ v1 v2 v3 v4 v5 → RG σ → Shp dm ra jx rm σ → JJ p l e R s m args below meth c 6 D cA A n0 s0 QM σ 29 [(0, .ref rm), (1, .int (i32 v1)), (2, .int (i32 v2)), (3, .int (i32 v3)), (4, .int (i32 v4)), (5, .int (i32 v5))] [] := by
  intro n
  induction n with
  | zero => intro σ v1 v2 v3 v4 v5 g1 g2 g3 g4 g5 h; exact h.elim
  | succ n ih => exact fun σ v1 v2 v3 v4 v5 g1 g2 g3 g4 g5 h => a_X16_passJoin_29 K hQ hX hK8 ih σ v1 v2 v3 v4 v5 g1 g2 g3 g4 g5 h
set_option maxRecDepth 20000 in
theorem a_X16_passJoin_21 {Q : Sg → Unit → Prop} {X : Sg → String → Prop} (K : MC R p s m args c cX16_passJoin 6 RX16 D cA tys A n0 s0 1 26 []) (hQ : HQV p l e R s m args below meth c cX16_passJoin D cA A n0 s0 QM dm ra jx rm Q) (hX : HX p l e R s m args below meth c 6 D cA A n0 s0 QM dm ra jx rm X) {K8 : Sg → Int → Int → Int → Int → Prop} (hK8 : ∀ (σ : Sg) (v1 : Int) (v2 : Int) (v3 : Int) (v4 : Int) (g1 : rng v1) (g2 : rng v2) (g3 : rng v3) (g4 : rng v4), K8 σ v1 v2 v3 v4 → RG σ → Shp dm ra jx rm σ → JJ p l e R s m args below meth c 6 D cA A n0 s0 QM σ 8 [(0, .ref rm), (1, .int (i32 v1)), (2, .int (i32 v2)), (3, .int (i32 v3)), (4, .int (i32 v4))] []) : ∀ (σ : Sg) (v1 : Int) (v2 : Int) (v3 : Int) (v4 : Int) (g1 : rng v1) (g2 : rng v2) (g3 : rng v3) (g4 : rng v4), w_X16_passJoin_21 ra jx rm K8 Q X σ v1 v2 v3 v4 → RG σ → Shp dm ra jx rm σ → JJ p l e R s m args below meth c 6 D cA A n0 s0 QM σ 21 [(0, .ref rm), (1, .int (i32 v1)), (2, .int (i32 v2)), (3, .int (i32 v3)), (4, .int (i32 v4))] [] := by
  intro σ v1 v2 v3 v4 g1 g2 g3 g4 h hGσ hS H locs ls hH hl hc
  have B := K.1
  unfold w_X16_passJoin_21 at h
  refine lv_aload_n B.1 B.2.1 dX16_passJoin_21 rfl (lv_at hl 0 rfl) ?_
  refine r_arr B hH hS 118 (kd := 100) (n := 17) (by decide) (by decide) wf_X16_874 rfl rfl dX16_passJoin_22 ?_
  refine lv_iload_n B.1 B.2.1 dX16_passJoin_25 rfl (lv_at hl 3 rfl) ?_
  obtain ⟨q1, h⟩ := h
  refine x_iald B K.2.1 hH (hS.ar (k := 118) (kd := 100) (n := 17) (by decide)) (by decide) q1 dX16_passJoin_26 ?_
  refine lv_istore (lv' := [(5, .int (i32 (gI σ (ra 118) v3.toNat))), (0, .ref rm), (1, .int (i32 v1)), (2, .int (i32 v2)), (3, .int (i32 v3)), (4, .int (i32 v4))]) B.1 B.2.1 dX16_passJoin_27 hl (by decide) rfl (fun ls hl => ?_)
  obtain ⟨n9, h⟩ := h
  exact al_X16_passJoin_29 K hQ hX hK8 n9 _ _ _ _ _ _ g1 g2 g3 g4 (hGσ _ _) h hGσ hS _ _ _ hH (lv_sub (l' := [(0, .ref rm), (1, .int (i32 v1)), (2, .int (i32 v2)), (3, .int (i32 v3)), (4, .int (i32 v4)), (5, .int (i32 (gI σ (ra 118) v3.toNat)))]) hl [1, 2, 3, 4, 5, 0] rfl) hc
set_option maxRecDepth 20000 in
theorem a_X16_passJoin_8 {Q : Sg → Unit → Prop} {X : Sg → String → Prop} (K : MC R p s m args c cX16_passJoin 6 RX16 D cA tys A n0 s0 1 26 []) (hQ : HQV p l e R s m args below meth c cX16_passJoin D cA A n0 s0 QM dm ra jx rm Q) (hX : HX p l e R s m args below meth c 6 D cA A n0 s0 QM dm ra jx rm X) {K8 : Sg → Int → Int → Int → Int → Prop} (hK8 : ∀ (σ : Sg) (v1 : Int) (v2 : Int) (v3 : Int) (v4 : Int) (g1 : rng v1) (g2 : rng v2) (g3 : rng v3) (g4 : rng v4), K8 σ v1 v2 v3 v4 → RG σ → Shp dm ra jx rm σ → JJ p l e R s m args below meth c 6 D cA A n0 s0 QM σ 8 [(0, .ref rm), (1, .int (i32 v1)), (2, .int (i32 v2)), (3, .int (i32 v3)), (4, .int (i32 v4))] []) : ∀ (σ : Sg) (v1 : Int) (v2 : Int) (v3 : Int) (v4 : Int) (g1 : rng v1) (g2 : rng v2) (g3 : rng v3) (g4 : rng v4), w_X16_passJoin_8 ra jx rm K8 Q X σ v1 v2 v3 v4 → RG σ → Shp dm ra jx rm σ → JJ p l e R s m args below meth c 6 D cA A n0 s0 QM σ 8 [(0, .ref rm), (1, .int (i32 v1)), (2, .int (i32 v2)), (3, .int (i32 v3)), (4, .int (i32 v4))] [] := by
  intro σ v1 v2 v3 v4 g1 g2 g3 g4 h hGσ hS H locs ls hH hl hc
  have B := K.1
  unfold w_X16_passJoin_8 at h
  refine lv_iload B.1 B.2.1 dX16_passJoin_8 (lv_at hl 4 rfl) ?_
  refine lv_aload_n B.1 B.2.1 dX16_passJoin_10 rfl (lv_at hl 0 rfl) ?_
  refine r_arr B hH hS 118 (kd := 100) (n := 17) (by decide) (by decide) wf_X16_874 rfl rfl dX16_passJoin_11 ?_
  refine lv_iload_n B.1 B.2.1 dX16_passJoin_14 rfl (lv_at hl 2 rfl) ?_
  refine lv_iconst (v := i32 1) B.1 B.2.1 dX16_passJoin_15 (by decide) ?_
  obtain ⟨q1, h⟩ := h
  refine lv_iadd B.1 B.2.1 dX16_passJoin_16 ?_
  rw [i32_add]
  obtain ⟨q2, h⟩ := h
  refine x_iald B K.2.1 hH (hS.ar (k := 118) (kd := 100) (n := 17) (by decide)) (by decide) q2 dX16_passJoin_17 ?_
  refine lv_icmp_ge (tgt := 172) B.1 B.2.1 dX16_passJoin_18 (by decide) (fun h9 => ?_) (fun h9 => ?_)
  · rw [if_pos ((i32_le (hGσ _ _) g4).mp h9)] at h
    exact a_X16_passJoin_172 K hQ hX _ h hGσ hS _ _ _ hH (lv_sub (l' := [(0, .ref rm)]) hl [0] rfl) hc
  · rw [if_neg (fun q => h9 ((i32_le (hGσ _ _) g4).mpr q))] at h
    exact a_X16_passJoin_21 K hQ hX hK8 _ _ _ _ _ g1 g2 g3 g4 h hGσ hS _ _ _ hH (lv_sub (l' := [(0, .ref rm), (1, .int (i32 v1)), (2, .int (i32 v2)), (3, .int (i32 v3)), (4, .int (i32 v4))]) hl [0, 1, 2, 3, 4] rfl) hc
theorem al_X16_passJoin_8 {Q : Sg → Unit → Prop} {X : Sg → String → Prop} (K : MC R p s m args c cX16_passJoin 6 RX16 D cA tys A n0 s0 1 26 []) (hQ : HQV p l e R s m args below meth c cX16_passJoin D cA A n0 s0 QM dm ra jx rm Q) (hX : HX p l e R s m args below meth c 6 D cA A n0 s0 QM dm ra jx rm X) : ∀ (n : Nat), ∀ (σ : Sg) (v1 : Int) (v2 : Int) (v3 : Int) (v4 : Int) (g1 : rng v1) (g2 : rng v2) (g3 : rng v3) (g4 : rng v4), wl_X16_passJoin_8 ra jx rm Q X n σ v1 v2 v3 v4 → RG σ → Shp dm ra jx rm σ → JJ p l e R s m args below meth c 6 D cA A n0 s0 QM σ 8 [(0, .ref rm), (1, .int (i32 v1)), (2, .int (i32 v2)), (3, .int (i32 v3)), (4, .int (i32 v4))] [] := by
  intro n
  induction n with
  | zero => intro σ v1 v2 v3 v4 g1 g2 g3 g4 h; exact h.elim
  | succ n ih => exact fun σ v1 v2 v3 v4 g1 g2 g3 g4 h => a_X16_passJoin_8 K hQ hX ih σ v1 v2 v3 v4 g1 g2 g3 g4 h
set_option maxRecDepth 20000 in
theorem a_X16_passJoin_0 {Q : Sg → Unit → Prop} {X : Sg → String → Prop} (K : MC R p s m args c cX16_passJoin 6 RX16 D cA tys A n0 s0 1 26 []) (hQ : HQV p l e R s m args below meth c cX16_passJoin D cA A n0 s0 QM dm ra jx rm Q) (hX : HX p l e R s m args below meth c 6 D cA A n0 s0 QM dm ra jx rm X) : ∀ (σ : Sg) (v1 : Int) (v2 : Int) (v3 : Int) (g1 : rng v1) (g2 : rng v2) (g3 : rng v3), w_X16_passJoin_0 ra jx rm Q X σ v1 v2 v3 → RG σ → Shp dm ra jx rm σ → JJ p l e R s m args below meth c 6 D cA A n0 s0 QM σ 0 [(0, .ref rm), (1, .int (i32 v1)), (2, .int (i32 v2)), (3, .int (i32 v3))] [] := by
  intro σ v1 v2 v3 g1 g2 g3 h hGσ hS H locs ls hH hl hc
  have B := K.1
  unfold w_X16_passJoin_0 at h
  refine lv_aload_n B.1 B.2.1 dX16_passJoin_0 rfl (lv_at hl 0 rfl) ?_
  refine r_arr B hH hS 118 (kd := 100) (n := 17) (by decide) (by decide) wf_X16_874 rfl rfl dX16_passJoin_1 ?_
  refine lv_iload_n B.1 B.2.1 dX16_passJoin_4 rfl (lv_at hl 2 rfl) ?_
  obtain ⟨q1, h⟩ := h
  refine x_iald B K.2.1 hH (hS.ar (k := 118) (kd := 100) (n := 17) (by decide)) (by decide) q1 dX16_passJoin_5 ?_
  refine lv_istore (lv' := [(4, .int (i32 (gI σ (ra 118) v2.toNat))), (0, .ref rm), (1, .int (i32 v1)), (2, .int (i32 v2)), (3, .int (i32 v3))]) B.1 B.2.1 dX16_passJoin_6 hl (by decide) rfl (fun ls hl => ?_)
  obtain ⟨n9, h⟩ := h
  exact al_X16_passJoin_8 K hQ hX n9 _ _ _ _ _ g1 g2 g3 (hGσ _ _) h hGσ hS _ _ _ hH (lv_sub (l' := [(0, .ref rm), (1, .int (i32 v1)), (2, .int (i32 v2)), (3, .int (i32 v3)), (4, .int (i32 (gI σ (ra 118) v2.toNat)))]) hl [1, 2, 3, 4, 0] rfl) hc
theorem ok_X16_passJoin (hT : Tys cA tys) {Q : Sg → Unit → Prop} {X : Sg → String → Prop} (σ : Sg) (v1 : Int) (v2 : Int) (v3 : Int) (g1 : rng v1) (g2 : rng v2) (g3 : rng v3) (hG : RG σ) (hS : Shp dm ra jx rm σ) (h : wp_X16_passJoin ra jx rm v1 v2 v3 σ Q X) : Ok l D cA tys A yX16_passJoin (.code yX16_passJoin cX16_passJoin 6 none) 1 26 [.ref rm, .int (i32 v1), .int (i32 v2), .int (i32 v3)] σ (QnV dm ra jx rm Q) (QxR dm ra jx rm X) := by
  unfold wp_X16_passJoin at h
  exact ok_V (plainFor_of_name (by decide)) (by exact Nat.le_of_ble_eq_true rfl) hT (fun p e R s m args below meth c K hQ hX H locs ls hH hl hc => a_X16_passJoin_0 K hQ hX σ v1 v2 v3 g1 g2 g3 h hG hS H locs ls hH (lv_sub (l' := [(0, .ref rm), (1, .int (i32 v1)), (2, .int (i32 v2)), (3, .int (i32 v3))]) hl [0, 1, 2, 3] rfl) hc)
theorem dX16_passLook_0 : decode cX16_passLook 0 = .ok (.aload_n 0, 1) := by decide +kernel
theorem dX16_passLook_1 : decode cX16_passLook 1 = .ok (.getfield 874, 3) := by decide +kernel
theorem dX16_passLook_4 : decode cX16_passLook 4 = .ok (.iload_n 2, 1) := by decide +kernel
theorem dX16_passLook_5 : decode cX16_passLook 5 = .ok (.iaload, 1) := by decide +kernel
theorem dX16_passLook_6 : decode cX16_passLook 6 = .ok (.istore 4, 2) := by decide +kernel
theorem dX16_passLook_8 : decode cX16_passLook 8 = .ok (.iload 4, 2) := by decide +kernel
theorem dX16_passLook_10 : decode cX16_passLook 10 = .ok (.aload_n 0, 1) := by decide +kernel
theorem dX16_passLook_11 : decode cX16_passLook 11 = .ok (.getfield 874, 3) := by decide +kernel
theorem dX16_passLook_14 : decode cX16_passLook 14 = .ok (.iload_n 2, 1) := by decide +kernel
theorem dX16_passLook_15 : decode cX16_passLook 15 = .ok (.iconst 1, 1) := by decide +kernel
theorem dX16_passLook_16 : decode cX16_passLook 16 = .ok (.iadd, 1) := by decide +kernel
theorem dX16_passLook_17 : decode cX16_passLook 17 = .ok (.iaload, 1) := by decide +kernel
theorem dX16_passLook_18 : decode cX16_passLook 18 = .ok (.if_icmp .ge 207, 3) := by decide +kernel
theorem dX16_passLook_21 : decode cX16_passLook 21 = .ok (.iconst (-1), 1) := by decide +kernel
theorem dX16_passLook_22 : decode cX16_passLook 22 = .ok (.istore 5, 2) := by decide +kernel
theorem dX16_passLook_24 : decode cX16_passLook 24 = .ok (.aload_n 0, 1) := by decide +kernel
theorem dX16_passLook_25 : decode cX16_passLook 25 = .ok (.getfield 874, 3) := by decide +kernel
theorem dX16_passLook_28 : decode cX16_passLook 28 = .ok (.iload_n 3, 1) := by decide +kernel
theorem dX16_passLook_29 : decode cX16_passLook 29 = .ok (.iaload, 1) := by decide +kernel
theorem dX16_passLook_30 : decode cX16_passLook 30 = .ok (.istore 6, 2) := by decide +kernel
theorem dX16_passLook_32 : decode cX16_passLook 32 = .ok (.iload 6, 2) := by decide +kernel
theorem dX16_passLook_34 : decode cX16_passLook 34 = .ok (.aload_n 0, 1) := by decide +kernel
theorem dX16_passLook_35 : decode cX16_passLook 35 = .ok (.getfield 874, 3) := by decide +kernel
theorem dX16_passLook_38 : decode cX16_passLook 38 = .ok (.iload_n 3, 1) := by decide +kernel
theorem dX16_passLook_39 : decode cX16_passLook 39 = .ok (.iconst 1, 1) := by decide +kernel
theorem dX16_passLook_40 : decode cX16_passLook 40 = .ok (.iadd, 1) := by decide +kernel
theorem dX16_passLook_41 : decode cX16_passLook 41 = .ok (.iaload, 1) := by decide +kernel
theorem dX16_passLook_42 : decode cX16_passLook 42 = .ok (.if_icmp .ge 146, 3) := by decide +kernel
theorem dX16_passLook_45 : decode cX16_passLook 45 = .ok (.aload_n 0, 1) := by decide +kernel
theorem dX16_passLook_46 : decode cX16_passLook 46 = .ok (.getfield 867, 3) := by decide +kernel
theorem dX16_passLook_49 : decode cX16_passLook 49 = .ok (.bipush 8, 2) := by decide +kernel
theorem dX16_passLook_51 : decode cX16_passLook 51 = .ok (.iload 4, 2) := by decide +kernel
theorem dX16_passLook_53 : decode cX16_passLook 53 = .ok (.imul, 1) := by decide +kernel
theorem dX16_passLook_54 : decode cX16_passLook 54 = .ok (.aload_n 0, 1) := by decide +kernel
theorem dX16_passLook_55 : decode cX16_passLook 55 = .ok (.getfield 356, 3) := by decide +kernel
theorem dX16_passLook_58 : decode cX16_passLook 58 = .ok (.getfield 239, 3) := by decide +kernel
theorem dX16_passLook_61 : decode cX16_passLook 61 = .ok (.iload_n 1, 1) := by decide +kernel
theorem dX16_passLook_62 : decode cX16_passLook 62 = .ok (.iaload, 1) := by decide +kernel
theorem dX16_passLook_63 : decode cX16_passLook 63 = .ok (.iadd, 1) := by decide +kernel
theorem dX16_passLook_64 : decode cX16_passLook 64 = .ok (.laload, 1) := by decide +kernel
theorem dX16_passLook_65 : decode cX16_passLook 65 = .ok (.aload_n 0, 1) := by decide +kernel
theorem dX16_passLook_66 : decode cX16_passLook 66 = .ok (.getfield 867, 3) := by decide +kernel
theorem dX16_passLook_69 : decode cX16_passLook 69 = .ok (.bipush 8, 2) := by decide +kernel
theorem dX16_passLook_71 : decode cX16_passLook 71 = .ok (.iload 6, 2) := by decide +kernel
theorem dX16_passLook_73 : decode cX16_passLook 73 = .ok (.imul, 1) := by decide +kernel
theorem dX16_passLook_74 : decode cX16_passLook 74 = .ok (.aload_n 0, 1) := by decide +kernel
theorem dX16_passLook_75 : decode cX16_passLook 75 = .ok (.getfield 356, 3) := by decide +kernel
theorem dX16_passLook_78 : decode cX16_passLook 78 = .ok (.getfield 264, 3) := by decide +kernel
theorem dX16_passLook_81 : decode cX16_passLook 81 = .ok (.iload_n 1, 1) := by decide +kernel
theorem dX16_passLook_82 : decode cX16_passLook 82 = .ok (.iaload, 1) := by decide +kernel
theorem dX16_passLook_83 : decode cX16_passLook 83 = .ok (.iadd, 1) := by decide +kernel
theorem dX16_passLook_84 : decode cX16_passLook 84 = .ok (.laload, 1) := by decide +kernel
theorem dX16_passLook_85 : decode cX16_passLook 85 = .ok (.lcmp, 1) := by decide +kernel
theorem dX16_passLook_86 : decode cX16_passLook 86 = .ok (.ifCond .ne 25, 3) := by decide +kernel
theorem dX16_passLook_89 : decode cX16_passLook 89 = .ok (.aload_n 0, 1) := by decide +kernel
theorem dX16_passLook_90 : decode cX16_passLook 90 = .ok (.getfield 864, 3) := by decide +kernel
theorem dX16_passLook_93 : decode cX16_passLook 93 = .ok (.iload 6, 2) := by decide +kernel
theorem dX16_passLook_95 : decode cX16_passLook 95 = .ok (.laload, 1) := by decide +kernel
theorem dX16_passLook_96 : decode cX16_passLook 96 = .ok (.aload_n 0, 1) := by decide +kernel
theorem dX16_passLook_97 : decode cX16_passLook 97 = .ok (.getfield 864, 3) := by decide +kernel
theorem dX16_passLook_100 : decode cX16_passLook 100 = .ok (.iload 4, 2) := by decide +kernel
theorem dX16_passLook_102 : decode cX16_passLook 102 = .ok (.laload, 1) := by decide +kernel
theorem dX16_passLook_103 : decode cX16_passLook 103 = .ok (.lcmp, 1) := by decide +kernel
theorem dX16_passLook_104 : decode cX16_passLook 104 = .ok (.ifCond .gt 7, 3) := by decide +kernel
theorem dX16_passLook_107 : decode cX16_passLook 107 = .ok (.iconst 1, 1) := by decide +kernel
theorem dX16_passLook_108 : decode cX16_passLook 108 = .ok (.goto 4, 3) := by decide +kernel
theorem dX16_passLook_111 : decode cX16_passLook 111 = .ok (.iconst 0, 1) := by decide +kernel
theorem dX16_passLook_112 : decode cX16_passLook 112 = .ok (.istore 7, 2) := by decide +kernel
theorem dX16_passLook_114 : decode cX16_passLook 114 = .ok (.iload 7, 2) := by decide +kernel
theorem dX16_passLook_116 : decode cX16_passLook 116 = .ok (.ifCond .eq 62, 3) := by decide +kernel
theorem dX16_passLook_119 : decode cX16_passLook 119 = .ok (.iload 5, 2) := by decide +kernel
theorem dX16_passLook_121 : decode cX16_passLook 121 = .ok (.iconst (-1), 1) := by decide +kernel
theorem dX16_passLook_122 : decode cX16_passLook 122 = .ok (.if_icmp .eq 51, 3) := by decide +kernel
theorem dX16_passLook_125 : decode cX16_passLook 125 = .ok (.aload_n 0, 1) := by decide +kernel
theorem dX16_passLook_126 : decode cX16_passLook 126 = .ok (.aload_n 0, 1) := by decide +kernel
theorem dX16_passLook_127 : decode cX16_passLook 127 = .ok (.getfield 864, 3) := by decide +kernel
theorem dX16_passLook_130 : decode cX16_passLook 130 = .ok (.iload 6, 2) := by decide +kernel
theorem dX16_passLook_132 : decode cX16_passLook 132 = .ok (.laload, 1) := by decide +kernel
theorem dX16_passLook_133 : decode cX16_passLook 133 = .ok (.aload_n 0, 1) := by decide +kernel
theorem dX16_passLook_134 : decode cX16_passLook 134 = .ok (.getfield 867, 3) := by decide +kernel
theorem dX16_passLook_137 : decode cX16_passLook 137 = .ok (.bipush 8, 2) := by decide +kernel
theorem dX16_passLook_139 : decode cX16_passLook 139 = .ok (.iload 6, 2) := by decide +kernel
theorem dX16_passLook_141 : decode cX16_passLook 141 = .ok (.imul, 1) := by decide +kernel
theorem dX16_passLook_142 : decode cX16_passLook 142 = .ok (.aload_n 0, 1) := by decide +kernel
theorem dX16_passLook_143 : decode cX16_passLook 143 = .ok (.getfield 864, 3) := by decide +kernel
theorem dX16_passLook_146 : decode cX16_passLook 146 = .ok (.iload 5, 2) := by decide +kernel
theorem dX16_passLook_148 : decode cX16_passLook 148 = .ok (.laload, 1) := by decide +kernel
theorem dX16_passLook_149 : decode cX16_passLook 149 = .ok (.aload_n 0, 1) := by decide +kernel
theorem dX16_passLook_150 : decode cX16_passLook 150 = .ok (.getfield 867, 3) := by decide +kernel
theorem dX16_passLook_153 : decode cX16_passLook 153 = .ok (.bipush 8, 2) := by decide +kernel
theorem dX16_passLook_155 : decode cX16_passLook 155 = .ok (.iload 5, 2) := by decide +kernel
theorem dX16_passLook_157 : decode cX16_passLook 157 = .ok (.imul, 1) := by decide +kernel
theorem dX16_passLook_158 : decode cX16_passLook 158 = .ok (.aload_n 0, 1) := by decide +kernel
theorem dX16_passLook_159 : decode cX16_passLook 159 = .ok (.getfield 356, 3) := by decide +kernel
theorem dX16_passLook_162 : decode cX16_passLook 162 = .ok (.getfield 178, 3) := by decide +kernel
theorem dX16_passLook_165 : decode cX16_passLook 165 = .ok (.iload_n 3, 1) := by decide +kernel
theorem dX16_passLook_166 : decode cX16_passLook 166 = .ok (.iaload, 1) := by decide +kernel
theorem dX16_passLook_167 : decode cX16_passLook 167 = .ok (.invokevirtual 534, 3) := by decide +kernel
theorem dX16_passLook_170 : decode cX16_passLook 170 = .ok (.ifCond .le 8, 3) := by decide +kernel
theorem dX16_passLook_173 : decode cX16_passLook 173 = .ok (.iload 6, 2) := by decide +kernel
theorem dX16_passLook_175 : decode cX16_passLook 175 = .ok (.goto 5, 3) := by decide +kernel
theorem dX16_passLook_178 : decode cX16_passLook 178 = .ok (.iload 5, 2) := by decide +kernel
theorem dX16_passLook_180 : decode cX16_passLook 180 = .ok (.istore 5, 2) := by decide +kernel
theorem dX16_passLook_182 : decode cX16_passLook 182 = .ok (.iinc 6 1, 3) := by decide +kernel
theorem dX16_passLook_185 : decode cX16_passLook 185 = .ok (.goto (-153), 3) := by decide +kernel
theorem dX16_passLook_188 : decode cX16_passLook 188 = .ok (.iload 5, 2) := by decide +kernel
theorem dX16_passLook_190 : decode cX16_passLook 190 = .ok (.iconst (-1), 1) := by decide +kernel
theorem dX16_passLook_191 : decode cX16_passLook 191 = .ok (.if_icmp .eq 28, 3) := by decide +kernel
theorem dX16_passLook_194 : decode cX16_passLook 194 = .ok (.aload_n 0, 1) := by decide +kernel
theorem dX16_passLook_195 : decode cX16_passLook 195 = .ok (.iload_n 1, 1) := by decide +kernel
theorem dX16_passLook_196 : decode cX16_passLook 196 = .ok (.iload 4, 2) := by decide +kernel
theorem dX16_passLook_198 : decode cX16_passLook 198 = .ok (.iload 5, 2) := by decide +kernel
theorem dX16_passLook_200 : decode cX16_passLook 200 = .ok (.invokevirtual 894, 3) := by decide +kernel
theorem dX16_passLook_203 : decode cX16_passLook 203 = .ok (.aload_n 0, 1) := by decide +kernel
theorem dX16_passLook_204 : decode cX16_passLook 204 = .ok (.aload_n 0, 1) := by decide +kernel
theorem dX16_passLook_205 : decode cX16_passLook 205 = .ok (.getfield 864, 3) := by decide +kernel
theorem dX16_passLook_208 : decode cX16_passLook 208 = .ok (.iload 4, 2) := by decide +kernel
theorem dX16_passLook_210 : decode cX16_passLook 210 = .ok (.laload, 1) := by decide +kernel
theorem dX16_passLook_211 : decode cX16_passLook 211 = .ok (.aload_n 0, 1) := by decide +kernel
theorem dX16_passLook_212 : decode cX16_passLook 212 = .ok (.getfield 578, 3) := by decide +kernel
theorem dX16_passLook_215 : decode cX16_passLook 215 = .ok (.iconst 0, 1) := by decide +kernel
theorem dX16_passLook_216 : decode cX16_passLook 216 = .ok (.invokevirtual 870, 3) := by decide +kernel
theorem dX16_passLook_219 : decode cX16_passLook 219 = .ok (.iinc 4 1, 3) := by decide +kernel
theorem dX16_passLook_222 : decode cX16_passLook 222 = .ok (.goto (-214), 3) := by decide +kernel
theorem dX16_passLook_225 : decode cX16_passLook 225 = .ok (.return_, 1) := by decide +kernel
set_option maxRecDepth 20000 in
theorem a_X16_passLook_225 {Q : Sg → Unit → Prop} {X : Sg → String → Prop} (K : MC R p s m args c cX16_passLook 8 RX16 D cA tys A n0 s0 1 30 []) (hQ : HQV p l e R s m args below meth c cX16_passLook D cA A n0 s0 QM dm ra jx rm Q) (hX : HX p l e R s m args below meth c 8 D cA A n0 s0 QM dm ra jx rm X) : ∀ (σ : Sg), w_X16_passLook_225 ra jx rm Q X σ → RG σ → Shp dm ra jx rm σ → JJ p l e R s m args below meth c 8 D cA A n0 s0 QM σ 225 [(0, .ref rm)] [] := by
  intro σ h hGσ hS H locs ls hH hl hc
  have B := K.1
  unfold w_X16_passLook_225 at h
  exact hQ _ _ _ _ _ dX16_passLook_225 hH hc h hGσ hS
set_option maxRecDepth 20000 in
theorem a_X16_passLook_219 {Q : Sg → Unit → Prop} {X : Sg → String → Prop} (K : MC R p s m args c cX16_passLook 8 RX16 D cA tys A n0 s0 1 30 []) (hQ : HQV p l e R s m args below meth c cX16_passLook D cA A n0 s0 QM dm ra jx rm Q) (hX : HX p l e R s m args below meth c 8 D cA A n0 s0 QM dm ra jx rm X) {K8 : Sg → Int → Int → Int → Int → Prop} (hK8 : ∀ (σ : Sg) (v1 : Int) (v2 : Int) (v3 : Int) (v4 : Int) (g1 : rng v1) (g2 : rng v2) (g3 : rng v3) (g4 : rng v4), K8 σ v1 v2 v3 v4 → RG σ → Shp dm ra jx rm σ → JJ p l e R s m args below meth c 8 D cA A n0 s0 QM σ 8 [(0, .ref rm), (1, .int (i32 v1)), (2, .int (i32 v2)), (3, .int (i32 v3)), (4, .int (i32 v4))] []) : ∀ (σ : Sg) (v1 : Int) (v2 : Int) (v3 : Int) (v4 : Int) (g1 : rng v1) (g2 : rng v2) (g3 : rng v3) (g4 : rng v4), w_X16_passLook_219 ra jx rm K8 Q X σ v1 v2 v3 v4 → RG σ → Shp dm ra jx rm σ → JJ p l e R s m args below meth c 8 D cA A n0 s0 QM σ 219 [(0, .ref rm), (1, .int (i32 v1)), (2, .int (i32 v2)), (3, .int (i32 v3)), (4, .int (i32 v4))] [] := by
  intro σ v1 v2 v3 v4 g1 g2 g3 g4 h hGσ hS H locs ls hH hl hc
  have B := K.1
  unfold w_X16_passLook_219 at h
  obtain ⟨q1, h⟩ := h
  refine lv_iinc (k := 4) (v := i32 (v4 + 1)) (lv' := [(4, .int (i32 (v4 + 1))), (0, .ref rm), (1, .int (i32 v1)), (2, .int (i32 v2)), (3, .int (i32 v3))]) B.1 B.2.1 dX16_passLook_219 hl rfl (i32_add _ _) (by decide) rfl (fun ls hl => ?_)
  refine lv_goto (tgt := 8) B.1 B.2.1 dX16_passLook_222 (by decide) ?_
  exact hK8 _ _ _ _ _ g1 g2 g3 q1 h hGσ hS _ _ _ hH (lv_sub (l' := [(0, .ref rm), (1, .int (i32 v1)), (2, .int (i32 v2)), (3, .int (i32 v3)), (4, .int (i32 (v4 + 1)))]) hl [1, 2, 3, 4, 0] rfl) hc
set_option maxRecDepth 20000 in
theorem a_X16_passLook_194 {Q : Sg → Unit → Prop} {X : Sg → String → Prop} (K : MC R p s m args c cX16_passLook 8 RX16 D cA tys A n0 s0 1 30 []) (hQ : HQV p l e R s m args below meth c cX16_passLook D cA A n0 s0 QM dm ra jx rm Q) (hX : HX p l e R s m args below meth c 8 D cA A n0 s0 QM dm ra jx rm X) {K8 : Sg → Int → Int → Int → Int → Prop} (hK8 : ∀ (σ : Sg) (v1 : Int) (v2 : Int) (v3 : Int) (v4 : Int) (g1 : rng v1) (g2 : rng v2) (g3 : rng v3) (g4 : rng v4), K8 σ v1 v2 v3 v4 → RG σ → Shp dm ra jx rm σ → JJ p l e R s m args below meth c 8 D cA A n0 s0 QM σ 8 [(0, .ref rm), (1, .int (i32 v1)), (2, .int (i32 v2)), (3, .int (i32 v3)), (4, .int (i32 v4))] []) : ∀ (σ : Sg) (v1 : Int) (v2 : Int) (v3 : Int) (v4 : Int) (v5 : Int) (g1 : rng v1) (g2 : rng v2) (g3 : rng v3) (g4 : rng v4) (g5 : rng v5), w_X16_passLook_194 ra jx rm K8 Q X σ v1 v2 v3 v4 v5 → RG σ → Shp dm ra jx rm σ → JJ p l e R s m args below meth c 8 D cA A n0 s0 QM σ 194 [(0, .ref rm), (1, .int (i32 v1)), (2, .int (i32 v2)), (3, .int (i32 v3)), (4, .int (i32 v4)), (5, .int (i32 v5))] [] := by
  intro σ v1 v2 v3 v4 v5 g1 g2 g3 g4 g5 h hGσ hS H locs ls hH hl hc
  have B := K.1
  unfold w_X16_passLook_194 at h
  refine lv_aload_n B.1 B.2.1 dX16_passLook_194 rfl (lv_at hl 0 rfl) ?_
  refine lv_iload_n B.1 B.2.1 dX16_passLook_195 rfl (lv_at hl 1 rfl) ?_
  refine lv_iload B.1 B.2.1 dX16_passLook_196 (lv_at hl 4 rfl) ?_
  refine lv_iload B.1 B.2.1 dX16_passLook_198 (lv_at hl 5 rfl) ?_
  refine c_V B hH hl hc K.2.2.1 (C := RX16) (T := TX16) (N := 123) (ci := 16) (As := [.int (i32 v1), .int (i32 v4), .int (i32 v5)]) (ok_X16_lay K.2.1 σ v1 v4 v5 g1 g4 g5 hGσ hS h) wc_X16_894 3 hd_X16_lay ⟨Nat.le_trans (Nat.le_of_ble_eq_true rfl) K.2.2.2.1, Nat.le_trans (Nat.le_of_ble_eq_true rfl) K.2.2.2.2.1⟩ hS.1.1 hS.1.2 (by decide) rfl rfl (rest := []) rfl (Nat.le_of_ble_eq_true rfl) dX16_passLook_200 (fun σ15 w hq => ?_) (fun σ9 E9 hx9 => hX σ9 E9 _ _ _ (tb_out K.2.2.2.2.2 rfl) hx9.1 hx9.2.1 hx9.2.2)
  obtain ⟨rfl, h, hGσ15, hS⟩ := hq
  intro H locs ls hH hl hc
  refine W.eq (g2 := F0 m 203 ls []) (rfl) ?_
  try dsimp only at h
  refine lv_aload_n B.1 B.2.1 dX16_passLook_203 rfl (lv_at hl 0 rfl) ?_
  refine lv_aload_n B.1 B.2.1 dX16_passLook_204 rfl (lv_at hl 0 rfl) ?_
  refine r_arr B hH hS 115 (kd := 101) (n := 4000) (by decide) (by decide) wf_X16_864 rfl rfl dX16_passLook_205 ?_
  refine lv_iload B.1 B.2.1 dX16_passLook_208 (lv_at hl 4 rfl) ?_
  obtain ⟨q1, h⟩ := h
  refine x_lald B K.2.1 hH (hS.ar (k := 115) (kd := 101) (n := 4000) (by decide)) (by decide) q1 dX16_passLook_210 ?_
  refine lv_aload_n B.1 B.2.1 dX16_passLook_211 rfl (lv_at hl 0 rfl) ?_
  refine r_arr B hH hS 82 (kd := 101) (n := 16) (by decide) (by decide) wf_X16_578 rfl rfl dX16_passLook_212 ?_
  refine lv_iconst (v := i32 0) B.1 B.2.1 dX16_passLook_215 (by decide) ?_
  refine c_V B hH hl hc K.2.2.1 (C := RX16) (T := TX16) (N := 123) (ci := 16) (As := [.long (gJ σ15 (ra 115) v4.toNat), va_rf (some (ra 82)), .int (i32 0)]) (ok_X16_pass K.2.1 σ15 (gJ σ15 (ra 115) v4.toNat) (some (ra 82)) 0 (by unfold rng; omega) hGσ15 hS h) wc_X16_870 3 hd_X16_pass ⟨Nat.le_trans (Nat.le_of_ble_eq_true rfl) K.2.2.2.1, Nat.le_trans (Nat.le_of_ble_eq_true rfl) K.2.2.2.2.1⟩ hS.1.1 hS.1.2 (by decide) rfl rfl (rest := []) rfl (Nat.le_of_ble_eq_true rfl) dX16_passLook_216 (fun σ16 w hq => ?_) (fun σ9 E9 hx9 => hX σ9 E9 _ _ _ (tb_out K.2.2.2.2.2 rfl) hx9.1 hx9.2.1 hx9.2.2)
  obtain ⟨rfl, h, hGσ16, hS⟩ := hq
  intro H locs ls hH hl hc
  refine W.eq (g2 := F0 m 219 ls []) (rfl) ?_
  try dsimp only at h
  exact a_X16_passLook_219 K hQ hX hK8 _ _ _ _ _ g1 g2 g3 g4 h hGσ16 hS _ _ _ hH (lv_sub (l' := [(0, .ref rm), (1, .int (i32 v1)), (2, .int (i32 v2)), (3, .int (i32 v3)), (4, .int (i32 v4))]) hl [0, 1, 2, 3, 4] rfl) hc
set_option maxRecDepth 20000 in
theorem a_X16_passLook_188 {Q : Sg → Unit → Prop} {X : Sg → String → Prop} (K : MC R p s m args c cX16_passLook 8 RX16 D cA tys A n0 s0 1 30 []) (hQ : HQV p l e R s m args below meth c cX16_passLook D cA A n0 s0 QM dm ra jx rm Q) (hX : HX p l e R s m args below meth c 8 D cA A n0 s0 QM dm ra jx rm X) {K8 : Sg → Int → Int → Int → Int → Prop} (hK8 : ∀ (σ : Sg) (v1 : Int) (v2 : Int) (v3 : Int) (v4 : Int) (g1 : rng v1) (g2 : rng v2) (g3 : rng v3) (g4 : rng v4), K8 σ v1 v2 v3 v4 → RG σ → Shp dm ra jx rm σ → JJ p l e R s m args below meth c 8 D cA A n0 s0 QM σ 8 [(0, .ref rm), (1, .int (i32 v1)), (2, .int (i32 v2)), (3, .int (i32 v3)), (4, .int (i32 v4))] []) : ∀ (σ : Sg) (v1 : Int) (v2 : Int) (v3 : Int) (v4 : Int) (v5 : Int) (g1 : rng v1) (g2 : rng v2) (g3 : rng v3) (g4 : rng v4) (g5 : rng v5), w_X16_passLook_188 ra jx rm K8 Q X σ v1 v2 v3 v4 v5 → RG σ → Shp dm ra jx rm σ → JJ p l e R s m args below meth c 8 D cA A n0 s0 QM σ 188 [(0, .ref rm), (1, .int (i32 v1)), (2, .int (i32 v2)), (3, .int (i32 v3)), (4, .int (i32 v4)), (5, .int (i32 v5))] [] := by
  intro σ v1 v2 v3 v4 v5 g1 g2 g3 g4 g5 h hGσ hS H locs ls hH hl hc
  have B := K.1
  unfold w_X16_passLook_188 at h
  refine lv_iload B.1 B.2.1 dX16_passLook_188 (lv_at hl 5 rfl) ?_
  refine lv_iconst (v := i32 (-1)) B.1 B.2.1 dX16_passLook_190 (by decide) ?_
  refine lv_icmp_eq (tgt := 219) B.1 B.2.1 dX16_passLook_191 (by decide) (fun h9 => ?_) (fun h9 => ?_)
  · rw [if_pos ((i32_eq g5 (by unfold rng; omega)).mp h9)] at h
    exact a_X16_passLook_219 K hQ hX hK8 _ _ _ _ _ g1 g2 g3 g4 h hGσ hS _ _ _ hH (lv_sub (l' := [(0, .ref rm), (1, .int (i32 v1)), (2, .int (i32 v2)), (3, .int (i32 v3)), (4, .int (i32 v4))]) hl [0, 1, 2, 3, 4] rfl) hc
  · rw [if_neg (fun q => h9 ((i32_eq g5 (by unfold rng; omega)).mpr q))] at h
    exact a_X16_passLook_194 K hQ hX hK8 _ _ _ _ _ _ g1 g2 g3 g4 g5 h hGσ hS _ _ _ hH (lv_sub (l' := [(0, .ref rm), (1, .int (i32 v1)), (2, .int (i32 v2)), (3, .int (i32 v3)), (4, .int (i32 v4)), (5, .int (i32 v5))]) hl [0, 1, 2, 3, 4, 5] rfl) hc
set_option maxRecDepth 20000 in
theorem a_X16_passLook_180 {Q : Sg → Unit → Prop} {X : Sg → String → Prop} (K : MC R p s m args c cX16_passLook 8 RX16 D cA tys A n0 s0 1 30 []) (hQ : HQV p l e R s m args below meth c cX16_passLook D cA A n0 s0 QM dm ra jx rm Q) (hX : HX p l e R s m args below meth c 8 D cA A n0 s0 QM dm ra jx rm X) {K8 : Sg → Int → Int → Int → Int → Prop} (hK8 : ∀ (σ : Sg) (v1 : Int) (v2 : Int) (v3 : Int) (v4 : Int) (g1 : rng v1) (g2 : rng v2) (g3 : rng v3) (g4 : rng v4), K8 σ v1 v2 v3 v4 → RG σ → Shp dm ra jx rm σ → JJ p l e R s m args below meth c 8 D cA A n0 s0 QM σ 8 [(0, .ref rm), (1, .int (i32 v1)), (2, .int (i32 v2)), (3, .int (i32 v3)), (4, .int (i32 v4))] []) {K32 : Sg → Int → Int → Int → Int → Int → Int → Prop} (hK32 : ∀ (σ : Sg) (v1 : Int) (v2 : Int) (v3 : Int) (v4 : Int) (v5 : Int) (v6 : Int) (g1 : rng v1) (g2 : rng v2) (g3 : rng v3) (g4 : rng v4) (g5 : rng v5) (g6 : rng v6), K32 σ v1 v2 v3 v4 v5 v6 → RG σ → Shp dm ra jx rm σ → JJ p l e R s m args below meth c 8 D cA A n0 s0 QM σ 32 [(0, .ref rm), (1, .int (i32 v1)), (2, .int (i32 v2)), (3, .int (i32 v3)), (4, .int (i32 v4)), (5, .int (i32 v5)), (6, .int (i32 v6))] []) : ∀ (σ : Sg) (v1 : Int) (v2 : Int) (v3 : Int) (v4 : Int) (v6 : Int) (u0 : Int) (g1 : rng v1) (g2 : rng v2) (g3 : rng v3) (g4 : rng v4) (g6 : rng v6) (gu0 : rng u0), w_X16_passLook_180 ra jx rm K8 K32 Q X σ v1 v2 v3 v4 v6 u0 → RG σ → Shp dm ra jx rm σ → JJ p l e R s m args below meth c 8 D cA A n0 s0 QM σ 180 [(0, .ref rm), (1, .int (i32 v1)), (2, .int (i32 v2)), (3, .int (i32 v3)), (4, .int (i32 v4)), (6, .int (i32 v6))] [.int (i32 u0)] := by
  intro σ v1 v2 v3 v4 v6 u0 g1 g2 g3 g4 g6 gu0 h hGσ hS H locs ls hH hl hc
  have B := K.1
  unfold w_X16_passLook_180 at h
  refine lv_istore (lv' := [(5, .int (i32 u0)), (0, .ref rm), (1, .int (i32 v1)), (2, .int (i32 v2)), (3, .int (i32 v3)), (4, .int (i32 v4)), (6, .int (i32 v6))]) B.1 B.2.1 dX16_passLook_180 hl (by decide) rfl (fun ls hl => ?_)
  obtain ⟨q1, h⟩ := h
  refine lv_iinc (k := 6) (v := i32 (v6 + 1)) (lv' := [(6, .int (i32 (v6 + 1))), (5, .int (i32 u0)), (0, .ref rm), (1, .int (i32 v1)), (2, .int (i32 v2)), (3, .int (i32 v3)), (4, .int (i32 v4))]) B.1 B.2.1 dX16_passLook_182 hl rfl (i32_add _ _) (by decide) rfl (fun ls hl => ?_)
  refine lv_goto (tgt := 32) B.1 B.2.1 dX16_passLook_185 (by decide) ?_
  exact hK32 _ _ _ _ _ _ _ g1 g2 g3 g4 gu0 q1 h hGσ hS _ _ _ hH (lv_sub (l' := [(0, .ref rm), (1, .int (i32 v1)), (2, .int (i32 v2)), (3, .int (i32 v3)), (4, .int (i32 v4)), (5, .int (i32 u0)), (6, .int (i32 (v6 + 1)))]) hl [2, 3, 4, 5, 6, 1, 0] rfl) hc
set_option maxRecDepth 20000 in
theorem a_X16_passLook_178 {Q : Sg → Unit → Prop} {X : Sg → String → Prop} (K : MC R p s m args c cX16_passLook 8 RX16 D cA tys A n0 s0 1 30 []) (hQ : HQV p l e R s m args below meth c cX16_passLook D cA A n0 s0 QM dm ra jx rm Q) (hX : HX p l e R s m args below meth c 8 D cA A n0 s0 QM dm ra jx rm X) {K8 : Sg → Int → Int → Int → Int → Prop} (hK8 : ∀ (σ : Sg) (v1 : Int) (v2 : Int) (v3 : Int) (v4 : Int) (g1 : rng v1) (g2 : rng v2) (g3 : rng v3) (g4 : rng v4), K8 σ v1 v2 v3 v4 → RG σ → Shp dm ra jx rm σ → JJ p l e R s m args below meth c 8 D cA A n0 s0 QM σ 8 [(0, .ref rm), (1, .int (i32 v1)), (2, .int (i32 v2)), (3, .int (i32 v3)), (4, .int (i32 v4))] []) {K32 : Sg → Int → Int → Int → Int → Int → Int → Prop} (hK32 : ∀ (σ : Sg) (v1 : Int) (v2 : Int) (v3 : Int) (v4 : Int) (v5 : Int) (v6 : Int) (g1 : rng v1) (g2 : rng v2) (g3 : rng v3) (g4 : rng v4) (g5 : rng v5) (g6 : rng v6), K32 σ v1 v2 v3 v4 v5 v6 → RG σ → Shp dm ra jx rm σ → JJ p l e R s m args below meth c 8 D cA A n0 s0 QM σ 32 [(0, .ref rm), (1, .int (i32 v1)), (2, .int (i32 v2)), (3, .int (i32 v3)), (4, .int (i32 v4)), (5, .int (i32 v5)), (6, .int (i32 v6))] []) : ∀ (σ : Sg) (v1 : Int) (v2 : Int) (v3 : Int) (v4 : Int) (v5 : Int) (v6 : Int) (g1 : rng v1) (g2 : rng v2) (g3 : rng v3) (g4 : rng v4) (g5 : rng v5) (g6 : rng v6), w_X16_passLook_178 ra jx rm K8 K32 Q X σ v1 v2 v3 v4 v5 v6 → RG σ → Shp dm ra jx rm σ → JJ p l e R s m args below meth c 8 D cA A n0 s0 QM σ 178 [(0, .ref rm), (1, .int (i32 v1)), (2, .int (i32 v2)), (3, .int (i32 v3)), (4, .int (i32 v4)), (5, .int (i32 v5)), (6, .int (i32 v6))] [] := by
  intro σ v1 v2 v3 v4 v5 v6 g1 g2 g3 g4 g5 g6 h hGσ hS H locs ls hH hl hc
  have B := K.1
  unfold w_X16_passLook_178 at h
  refine lv_iload B.1 B.2.1 dX16_passLook_178 (lv_at hl 5 rfl) ?_
  exact a_X16_passLook_180 K hQ hX hK8 hK32 _ _ _ _ _ _ _ g1 g2 g3 g4 g6 g5 h hGσ hS _ _ _ hH (lv_sub (l' := [(0, .ref rm), (1, .int (i32 v1)), (2, .int (i32 v2)), (3, .int (i32 v3)), (4, .int (i32 v4)), (6, .int (i32 v6))]) hl [0, 1, 2, 3, 4, 6] rfl) hc
set_option maxRecDepth 20000 in
theorem a_X16_passLook_173 {Q : Sg → Unit → Prop} {X : Sg → String → Prop} (K : MC R p s m args c cX16_passLook 8 RX16 D cA tys A n0 s0 1 30 []) (hQ : HQV p l e R s m args below meth c cX16_passLook D cA A n0 s0 QM dm ra jx rm Q) (hX : HX p l e R s m args below meth c 8 D cA A n0 s0 QM dm ra jx rm X) {K8 : Sg → Int → Int → Int → Int → Prop} (hK8 : ∀ (σ : Sg) (v1 : Int) (v2 : Int) (v3 : Int) (v4 : Int) (g1 : rng v1) (g2 : rng v2) (g3 : rng v3) (g4 : rng v4), K8 σ v1 v2 v3 v4 → RG σ → Shp dm ra jx rm σ → JJ p l e R s m args below meth c 8 D cA A n0 s0 QM σ 8 [(0, .ref rm), (1, .int (i32 v1)), (2, .int (i32 v2)), (3, .int (i32 v3)), (4, .int (i32 v4))] []) {K32 : Sg → Int → Int → Int → Int → Int → Int → Prop} (hK32 : ∀ (σ : Sg) (v1 : Int) (v2 : Int) (v3 : Int) (v4 : Int) (v5 : Int) (v6 : Int) (g1 : rng v1) (g2 : rng v2) (g3 : rng v3) (g4 : rng v4) (g5 : rng v5) (g6 : rng v6), K32 σ v1 v2 v3 v4 v5 v6 → RG σ → Shp dm ra jx rm σ → JJ p l e R s m args below meth c 8 D cA A n0 s0 QM σ 32 [(0, .ref rm), (1, .int (i32 v1)), (2, .int (i32 v2)), (3, .int (i32 v3)), (4, .int (i32 v4)), (5, .int (i32 v5)), (6, .int (i32 v6))] []) : ∀ (σ : Sg) (v1 : Int) (v2 : Int) (v3 : Int) (v4 : Int) (v6 : Int) (g1 : rng v1) (g2 : rng v2) (g3 : rng v3) (g4 : rng v4) (g6 : rng v6), w_X16_passLook_173 ra jx rm K8 K32 Q X σ v1 v2 v3 v4 v6 → RG σ → Shp dm ra jx rm σ → JJ p l e R s m args below meth c 8 D cA A n0 s0 QM σ 173 [(0, .ref rm), (1, .int (i32 v1)), (2, .int (i32 v2)), (3, .int (i32 v3)), (4, .int (i32 v4)), (6, .int (i32 v6))] [] := by
  intro σ v1 v2 v3 v4 v6 g1 g2 g3 g4 g6 h hGσ hS H locs ls hH hl hc
  have B := K.1
  unfold w_X16_passLook_173 at h
  refine lv_iload B.1 B.2.1 dX16_passLook_173 (lv_at hl 5 rfl) ?_
  refine lv_goto (tgt := 180) B.1 B.2.1 dX16_passLook_175 (by decide) ?_
  exact a_X16_passLook_180 K hQ hX hK8 hK32 _ _ _ _ _ _ _ g1 g2 g3 g4 g6 g6 h hGσ hS _ _ _ hH (lv_sub (l' := [(0, .ref rm), (1, .int (i32 v1)), (2, .int (i32 v2)), (3, .int (i32 v3)), (4, .int (i32 v4)), (6, .int (i32 v6))]) hl [0, 1, 2, 3, 4, 5] rfl) hc
set_option maxRecDepth 20000 in
theorem a_X16_passLook_125 {Q : Sg → Unit → Prop} {X : Sg → String → Prop} (K : MC R p s m args c cX16_passLook 8 RX16 D cA tys A n0 s0 1 30 []) (hQ : HQV p l e R s m args below meth c cX16_passLook D cA A n0 s0 QM dm ra jx rm Q) (hX : HX p l e R s m args below meth c 8 D cA A n0 s0 QM dm ra jx rm X) {K8 : Sg → Int → Int → Int → Int → Prop} (hK8 : ∀ (σ : Sg) (v1 : Int) (v2 : Int) (v3 : Int) (v4 : Int) (g1 : rng v1) (g2 : rng v2) (g3 : rng v3) (g4 : rng v4), K8 σ v1 v2 v3 v4 → RG σ → Shp dm ra jx rm σ → JJ p l e R s m args below meth c 8 D cA A n0 s0 QM σ 8 [(0, .ref rm), (1, .int (i32 v1)), (2, .int (i32 v2)), (3, .int (i32 v3)), (4, .int (i32 v4))] []) {K32 : Sg → Int → Int → Int → Int → Int → Int → Prop} (hK32 : ∀ (σ : Sg) (v1 : Int) (v2 : Int) (v3 : Int) (v4 : Int) (v5 : Int) (v6 : Int) (g1 : rng v1) (g2 : rng v2) (g3 : rng v3) (g4 : rng v4) (g5 : rng v5) (g6 : rng v6), K32 σ v1 v2 v3 v4 v5 v6 → RG σ → Shp dm ra jx rm σ → JJ p l e R s m args below meth c 8 D cA A n0 s0 QM σ 32 [(0, .ref rm), (1, .int (i32 v1)), (2, .int (i32 v2)), (3, .int (i32 v3)), (4, .int (i32 v4)), (5, .int (i32 v5)), (6, .int (i32 v6))] []) : ∀ (σ : Sg) (v1 : Int) (v2 : Int) (v3 : Int) (v4 : Int) (v5 : Int) (v6 : Int) (g1 : rng v1) (g2 : rng v2) (g3 : rng v3) (g4 : rng v4) (g5 : rng v5) (g6 : rng v6), w_X16_passLook_125 ra jx rm K8 K32 Q X σ v1 v2 v3 v4 v5 v6 → RG σ → Shp dm ra jx rm σ → JJ p l e R s m args below meth c 8 D cA A n0 s0 QM σ 125 [(0, .ref rm), (1, .int (i32 v1)), (2, .int (i32 v2)), (3, .int (i32 v3)), (4, .int (i32 v4)), (5, .int (i32 v5)), (6, .int (i32 v6))] [] := by
  intro σ v1 v2 v3 v4 v5 v6 g1 g2 g3 g4 g5 g6 h hGσ hS H locs ls hH hl hc
  have B := K.1
  unfold w_X16_passLook_125 at h
  refine lv_aload_n B.1 B.2.1 dX16_passLook_125 rfl (lv_at hl 0 rfl) ?_
  refine lv_aload_n B.1 B.2.1 dX16_passLook_126 rfl (lv_at hl 0 rfl) ?_
  refine r_arr B hH hS 115 (kd := 101) (n := 4000) (by decide) (by decide) wf_X16_864 rfl rfl dX16_passLook_127 ?_
  refine lv_iload B.1 B.2.1 dX16_passLook_130 (lv_at hl 6 rfl) ?_
  obtain ⟨q1, h⟩ := h
  refine x_lald B K.2.1 hH (hS.ar (k := 115) (kd := 101) (n := 4000) (by decide)) (by decide) q1 dX16_passLook_132 ?_
  refine lv_aload_n B.1 B.2.1 dX16_passLook_133 rfl (lv_at hl 0 rfl) ?_
  refine r_arr B hH hS 116 (kd := 101) (n := 32000) (by decide) (by decide) wf_X16_867 rfl rfl dX16_passLook_134 ?_
  refine lv_bipush (v := i32 8) B.1 B.2.1 dX16_passLook_137 (by decide) ?_
  refine lv_iload B.1 B.2.1 dX16_passLook_139 (lv_at hl 6 rfl) ?_
  obtain ⟨q2, h⟩ := h
  refine lv_imul B.1 B.2.1 dX16_passLook_141 ?_
  rw [i32_mul]
  refine lv_aload_n B.1 B.2.1 dX16_passLook_142 rfl (lv_at hl 0 rfl) ?_
  refine r_arr B hH hS 115 (kd := 101) (n := 4000) (by decide) (by decide) wf_X16_864 rfl rfl dX16_passLook_143 ?_
  refine lv_iload B.1 B.2.1 dX16_passLook_146 (lv_at hl 5 rfl) ?_
  obtain ⟨q3, h⟩ := h
  refine x_lald B K.2.1 hH (hS.ar (k := 115) (kd := 101) (n := 4000) (by decide)) (by decide) q3 dX16_passLook_148 ?_
  refine lv_aload_n B.1 B.2.1 dX16_passLook_149 rfl (lv_at hl 0 rfl) ?_
  refine r_arr B hH hS 116 (kd := 101) (n := 32000) (by decide) (by decide) wf_X16_867 rfl rfl dX16_passLook_150 ?_
  refine lv_bipush (v := i32 8) B.1 B.2.1 dX16_passLook_153 (by decide) ?_
  refine lv_iload B.1 B.2.1 dX16_passLook_155 (lv_at hl 5 rfl) ?_
  obtain ⟨q4, h⟩ := h
  refine lv_imul B.1 B.2.1 dX16_passLook_157 ?_
  rw [i32_mul]
  refine lv_aload_n B.1 B.2.1 dX16_passLook_158 rfl (lv_at hl 0 rfl) ?_
  refine r_getp B hH hS 17 (by decide) wf_X16_356 rfl rfl dX16_passLook_159 ?_
  obtain ⟨a17, ea17, ja17, h⟩ := h
  refine W.eq (g2 := F0 m 162 ls [.ref a17, .int (i32 (8 * v5)), .ref (ra 116), .long (gJ σ (ra 115) v5.toNat), .int (i32 (8 * v6)), .ref (ra 116), .long (gJ σ (ra 115) v6.toNat), .ref rm]) (by rw [ea17]; rfl) ?_
  refine n_arr B hH hS ja17 6 (kd := 100) (n := 16) (by decide) (by decide) (List.mem_of_getElem? (i := 6) rfl) rfl dX16_passLook_162 ?_
  refine lv_iload_n B.1 B.2.1 dX16_passLook_165 rfl (lv_at hl 3 rfl) ?_
  obtain ⟨q6, h⟩ := h
  refine x_iald B K.2.1 hH (hS.ja ja17 (k := 6) (kd := 100) (n := 16) (by decide)) (by decide) q6 dX16_passLook_166 ?_
  refine c_V B hH hl hc K.2.2.1 (C := RX16) (T := TX16) (N := 123) (ci := 16) (As := [.long (gJ σ (ra 115) v6.toNat), va_rf (some (ra 116)), .int (i32 (8 * v6)), .long (gJ σ (ra 115) v5.toNat), va_rf (some (ra 116)), .int (i32 (8 * v5)), .int (i32 (gI σ (jx a17 6) v3.toNat))]) (ok_X16_order K.2.1 σ (gJ σ (ra 115) v6.toNat) (some (ra 116)) (8 * v6) (gJ σ (ra 115) v5.toNat) (some (ra 116)) (8 * v5) (gI σ (jx a17 6) v3.toNat) q2 q4 (hGσ _ _) hGσ hS h) wc_X16_534 7 hd_X16_order ⟨Nat.le_trans (Nat.le_of_ble_eq_true rfl) K.2.2.2.1, Nat.le_trans (Nat.le_of_ble_eq_true rfl) K.2.2.2.2.1⟩ hS.1.1 hS.1.2 (by decide) rfl rfl (rest := []) rfl (Nat.le_of_ble_eq_true rfl) dX16_passLook_167 (fun σ18 w hq => ?_) (fun σ9 E9 hx9 => hX σ9 E9 _ _ _ (tb_out K.2.2.2.2.2 rfl) hx9.1 hx9.2.1 hx9.2.2)
  obtain ⟨r19, rfl, gr19, h, hGσ18, hS⟩ := hq
  intro H locs ls hH hl hc
  refine W.eq (g2 := F0 m 170 ls [.int (i32 r19)]) (rfl) ?_
  try dsimp only at h
  refine lv_if_le (tgt := 178) B.1 B.2.1 dX16_passLook_170 (by decide) (fun h9 => ?_) (fun h9 => ?_)
  · rw [if_pos ((z_le gr19).mp h9)] at h
    exact a_X16_passLook_178 K hQ hX hK8 hK32 _ _ _ _ _ _ _ g1 g2 g3 g4 g5 g6 h hGσ18 hS _ _ _ hH (lv_sub (l' := [(0, .ref rm), (1, .int (i32 v1)), (2, .int (i32 v2)), (3, .int (i32 v3)), (4, .int (i32 v4)), (5, .int (i32 v5)), (6, .int (i32 v6))]) hl [0, 1, 2, 3, 4, 5, 6] rfl) hc
  · rw [if_neg (fun q => h9 ((z_le gr19).mpr q))] at h
    exact a_X16_passLook_173 K hQ hX hK8 hK32 _ _ _ _ _ _ g1 g2 g3 g4 g6 h hGσ18 hS _ _ _ hH (lv_sub (l' := [(0, .ref rm), (1, .int (i32 v1)), (2, .int (i32 v2)), (3, .int (i32 v3)), (4, .int (i32 v4)), (6, .int (i32 v6))]) hl [0, 1, 2, 3, 4, 6] rfl) hc
set_option maxRecDepth 20000 in
theorem a_X16_passLook_119 {Q : Sg → Unit → Prop} {X : Sg → String → Prop} (K : MC R p s m args c cX16_passLook 8 RX16 D cA tys A n0 s0 1 30 []) (hQ : HQV p l e R s m args below meth c cX16_passLook D cA A n0 s0 QM dm ra jx rm Q) (hX : HX p l e R s m args below meth c 8 D cA A n0 s0 QM dm ra jx rm X) {K8 : Sg → Int → Int → Int → Int → Prop} (hK8 : ∀ (σ : Sg) (v1 : Int) (v2 : Int) (v3 : Int) (v4 : Int) (g1 : rng v1) (g2 : rng v2) (g3 : rng v3) (g4 : rng v4), K8 σ v1 v2 v3 v4 → RG σ → Shp dm ra jx rm σ → JJ p l e R s m args below meth c 8 D cA A n0 s0 QM σ 8 [(0, .ref rm), (1, .int (i32 v1)), (2, .int (i32 v2)), (3, .int (i32 v3)), (4, .int (i32 v4))] []) {K32 : Sg → Int → Int → Int → Int → Int → Int → Prop} (hK32 : ∀ (σ : Sg) (v1 : Int) (v2 : Int) (v3 : Int) (v4 : Int) (v5 : Int) (v6 : Int) (g1 : rng v1) (g2 : rng v2) (g3 : rng v3) (g4 : rng v4) (g5 : rng v5) (g6 : rng v6), K32 σ v1 v2 v3 v4 v5 v6 → RG σ → Shp dm ra jx rm σ → JJ p l e R s m args below meth c 8 D cA A n0 s0 QM σ 32 [(0, .ref rm), (1, .int (i32 v1)), (2, .int (i32 v2)), (3, .int (i32 v3)), (4, .int (i32 v4)), (5, .int (i32 v5)), (6, .int (i32 v6))] []) : ∀ (σ : Sg) (v1 : Int) (v2 : Int) (v3 : Int) (v4 : Int) (v5 : Int) (v6 : Int) (g1 : rng v1) (g2 : rng v2) (g3 : rng v3) (g4 : rng v4) (g5 : rng v5) (g6 : rng v6), w_X16_passLook_119 ra jx rm K8 K32 Q X σ v1 v2 v3 v4 v5 v6 → RG σ → Shp dm ra jx rm σ → JJ p l e R s m args below meth c 8 D cA A n0 s0 QM σ 119 [(0, .ref rm), (1, .int (i32 v1)), (2, .int (i32 v2)), (3, .int (i32 v3)), (4, .int (i32 v4)), (5, .int (i32 v5)), (6, .int (i32 v6))] [] := by
  intro σ v1 v2 v3 v4 v5 v6 g1 g2 g3 g4 g5 g6 h hGσ hS H locs ls hH hl hc
  have B := K.1
  unfold w_X16_passLook_119 at h
  refine lv_iload B.1 B.2.1 dX16_passLook_119 (lv_at hl 5 rfl) ?_
  refine lv_iconst (v := i32 (-1)) B.1 B.2.1 dX16_passLook_121 (by decide) ?_
  refine lv_icmp_eq (tgt := 173) B.1 B.2.1 dX16_passLook_122 (by decide) (fun h9 => ?_) (fun h9 => ?_)
  · rw [if_pos ((i32_eq g5 (by unfold rng; omega)).mp h9)] at h
    exact a_X16_passLook_173 K hQ hX hK8 hK32 _ _ _ _ _ _ g1 g2 g3 g4 g6 h hGσ hS _ _ _ hH (lv_sub (l' := [(0, .ref rm), (1, .int (i32 v1)), (2, .int (i32 v2)), (3, .int (i32 v3)), (4, .int (i32 v4)), (6, .int (i32 v6))]) hl [0, 1, 2, 3, 4, 6] rfl) hc
  · rw [if_neg (fun q => h9 ((i32_eq g5 (by unfold rng; omega)).mpr q))] at h
    exact a_X16_passLook_125 K hQ hX hK8 hK32 _ _ _ _ _ _ _ g1 g2 g3 g4 g5 g6 h hGσ hS _ _ _ hH (lv_sub (l' := [(0, .ref rm), (1, .int (i32 v1)), (2, .int (i32 v2)), (3, .int (i32 v3)), (4, .int (i32 v4)), (5, .int (i32 v5)), (6, .int (i32 v6))]) hl [0, 1, 2, 3, 4, 5, 6] rfl) hc
set_option maxRecDepth 20000 in
theorem a_X16_passLook_112 {Q : Sg → Unit → Prop} {X : Sg → String → Prop} (K : MC R p s m args c cX16_passLook 8 RX16 D cA tys A n0 s0 1 30 []) (hQ : HQV p l e R s m args below meth c cX16_passLook D cA A n0 s0 QM dm ra jx rm Q) (hX : HX p l e R s m args below meth c 8 D cA A n0 s0 QM dm ra jx rm X) {K8 : Sg → Int → Int → Int → Int → Prop} (hK8 : ∀ (σ : Sg) (v1 : Int) (v2 : Int) (v3 : Int) (v4 : Int) (g1 : rng v1) (g2 : rng v2) (g3 : rng v3) (g4 : rng v4), K8 σ v1 v2 v3 v4 → RG σ → Shp dm ra jx rm σ → JJ p l e R s m args below meth c 8 D cA A n0 s0 QM σ 8 [(0, .ref rm), (1, .int (i32 v1)), (2, .int (i32 v2)), (3, .int (i32 v3)), (4, .int (i32 v4))] []) {K32 : Sg → Int → Int → Int → Int → Int → Int → Prop} (hK32 : ∀ (σ : Sg) (v1 : Int) (v2 : Int) (v3 : Int) (v4 : Int) (v5 : Int) (v6 : Int) (g1 : rng v1) (g2 : rng v2) (g3 : rng v3) (g4 : rng v4) (g5 : rng v5) (g6 : rng v6), K32 σ v1 v2 v3 v4 v5 v6 → RG σ → Shp dm ra jx rm σ → JJ p l e R s m args below meth c 8 D cA A n0 s0 QM σ 32 [(0, .ref rm), (1, .int (i32 v1)), (2, .int (i32 v2)), (3, .int (i32 v3)), (4, .int (i32 v4)), (5, .int (i32 v5)), (6, .int (i32 v6))] []) : ∀ (σ : Sg) (v1 : Int) (v2 : Int) (v3 : Int) (v4 : Int) (v5 : Int) (v6 : Int) (u0 : Int) (g1 : rng v1) (g2 : rng v2) (g3 : rng v3) (g4 : rng v4) (g5 : rng v5) (g6 : rng v6) (gu0 : rng u0), w_X16_passLook_112 ra jx rm K8 K32 Q X σ v1 v2 v3 v4 v5 v6 u0 → RG σ → Shp dm ra jx rm σ → JJ p l e R s m args below meth c 8 D cA A n0 s0 QM σ 112 [(0, .ref rm), (1, .int (i32 v1)), (2, .int (i32 v2)), (3, .int (i32 v3)), (4, .int (i32 v4)), (5, .int (i32 v5)), (6, .int (i32 v6))] [.int (i32 u0)] := by
  intro σ v1 v2 v3 v4 v5 v6 u0 g1 g2 g3 g4 g5 g6 gu0 h hGσ hS H locs ls hH hl hc
  have B := K.1
  unfold w_X16_passLook_112 at h
  refine lv_istore (lv' := [(7, .int (i32 u0)), (0, .ref rm), (1, .int (i32 v1)), (2, .int (i32 v2)), (3, .int (i32 v3)), (4, .int (i32 v4)), (5, .int (i32 v5)), (6, .int (i32 v6))]) B.1 B.2.1 dX16_passLook_112 hl (by decide) rfl (fun ls hl => ?_)
  refine lv_iload B.1 B.2.1 dX16_passLook_114 (lv_at hl 0 rfl) ?_
  refine lv_if_eq (tgt := 178) B.1 B.2.1 dX16_passLook_116 (by decide) (fun h9 => ?_) (fun h9 => ?_)
  · rw [if_pos ((z_eq gu0).mp h9)] at h
    exact a_X16_passLook_178 K hQ hX hK8 hK32 _ _ _ _ _ _ _ g1 g2 g3 g4 g5 g6 h hGσ hS _ _ _ hH (lv_sub (l' := [(0, .ref rm), (1, .int (i32 v1)), (2, .int (i32 v2)), (3, .int (i32 v3)), (4, .int (i32 v4)), (5, .int (i32 v5)), (6, .int (i32 v6))]) hl [1, 2, 3, 4, 5, 6, 7] rfl) hc
  · rw [if_neg (fun q => h9 ((z_eq gu0).mpr q))] at h
    exact a_X16_passLook_119 K hQ hX hK8 hK32 _ _ _ _ _ _ _ g1 g2 g3 g4 g5 g6 h hGσ hS _ _ _ hH (lv_sub (l' := [(0, .ref rm), (1, .int (i32 v1)), (2, .int (i32 v2)), (3, .int (i32 v3)), (4, .int (i32 v4)), (5, .int (i32 v5)), (6, .int (i32 v6))]) hl [1, 2, 3, 4, 5, 6, 7] rfl) hc
set_option maxRecDepth 20000 in
theorem a_X16_passLook_111 {Q : Sg → Unit → Prop} {X : Sg → String → Prop} (K : MC R p s m args c cX16_passLook 8 RX16 D cA tys A n0 s0 1 30 []) (hQ : HQV p l e R s m args below meth c cX16_passLook D cA A n0 s0 QM dm ra jx rm Q) (hX : HX p l e R s m args below meth c 8 D cA A n0 s0 QM dm ra jx rm X) {K8 : Sg → Int → Int → Int → Int → Prop} (hK8 : ∀ (σ : Sg) (v1 : Int) (v2 : Int) (v3 : Int) (v4 : Int) (g1 : rng v1) (g2 : rng v2) (g3 : rng v3) (g4 : rng v4), K8 σ v1 v2 v3 v4 → RG σ → Shp dm ra jx rm σ → JJ p l e R s m args below meth c 8 D cA A n0 s0 QM σ 8 [(0, .ref rm), (1, .int (i32 v1)), (2, .int (i32 v2)), (3, .int (i32 v3)), (4, .int (i32 v4))] []) {K32 : Sg → Int → Int → Int → Int → Int → Int → Prop} (hK32 : ∀ (σ : Sg) (v1 : Int) (v2 : Int) (v3 : Int) (v4 : Int) (v5 : Int) (v6 : Int) (g1 : rng v1) (g2 : rng v2) (g3 : rng v3) (g4 : rng v4) (g5 : rng v5) (g6 : rng v6), K32 σ v1 v2 v3 v4 v5 v6 → RG σ → Shp dm ra jx rm σ → JJ p l e R s m args below meth c 8 D cA A n0 s0 QM σ 32 [(0, .ref rm), (1, .int (i32 v1)), (2, .int (i32 v2)), (3, .int (i32 v3)), (4, .int (i32 v4)), (5, .int (i32 v5)), (6, .int (i32 v6))] []) : ∀ (σ : Sg) (v1 : Int) (v2 : Int) (v3 : Int) (v4 : Int) (v5 : Int) (v6 : Int) (g1 : rng v1) (g2 : rng v2) (g3 : rng v3) (g4 : rng v4) (g5 : rng v5) (g6 : rng v6), w_X16_passLook_111 ra jx rm K8 K32 Q X σ v1 v2 v3 v4 v5 v6 → RG σ → Shp dm ra jx rm σ → JJ p l e R s m args below meth c 8 D cA A n0 s0 QM σ 111 [(0, .ref rm), (1, .int (i32 v1)), (2, .int (i32 v2)), (3, .int (i32 v3)), (4, .int (i32 v4)), (5, .int (i32 v5)), (6, .int (i32 v6))] [] := by
  intro σ v1 v2 v3 v4 v5 v6 g1 g2 g3 g4 g5 g6 h hGσ hS H locs ls hH hl hc
  have B := K.1
  unfold w_X16_passLook_111 at h
  refine lv_iconst (v := i32 0) B.1 B.2.1 dX16_passLook_111 (by decide) ?_
  exact a_X16_passLook_112 K hQ hX hK8 hK32 _ _ _ _ _ _ _ _ g1 g2 g3 g4 g5 g6 (by unfold rng; omega) h hGσ hS _ _ _ hH (lv_sub (l' := [(0, .ref rm), (1, .int (i32 v1)), (2, .int (i32 v2)), (3, .int (i32 v3)), (4, .int (i32 v4)), (5, .int (i32 v5)), (6, .int (i32 v6))]) hl [0, 1, 2, 3, 4, 5, 6] rfl) hc
set_option maxRecDepth 20000 in
theorem a_X16_passLook_107 {Q : Sg → Unit → Prop} {X : Sg → String → Prop} (K : MC R p s m args c cX16_passLook 8 RX16 D cA tys A n0 s0 1 30 []) (hQ : HQV p l e R s m args below meth c cX16_passLook D cA A n0 s0 QM dm ra jx rm Q) (hX : HX p l e R s m args below meth c 8 D cA A n0 s0 QM dm ra jx rm X) {K8 : Sg → Int → Int → Int → Int → Prop} (hK8 : ∀ (σ : Sg) (v1 : Int) (v2 : Int) (v3 : Int) (v4 : Int) (g1 : rng v1) (g2 : rng v2) (g3 : rng v3) (g4 : rng v4), K8 σ v1 v2 v3 v4 → RG σ → Shp dm ra jx rm σ → JJ p l e R s m args below meth c 8 D cA A n0 s0 QM σ 8 [(0, .ref rm), (1, .int (i32 v1)), (2, .int (i32 v2)), (3, .int (i32 v3)), (4, .int (i32 v4))] []) {K32 : Sg → Int → Int → Int → Int → Int → Int → Prop} (hK32 : ∀ (σ : Sg) (v1 : Int) (v2 : Int) (v3 : Int) (v4 : Int) (v5 : Int) (v6 : Int) (g1 : rng v1) (g2 : rng v2) (g3 : rng v3) (g4 : rng v4) (g5 : rng v5) (g6 : rng v6), K32 σ v1 v2 v3 v4 v5 v6 → RG σ → Shp dm ra jx rm σ → JJ p l e R s m args below meth c 8 D cA A n0 s0 QM σ 32 [(0, .ref rm), (1, .int (i32 v1)), (2, .int (i32 v2)), (3, .int (i32 v3)), (4, .int (i32 v4)), (5, .int (i32 v5)), (6, .int (i32 v6))] []) : ∀ (σ : Sg) (v1 : Int) (v2 : Int) (v3 : Int) (v4 : Int) (v5 : Int) (v6 : Int) (g1 : rng v1) (g2 : rng v2) (g3 : rng v3) (g4 : rng v4) (g5 : rng v5) (g6 : rng v6), w_X16_passLook_107 ra jx rm K8 K32 Q X σ v1 v2 v3 v4 v5 v6 → RG σ → Shp dm ra jx rm σ → JJ p l e R s m args below meth c 8 D cA A n0 s0 QM σ 107 [(0, .ref rm), (1, .int (i32 v1)), (2, .int (i32 v2)), (3, .int (i32 v3)), (4, .int (i32 v4)), (5, .int (i32 v5)), (6, .int (i32 v6))] [] := by
  intro σ v1 v2 v3 v4 v5 v6 g1 g2 g3 g4 g5 g6 h hGσ hS H locs ls hH hl hc
  have B := K.1
  unfold w_X16_passLook_107 at h
  refine lv_iconst (v := i32 1) B.1 B.2.1 dX16_passLook_107 (by decide) ?_
  refine lv_goto (tgt := 112) B.1 B.2.1 dX16_passLook_108 (by decide) ?_
  exact a_X16_passLook_112 K hQ hX hK8 hK32 _ _ _ _ _ _ _ _ g1 g2 g3 g4 g5 g6 (by unfold rng; omega) h hGσ hS _ _ _ hH (lv_sub (l' := [(0, .ref rm), (1, .int (i32 v1)), (2, .int (i32 v2)), (3, .int (i32 v3)), (4, .int (i32 v4)), (5, .int (i32 v5)), (6, .int (i32 v6))]) hl [0, 1, 2, 3, 4, 5, 6] rfl) hc
set_option maxRecDepth 20000 in
theorem a_X16_passLook_89 {Q : Sg → Unit → Prop} {X : Sg → String → Prop} (K : MC R p s m args c cX16_passLook 8 RX16 D cA tys A n0 s0 1 30 []) (hQ : HQV p l e R s m args below meth c cX16_passLook D cA A n0 s0 QM dm ra jx rm Q) (hX : HX p l e R s m args below meth c 8 D cA A n0 s0 QM dm ra jx rm X) {K8 : Sg → Int → Int → Int → Int → Prop} (hK8 : ∀ (σ : Sg) (v1 : Int) (v2 : Int) (v3 : Int) (v4 : Int) (g1 : rng v1) (g2 : rng v2) (g3 : rng v3) (g4 : rng v4), K8 σ v1 v2 v3 v4 → RG σ → Shp dm ra jx rm σ → JJ p l e R s m args below meth c 8 D cA A n0 s0 QM σ 8 [(0, .ref rm), (1, .int (i32 v1)), (2, .int (i32 v2)), (3, .int (i32 v3)), (4, .int (i32 v4))] []) {K32 : Sg → Int → Int → Int → Int → Int → Int → Prop} (hK32 : ∀ (σ : Sg) (v1 : Int) (v2 : Int) (v3 : Int) (v4 : Int) (v5 : Int) (v6 : Int) (g1 : rng v1) (g2 : rng v2) (g3 : rng v3) (g4 : rng v4) (g5 : rng v5) (g6 : rng v6), K32 σ v1 v2 v3 v4 v5 v6 → RG σ → Shp dm ra jx rm σ → JJ p l e R s m args below meth c 8 D cA A n0 s0 QM σ 32 [(0, .ref rm), (1, .int (i32 v1)), (2, .int (i32 v2)), (3, .int (i32 v3)), (4, .int (i32 v4)), (5, .int (i32 v5)), (6, .int (i32 v6))] []) : ∀ (σ : Sg) (v1 : Int) (v2 : Int) (v3 : Int) (v4 : Int) (v5 : Int) (v6 : Int) (g1 : rng v1) (g2 : rng v2) (g3 : rng v3) (g4 : rng v4) (g5 : rng v5) (g6 : rng v6), w_X16_passLook_89 ra jx rm K8 K32 Q X σ v1 v2 v3 v4 v5 v6 → RG σ → Shp dm ra jx rm σ → JJ p l e R s m args below meth c 8 D cA A n0 s0 QM σ 89 [(0, .ref rm), (1, .int (i32 v1)), (2, .int (i32 v2)), (3, .int (i32 v3)), (4, .int (i32 v4)), (5, .int (i32 v5)), (6, .int (i32 v6))] [] := by
  intro σ v1 v2 v3 v4 v5 v6 g1 g2 g3 g4 g5 g6 h hGσ hS H locs ls hH hl hc
  have B := K.1
  unfold w_X16_passLook_89 at h
  refine lv_aload_n B.1 B.2.1 dX16_passLook_89 rfl (lv_at hl 0 rfl) ?_
  refine r_arr B hH hS 115 (kd := 101) (n := 4000) (by decide) (by decide) wf_X16_864 rfl rfl dX16_passLook_90 ?_
  refine lv_iload B.1 B.2.1 dX16_passLook_93 (lv_at hl 6 rfl) ?_
  obtain ⟨q1, h⟩ := h
  refine x_lald B K.2.1 hH (hS.ar (k := 115) (kd := 101) (n := 4000) (by decide)) (by decide) q1 dX16_passLook_95 ?_
  refine lv_aload_n B.1 B.2.1 dX16_passLook_96 rfl (lv_at hl 0 rfl) ?_
  refine r_arr B hH hS 115 (kd := 101) (n := 4000) (by decide) (by decide) wf_X16_864 rfl rfl dX16_passLook_97 ?_
  refine lv_iload B.1 B.2.1 dX16_passLook_100 (lv_at hl 4 rfl) ?_
  obtain ⟨q2, h⟩ := h
  refine x_lald B K.2.1 hH (hS.ar (k := 115) (kd := 101) (n := 4000) (by decide)) (by decide) q2 dX16_passLook_102 ?_
  refine W.lcmp B.1 B.2.1 dX16_passLook_103 ?_
  refine lv_if_gt (tgt := 111) B.1 B.2.1 dX16_passLook_104 (by decide) (fun h9 => ?_) (fun h9 => ?_)
  · rw [if_pos ((lg_cmp_gt _ _).mp h9)] at h
    exact a_X16_passLook_111 K hQ hX hK8 hK32 _ _ _ _ _ _ _ g1 g2 g3 g4 g5 g6 h hGσ hS _ _ _ hH (lv_sub (l' := [(0, .ref rm), (1, .int (i32 v1)), (2, .int (i32 v2)), (3, .int (i32 v3)), (4, .int (i32 v4)), (5, .int (i32 v5)), (6, .int (i32 v6))]) hl [0, 1, 2, 3, 4, 5, 6] rfl) hc
  · rw [if_neg (fun q => h9 ((lg_cmp_gt _ _).mpr q))] at h
    exact a_X16_passLook_107 K hQ hX hK8 hK32 _ _ _ _ _ _ _ g1 g2 g3 g4 g5 g6 h hGσ hS _ _ _ hH (lv_sub (l' := [(0, .ref rm), (1, .int (i32 v1)), (2, .int (i32 v2)), (3, .int (i32 v3)), (4, .int (i32 v4)), (5, .int (i32 v5)), (6, .int (i32 v6))]) hl [0, 1, 2, 3, 4, 5, 6] rfl) hc
set_option maxRecDepth 20000 in
theorem a_X16_passLook_45 {Q : Sg → Unit → Prop} {X : Sg → String → Prop} (K : MC R p s m args c cX16_passLook 8 RX16 D cA tys A n0 s0 1 30 []) (hQ : HQV p l e R s m args below meth c cX16_passLook D cA A n0 s0 QM dm ra jx rm Q) (hX : HX p l e R s m args below meth c 8 D cA A n0 s0 QM dm ra jx rm X) {K8 : Sg → Int → Int → Int → Int → Prop} (hK8 : ∀ (σ : Sg) (v1 : Int) (v2 : Int) (v3 : Int) (v4 : Int) (g1 : rng v1) (g2 : rng v2) (g3 : rng v3) (g4 : rng v4), K8 σ v1 v2 v3 v4 → RG σ → Shp dm ra jx rm σ → JJ p l e R s m args below meth c 8 D cA A n0 s0 QM σ 8 [(0, .ref rm), (1, .int (i32 v1)), (2, .int (i32 v2)), (3, .int (i32 v3)), (4, .int (i32 v4))] []) {K32 : Sg → Int → Int → Int → Int → Int → Int → Prop} (hK32 : ∀ (σ : Sg) (v1 : Int) (v2 : Int) (v3 : Int) (v4 : Int) (v5 : Int) (v6 : Int) (g1 : rng v1) (g2 : rng v2) (g3 : rng v3) (g4 : rng v4) (g5 : rng v5) (g6 : rng v6), K32 σ v1 v2 v3 v4 v5 v6 → RG σ → Shp dm ra jx rm σ → JJ p l e R s m args below meth c 8 D cA A n0 s0 QM σ 32 [(0, .ref rm), (1, .int (i32 v1)), (2, .int (i32 v2)), (3, .int (i32 v3)), (4, .int (i32 v4)), (5, .int (i32 v5)), (6, .int (i32 v6))] []) : ∀ (σ : Sg) (v1 : Int) (v2 : Int) (v3 : Int) (v4 : Int) (v5 : Int) (v6 : Int) (g1 : rng v1) (g2 : rng v2) (g3 : rng v3) (g4 : rng v4) (g5 : rng v5) (g6 : rng v6), w_X16_passLook_45 ra jx rm K8 K32 Q X σ v1 v2 v3 v4 v5 v6 → RG σ → Shp dm ra jx rm σ → JJ p l e R s m args below meth c 8 D cA A n0 s0 QM σ 45 [(0, .ref rm), (1, .int (i32 v1)), (2, .int (i32 v2)), (3, .int (i32 v3)), (4, .int (i32 v4)), (5, .int (i32 v5)), (6, .int (i32 v6))] [] := by
  intro σ v1 v2 v3 v4 v5 v6 g1 g2 g3 g4 g5 g6 h hGσ hS H locs ls hH hl hc
  have B := K.1
  unfold w_X16_passLook_45 at h
  refine lv_aload_n B.1 B.2.1 dX16_passLook_45 rfl (lv_at hl 0 rfl) ?_
  refine r_arr B hH hS 116 (kd := 101) (n := 32000) (by decide) (by decide) wf_X16_867 rfl rfl dX16_passLook_46 ?_
  refine lv_bipush (v := i32 8) B.1 B.2.1 dX16_passLook_49 (by decide) ?_
  refine lv_iload B.1 B.2.1 dX16_passLook_51 (lv_at hl 4 rfl) ?_
  obtain ⟨q1, h⟩ := h
  refine lv_imul B.1 B.2.1 dX16_passLook_53 ?_
  rw [i32_mul]
  refine lv_aload_n B.1 B.2.1 dX16_passLook_54 rfl (lv_at hl 0 rfl) ?_
  refine r_getp B hH hS 17 (by decide) wf_X16_356 rfl rfl dX16_passLook_55 ?_
  obtain ⟨a20, ea20, ja20, h⟩ := h
  refine W.eq (g2 := F0 m 58 ls [.ref a20, .int (i32 (8 * v4)), .ref (ra 116)]) (by rw [ea20]; rfl) ?_
  refine n_arr B hH hS ja20 10 (kd := 100) (n := 16) (by decide) (by decide) (List.mem_of_getElem? (i := 10) rfl) rfl dX16_passLook_58 ?_
  refine lv_iload_n B.1 B.2.1 dX16_passLook_61 rfl (lv_at hl 1 rfl) ?_
  obtain ⟨q3, h⟩ := h
  refine x_iald B K.2.1 hH (hS.ja ja20 (k := 10) (kd := 100) (n := 16) (by decide)) (by decide) q3 dX16_passLook_62 ?_
  obtain ⟨q4, h⟩ := h
  refine lv_iadd B.1 B.2.1 dX16_passLook_63 ?_
  rw [i32_add]
  obtain ⟨q5, h⟩ := h
  refine x_lald B K.2.1 hH (hS.ar (k := 116) (kd := 101) (n := 32000) (by decide)) (by decide) q5 dX16_passLook_64 ?_
  refine lv_aload_n B.1 B.2.1 dX16_passLook_65 rfl (lv_at hl 0 rfl) ?_
  refine r_arr B hH hS 116 (kd := 101) (n := 32000) (by decide) (by decide) wf_X16_867 rfl rfl dX16_passLook_66 ?_
  refine lv_bipush (v := i32 8) B.1 B.2.1 dX16_passLook_69 (by decide) ?_
  refine lv_iload B.1 B.2.1 dX16_passLook_71 (lv_at hl 6 rfl) ?_
  obtain ⟨q6, h⟩ := h
  refine lv_imul B.1 B.2.1 dX16_passLook_73 ?_
  rw [i32_mul]
  refine lv_aload_n B.1 B.2.1 dX16_passLook_74 rfl (lv_at hl 0 rfl) ?_
  refine r_getp B hH hS 17 (by decide) wf_X16_356 rfl rfl dX16_passLook_75 ?_
  obtain ⟨a21, ea21, ja21, h⟩ := h
  refine W.eq (g2 := F0 m 78 ls [.ref a21, .int (i32 (8 * v6)), .ref (ra 116), .long (gJ σ (ra 116) ((8 * v4) + (gI σ (jx a20 10) v1.toNat)).toNat)]) (by rw [ea21]; rfl) ?_
  refine n_arr B hH hS ja21 11 (kd := 100) (n := 16) (by decide) (by decide) (List.mem_of_getElem? (i := 11) rfl) rfl dX16_passLook_78 ?_
  refine lv_iload_n B.1 B.2.1 dX16_passLook_81 rfl (lv_at hl 1 rfl) ?_
  obtain ⟨q8, h⟩ := h
  refine x_iald B K.2.1 hH (hS.ja ja21 (k := 11) (kd := 100) (n := 16) (by decide)) (by decide) q8 dX16_passLook_82 ?_
  obtain ⟨q9, h⟩ := h
  refine lv_iadd B.1 B.2.1 dX16_passLook_83 ?_
  rw [i32_add]
  obtain ⟨q10, h⟩ := h
  refine x_lald B K.2.1 hH (hS.ar (k := 116) (kd := 101) (n := 32000) (by decide)) (by decide) q10 dX16_passLook_84 ?_
  refine W.lcmp B.1 B.2.1 dX16_passLook_85 ?_
  refine lv_if_ne (tgt := 111) B.1 B.2.1 dX16_passLook_86 (by decide) (fun h9 => ?_) (fun h9 => ?_)
  · rw [if_pos (fun q => h9 ((lg_cmp_eq _ _).mpr q))] at h
    exact a_X16_passLook_111 K hQ hX hK8 hK32 _ _ _ _ _ _ _ g1 g2 g3 g4 g5 g6 h hGσ hS _ _ _ hH (lv_sub (l' := [(0, .ref rm), (1, .int (i32 v1)), (2, .int (i32 v2)), (3, .int (i32 v3)), (4, .int (i32 v4)), (5, .int (i32 v5)), (6, .int (i32 v6))]) hl [0, 1, 2, 3, 4, 5, 6] rfl) hc
  · rw [if_neg (fun q => q ((lg_cmp_eq _ _).mp h9))] at h
    exact a_X16_passLook_89 K hQ hX hK8 hK32 _ _ _ _ _ _ _ g1 g2 g3 g4 g5 g6 h hGσ hS _ _ _ hH (lv_sub (l' := [(0, .ref rm), (1, .int (i32 v1)), (2, .int (i32 v2)), (3, .int (i32 v3)), (4, .int (i32 v4)), (5, .int (i32 v5)), (6, .int (i32 v6))]) hl [0, 1, 2, 3, 4, 5, 6] rfl) hc
set_option maxRecDepth 20000 in
theorem a_X16_passLook_32 {Q : Sg → Unit → Prop} {X : Sg → String → Prop} (K : MC R p s m args c cX16_passLook 8 RX16 D cA tys A n0 s0 1 30 []) (hQ : HQV p l e R s m args below meth c cX16_passLook D cA A n0 s0 QM dm ra jx rm Q) (hX : HX p l e R s m args below meth c 8 D cA A n0 s0 QM dm ra jx rm X) {K8 : Sg → Int → Int → Int → Int → Prop} (hK8 : ∀ (σ : Sg) (v1 : Int) (v2 : Int) (v3 : Int) (v4 : Int) (g1 : rng v1) (g2 : rng v2) (g3 : rng v3) (g4 : rng v4), K8 σ v1 v2 v3 v4 → RG σ → Shp dm ra jx rm σ → JJ p l e R s m args below meth c 8 D cA A n0 s0 QM σ 8 [(0, .ref rm), (1, .int (i32 v1)), (2, .int (i32 v2)), (3, .int (i32 v3)), (4, .int (i32 v4))] []) {K32 : Sg → Int → Int → Int → Int → Int → Int → Prop} (hK32 : ∀ (σ : Sg) (v1 : Int) (v2 : Int) (v3 : Int) (v4 : Int) (v5 : Int) (v6 : Int) (g1 : rng v1) (g2 : rng v2) (g3 : rng v3) (g4 : rng v4) (g5 : rng v5) (g6 : rng v6), K32 σ v1 v2 v3 v4 v5 v6 → RG σ → Shp dm ra jx rm σ → JJ p l e R s m args below meth c 8 D cA A n0 s0 QM σ 32 [(0, .ref rm), (1, .int (i32 v1)), (2, .int (i32 v2)), (3, .int (i32 v3)), (4, .int (i32 v4)), (5, .int (i32 v5)), (6, .int (i32 v6))] []) : ∀ (σ : Sg) (v1 : Int) (v2 : Int) (v3 : Int) (v4 : Int) (v5 : Int) (v6 : Int) (g1 : rng v1) (g2 : rng v2) (g3 : rng v3) (g4 : rng v4) (g5 : rng v5) (g6 : rng v6), w_X16_passLook_32 ra jx rm K8 K32 Q X σ v1 v2 v3 v4 v5 v6 → RG σ → Shp dm ra jx rm σ → JJ p l e R s m args below meth c 8 D cA A n0 s0 QM σ 32 [(0, .ref rm), (1, .int (i32 v1)), (2, .int (i32 v2)), (3, .int (i32 v3)), (4, .int (i32 v4)), (5, .int (i32 v5)), (6, .int (i32 v6))] [] := by
  intro σ v1 v2 v3 v4 v5 v6 g1 g2 g3 g4 g5 g6 h hGσ hS H locs ls hH hl hc
  have B := K.1
  unfold w_X16_passLook_32 at h
  refine lv_iload B.1 B.2.1 dX16_passLook_32 (lv_at hl 6 rfl) ?_
  refine lv_aload_n B.1 B.2.1 dX16_passLook_34 rfl (lv_at hl 0 rfl) ?_
  refine r_arr B hH hS 118 (kd := 100) (n := 17) (by decide) (by decide) wf_X16_874 rfl rfl dX16_passLook_35 ?_
  refine lv_iload_n B.1 B.2.1 dX16_passLook_38 rfl (lv_at hl 3 rfl) ?_
  refine lv_iconst (v := i32 1) B.1 B.2.1 dX16_passLook_39 (by decide) ?_
  obtain ⟨q1, h⟩ := h
  refine lv_iadd B.1 B.2.1 dX16_passLook_40 ?_
  rw [i32_add]
  obtain ⟨q2, h⟩ := h
  refine x_iald B K.2.1 hH (hS.ar (k := 118) (kd := 100) (n := 17) (by decide)) (by decide) q2 dX16_passLook_41 ?_
  refine lv_icmp_ge (tgt := 188) B.1 B.2.1 dX16_passLook_42 (by decide) (fun h9 => ?_) (fun h9 => ?_)
  · rw [if_pos ((i32_le (hGσ _ _) g6).mp h9)] at h
    exact a_X16_passLook_188 K hQ hX hK8 _ _ _ _ _ _ g1 g2 g3 g4 g5 h hGσ hS _ _ _ hH (lv_sub (l' := [(0, .ref rm), (1, .int (i32 v1)), (2, .int (i32 v2)), (3, .int (i32 v3)), (4, .int (i32 v4)), (5, .int (i32 v5))]) hl [0, 1, 2, 3, 4, 5] rfl) hc
  · rw [if_neg (fun q => h9 ((i32_le (hGσ _ _) g6).mpr q))] at h
    exact a_X16_passLook_45 K hQ hX hK8 hK32 _ _ _ _ _ _ _ g1 g2 g3 g4 g5 g6 h hGσ hS _ _ _ hH (lv_sub (l' := [(0, .ref rm), (1, .int (i32 v1)), (2, .int (i32 v2)), (3, .int (i32 v3)), (4, .int (i32 v4)), (5, .int (i32 v5)), (6, .int (i32 v6))]) hl [0, 1, 2, 3, 4, 5, 6] rfl) hc
theorem al_X16_passLook_32 {Q : Sg → Unit → Prop} {X : Sg → String → Prop} (K : MC R p s m args c cX16_passLook 8 RX16 D cA tys A n0 s0 1 30 []) (hQ : HQV p l e R s m args below meth c cX16_passLook D cA A n0 s0 QM dm ra jx rm Q) (hX : HX p l e R s m args below meth c 8 D cA A n0 s0 QM dm ra jx rm X) {K8 : Sg → Int → Int → Int → Int → Prop} (hK8 : ∀ (σ : Sg) (v1 : Int) (v2 : Int) (v3 : Int) (v4 : Int) (g1 : rng v1) (g2 : rng v2) (g3 : rng v3) (g4 : rng v4), K8 σ v1 v2 v3 v4 → RG σ → Shp dm ra jx rm σ → JJ p l e R s m args below meth c 8 D cA A n0 s0 QM σ 8 [(0, .ref rm), (1, .int (i32 v1)), (2, .int (i32 v2)), (3, .int (i32 v3)), (4, .int (i32 v4))] []) : ∀ (n : Nat), ∀ (σ : Sg) (v1 : Int) (v2 : Int) (v3 : Int) (v4 : Int) (v5 : Int) (v6 : Int) (g1 : rng v1) (g2 : rng v2) (g3 : rng v3) (g4 : rng v4) (g5 : rng v5) (g6 : rng v6), wl_X16_passLook_32 ra jx rm K8 Q X n σ v1 v2 v3 v4 v5 v6 → RG σ → Shp dm ra jx rm σ → JJ p l e R s m args below meth c 8 D cA A n0 s0 QM σ 32 [(0, .ref rm), (1, .int (i32 v1)), (2, .int (i32 v2)), (3, .int (i32 v3)), (4, .int (i32 v4)), (5, .int (i32 v5)), (6, .int (i32 v6))] [] := by
  intro n
  induction n with
  | zero => intro σ v1 v2 v3 v4 v5 v6 g1 g2 g3 g4 g5 g6 h; exact h.elim
  | succ n ih => exact fun σ v1 v2 v3 v4 v5 v6 g1 g2 g3 g4 g5 g6 h => a_X16_passLook_32 K hQ hX hK8 ih σ v1 v2 v3 v4 v5 v6 g1 g2 g3 g4 g5 g6 h
set_option maxRecDepth 20000 in
theorem a_X16_passLook_21 {Q : Sg → Unit → Prop} {X : Sg → String → Prop} (K : MC R p s m args c cX16_passLook 8 RX16 D cA tys A n0 s0 1 30 []) (hQ : HQV p l e R s m args below meth c cX16_passLook D cA A n0 s0 QM dm ra jx rm Q) (hX : HX p l e R s m args below meth c 8 D cA A n0 s0 QM dm ra jx rm X) {K8 : Sg → Int → Int → Int → Int → Prop} (hK8 : ∀ (σ : Sg) (v1 : Int) (v2 : Int) (v3 : Int) (v4 : Int) (g1 : rng v1) (g2 : rng v2) (g3 : rng v3) (g4 : rng v4), K8 σ v1 v2 v3 v4 → RG σ → Shp dm ra jx rm σ → JJ p l e R s m args below meth c 8 D cA A n0 s0 QM σ 8 [(0, .ref rm), (1, .int (i32 v1)), (2, .int (i32 v2)), (3, .int (i32 v3)), (4, .int (i32 v4))] []) : ∀ (σ : Sg) (v1 : Int) (v2 : Int) (v3 : Int) (v4 : Int) (g1 : rng v1) (g2 : rng v2) (g3 : rng v3) (g4 : rng v4), w_X16_passLook_21 ra jx rm K8 Q X σ v1 v2 v3 v4 → RG σ → Shp dm ra jx rm σ → JJ p l e R s m args below meth c 8 D cA A n0 s0 QM σ 21 [(0, .ref rm), (1, .int (i32 v1)), (2, .int (i32 v2)), (3, .int (i32 v3)), (4, .int (i32 v4))] [] := by
  intro σ v1 v2 v3 v4 g1 g2 g3 g4 h hGσ hS H locs ls hH hl hc
  have B := K.1
  unfold w_X16_passLook_21 at h
  refine lv_iconst (v := i32 (-1)) B.1 B.2.1 dX16_passLook_21 (by decide) ?_
  refine lv_istore (lv' := [(5, .int (i32 (-1))), (0, .ref rm), (1, .int (i32 v1)), (2, .int (i32 v2)), (3, .int (i32 v3)), (4, .int (i32 v4))]) B.1 B.2.1 dX16_passLook_22 hl (by decide) rfl (fun ls hl => ?_)
  refine lv_aload_n B.1 B.2.1 dX16_passLook_24 rfl (lv_at hl 1 rfl) ?_
  refine r_arr B hH hS 118 (kd := 100) (n := 17) (by decide) (by decide) wf_X16_874 rfl rfl dX16_passLook_25 ?_
  refine lv_iload_n B.1 B.2.1 dX16_passLook_28 rfl (lv_at hl 4 rfl) ?_
  obtain ⟨q1, h⟩ := h
  refine x_iald B K.2.1 hH (hS.ar (k := 118) (kd := 100) (n := 17) (by decide)) (by decide) q1 dX16_passLook_29 ?_
  refine lv_istore (lv' := [(6, .int (i32 (gI σ (ra 118) v3.toNat))), (5, .int (i32 (-1))), (0, .ref rm), (1, .int (i32 v1)), (2, .int (i32 v2)), (3, .int (i32 v3)), (4, .int (i32 v4))]) B.1 B.2.1 dX16_passLook_30 hl (by decide) rfl (fun ls hl => ?_)
  obtain ⟨n9, h⟩ := h
  exact al_X16_passLook_32 K hQ hX hK8 n9 _ _ _ _ _ _ _ g1 g2 g3 g4 (by unfold rng; omega) (hGσ _ _) h hGσ hS _ _ _ hH (lv_sub (l' := [(0, .ref rm), (1, .int (i32 v1)), (2, .int (i32 v2)), (3, .int (i32 v3)), (4, .int (i32 v4)), (5, .int (i32 (-1))), (6, .int (i32 (gI σ (ra 118) v3.toNat)))]) hl [2, 3, 4, 5, 6, 1, 0] rfl) hc
set_option maxRecDepth 20000 in
theorem a_X16_passLook_8 {Q : Sg → Unit → Prop} {X : Sg → String → Prop} (K : MC R p s m args c cX16_passLook 8 RX16 D cA tys A n0 s0 1 30 []) (hQ : HQV p l e R s m args below meth c cX16_passLook D cA A n0 s0 QM dm ra jx rm Q) (hX : HX p l e R s m args below meth c 8 D cA A n0 s0 QM dm ra jx rm X) {K8 : Sg → Int → Int → Int → Int → Prop} (hK8 : ∀ (σ : Sg) (v1 : Int) (v2 : Int) (v3 : Int) (v4 : Int) (g1 : rng v1) (g2 : rng v2) (g3 : rng v3) (g4 : rng v4), K8 σ v1 v2 v3 v4 → RG σ → Shp dm ra jx rm σ → JJ p l e R s m args below meth c 8 D cA A n0 s0 QM σ 8 [(0, .ref rm), (1, .int (i32 v1)), (2, .int (i32 v2)), (3, .int (i32 v3)), (4, .int (i32 v4))] []) : ∀ (σ : Sg) (v1 : Int) (v2 : Int) (v3 : Int) (v4 : Int) (g1 : rng v1) (g2 : rng v2) (g3 : rng v3) (g4 : rng v4), w_X16_passLook_8 ra jx rm K8 Q X σ v1 v2 v3 v4 → RG σ → Shp dm ra jx rm σ → JJ p l e R s m args below meth c 8 D cA A n0 s0 QM σ 8 [(0, .ref rm), (1, .int (i32 v1)), (2, .int (i32 v2)), (3, .int (i32 v3)), (4, .int (i32 v4))] [] := by
  intro σ v1 v2 v3 v4 g1 g2 g3 g4 h hGσ hS H locs ls hH hl hc
  have B := K.1
  unfold w_X16_passLook_8 at h
  refine lv_iload B.1 B.2.1 dX16_passLook_8 (lv_at hl 4 rfl) ?_
  refine lv_aload_n B.1 B.2.1 dX16_passLook_10 rfl (lv_at hl 0 rfl) ?_
  refine r_arr B hH hS 118 (kd := 100) (n := 17) (by decide) (by decide) wf_X16_874 rfl rfl dX16_passLook_11 ?_
  refine lv_iload_n B.1 B.2.1 dX16_passLook_14 rfl (lv_at hl 2 rfl) ?_
  refine lv_iconst (v := i32 1) B.1 B.2.1 dX16_passLook_15 (by decide) ?_
  obtain ⟨q1, h⟩ := h
  refine lv_iadd B.1 B.2.1 dX16_passLook_16 ?_
  rw [i32_add]
  obtain ⟨q2, h⟩ := h
  refine x_iald B K.2.1 hH (hS.ar (k := 118) (kd := 100) (n := 17) (by decide)) (by decide) q2 dX16_passLook_17 ?_
  refine lv_icmp_ge (tgt := 225) B.1 B.2.1 dX16_passLook_18 (by decide) (fun h9 => ?_) (fun h9 => ?_)
  · rw [if_pos ((i32_le (hGσ _ _) g4).mp h9)] at h
    exact a_X16_passLook_225 K hQ hX _ h hGσ hS _ _ _ hH (lv_sub (l' := [(0, .ref rm)]) hl [0] rfl) hc
  · rw [if_neg (fun q => h9 ((i32_le (hGσ _ _) g4).mpr q))] at h
    exact a_X16_passLook_21 K hQ hX hK8 _ _ _ _ _ g1 g2 g3 g4 h hGσ hS _ _ _ hH (lv_sub (l' := [(0, .ref rm), (1, .int (i32 v1)), (2, .int (i32 v2)), (3, .int (i32 v3)), (4, .int (i32 v4))]) hl [0, 1, 2, 3, 4] rfl) hc
theorem al_X16_passLook_8 {Q : Sg → Unit → Prop} {X : Sg → String → Prop} (K : MC R p s m args c cX16_passLook 8 RX16 D cA tys A n0 s0 1 30 []) (hQ : HQV p l e R s m args below meth c cX16_passLook D cA A n0 s0 QM dm ra jx rm Q) (hX : HX p l e R s m args below meth c 8 D cA A n0 s0 QM dm ra jx rm X) : ∀ (n : Nat), ∀ (σ : Sg) (v1 : Int) (v2 : Int) (v3 : Int) (v4 : Int) (g1 : rng v1) (g2 : rng v2) (g3 : rng v3) (g4 : rng v4), wl_X16_passLook_8 ra jx rm Q X n σ v1 v2 v3 v4 → RG σ → Shp dm ra jx rm σ → JJ p l e R s m args below meth c 8 D cA A n0 s0 QM σ 8 [(0, .ref rm), (1, .int (i32 v1)), (2, .int (i32 v2)), (3, .int (i32 v3)), (4, .int (i32 v4))] [] := by
  intro n
  induction n with
  | zero => intro σ v1 v2 v3 v4 g1 g2 g3 g4 h; exact h.elim
  | succ n ih => exact fun σ v1 v2 v3 v4 g1 g2 g3 g4 h => a_X16_passLook_8 K hQ hX ih σ v1 v2 v3 v4 g1 g2 g3 g4 h
set_option maxRecDepth 20000 in
theorem a_X16_passLook_0 {Q : Sg → Unit → Prop} {X : Sg → String → Prop} (K : MC R p s m args c cX16_passLook 8 RX16 D cA tys A n0 s0 1 30 []) (hQ : HQV p l e R s m args below meth c cX16_passLook D cA A n0 s0 QM dm ra jx rm Q) (hX : HX p l e R s m args below meth c 8 D cA A n0 s0 QM dm ra jx rm X) : ∀ (σ : Sg) (v1 : Int) (v2 : Int) (v3 : Int) (g1 : rng v1) (g2 : rng v2) (g3 : rng v3), w_X16_passLook_0 ra jx rm Q X σ v1 v2 v3 → RG σ → Shp dm ra jx rm σ → JJ p l e R s m args below meth c 8 D cA A n0 s0 QM σ 0 [(0, .ref rm), (1, .int (i32 v1)), (2, .int (i32 v2)), (3, .int (i32 v3))] [] := by
  intro σ v1 v2 v3 g1 g2 g3 h hGσ hS H locs ls hH hl hc
  have B := K.1
  unfold w_X16_passLook_0 at h
  refine lv_aload_n B.1 B.2.1 dX16_passLook_0 rfl (lv_at hl 0 rfl) ?_
  refine r_arr B hH hS 118 (kd := 100) (n := 17) (by decide) (by decide) wf_X16_874 rfl rfl dX16_passLook_1 ?_
  refine lv_iload_n B.1 B.2.1 dX16_passLook_4 rfl (lv_at hl 2 rfl) ?_
  obtain ⟨q1, h⟩ := h
  refine x_iald B K.2.1 hH (hS.ar (k := 118) (kd := 100) (n := 17) (by decide)) (by decide) q1 dX16_passLook_5 ?_
  refine lv_istore (lv' := [(4, .int (i32 (gI σ (ra 118) v2.toNat))), (0, .ref rm), (1, .int (i32 v1)), (2, .int (i32 v2)), (3, .int (i32 v3))]) B.1 B.2.1 dX16_passLook_6 hl (by decide) rfl (fun ls hl => ?_)
  obtain ⟨n9, h⟩ := h
  exact al_X16_passLook_8 K hQ hX n9 _ _ _ _ _ g1 g2 g3 (hGσ _ _) h hGσ hS _ _ _ hH (lv_sub (l' := [(0, .ref rm), (1, .int (i32 v1)), (2, .int (i32 v2)), (3, .int (i32 v3)), (4, .int (i32 (gI σ (ra 118) v2.toNat)))]) hl [1, 2, 3, 4, 0] rfl) hc
theorem ok_X16_passLook (hT : Tys cA tys) {Q : Sg → Unit → Prop} {X : Sg → String → Prop} (σ : Sg) (v1 : Int) (v2 : Int) (v3 : Int) (g1 : rng v1) (g2 : rng v2) (g3 : rng v3) (hG : RG σ) (hS : Shp dm ra jx rm σ) (h : wp_X16_passLook ra jx rm v1 v2 v3 σ Q X) : Ok l D cA tys A yX16_passLook (.code yX16_passLook cX16_passLook 8 none) 1 30 [.ref rm, .int (i32 v1), .int (i32 v2), .int (i32 v3)] σ (QnV dm ra jx rm Q) (QxR dm ra jx rm X) := by
  unfold wp_X16_passLook at h
  exact ok_V (plainFor_of_name (by decide)) (by exact Nat.le_of_ble_eq_true rfl) hT (fun p e R s m args below meth c K hQ hX H locs ls hH hl hc => a_X16_passLook_0 K hQ hX σ v1 v2 v3 g1 g2 g3 h hG hS H locs ls hH (lv_sub (l' := [(0, .ref rm), (1, .int (i32 v1)), (2, .int (i32 v2)), (3, .int (i32 v3))]) hl [0, 1, 2, 3] rfl) hc)
theorem dX16_isSound_0 : decode cX16_isSound 0 = .ok (.iconst 1, 1) := by decide +kernel
theorem dX16_isSound_1 : decode cX16_isSound 1 = .ok (.istore 4, 2) := by decide +kernel
theorem dX16_isSound_3 : decode cX16_isSound 3 = .ok (.iconst 0, 1) := by decide +kernel
theorem dX16_isSound_4 : decode cX16_isSound 4 = .ok (.istore 5, 2) := by decide +kernel
theorem dX16_isSound_6 : decode cX16_isSound 6 = .ok (.iload 5, 2) := by decide +kernel
theorem dX16_isSound_8 : decode cX16_isSound 8 = .ok (.aload_n 0, 1) := by decide +kernel
theorem dX16_isSound_9 : decode cX16_isSound 9 = .ok (.getfield 356, 3) := by decide +kernel
theorem dX16_isSound_12 : decode cX16_isSound 12 = .ok (.getfield 222, 3) := by decide +kernel
theorem dX16_isSound_15 : decode cX16_isSound 15 = .ok (.iload_n 1, 1) := by decide +kernel
theorem dX16_isSound_16 : decode cX16_isSound 16 = .ok (.iaload, 1) := by decide +kernel
theorem dX16_isSound_17 : decode cX16_isSound 17 = .ok (.if_icmp .ge 58, 3) := by decide +kernel
theorem dX16_isSound_20 : decode cX16_isSound 20 = .ok (.iload 4, 2) := by decide +kernel
theorem dX16_isSound_22 : decode cX16_isSound 22 = .ok (.ifCond .eq 53, 3) := by decide +kernel
theorem dX16_isSound_25 : decode cX16_isSound 25 = .ok (.aload_n 0, 1) := by decide +kernel
theorem dX16_isSound_26 : decode cX16_isSound 26 = .ok (.aload_n 0, 1) := by decide +kernel
theorem dX16_isSound_27 : decode cX16_isSound 27 = .ok (.getfield 356, 3) := by decide +kernel
theorem dX16_isSound_30 : decode cX16_isSound 30 = .ok (.aload_n 0, 1) := by decide +kernel
theorem dX16_isSound_31 : decode cX16_isSound 31 = .ok (.getfield 356, 3) := by decide +kernel
theorem dX16_isSound_34 : decode cX16_isSound 34 = .ok (.getfield 219, 3) := by decide +kernel
theorem dX16_isSound_37 : decode cX16_isSound 37 = .ok (.bipush 8, 2) := by decide +kernel
theorem dX16_isSound_39 : decode cX16_isSound 39 = .ok (.iload_n 1, 1) := by decide +kernel
theorem dX16_isSound_40 : decode cX16_isSound 40 = .ok (.imul, 1) := by decide +kernel
theorem dX16_isSound_41 : decode cX16_isSound 41 = .ok (.iload 5, 2) := by decide +kernel
theorem dX16_isSound_43 : decode cX16_isSound 43 = .ok (.iadd, 1) := by decide +kernel
theorem dX16_isSound_44 : decode cX16_isSound 44 = .ok (.iaload, 1) := by decide +kernel
theorem dX16_isSound_45 : decode cX16_isSound 45 = .ok (.lload_n 2, 1) := by decide +kernel
theorem dX16_isSound_46 : decode cX16_isSound 46 = .ok (.aload_n 0, 1) := by decide +kernel
theorem dX16_isSound_47 : decode cX16_isSound 47 = .ok (.getfield 542, 3) := by decide +kernel
theorem dX16_isSound_50 : decode cX16_isSound 50 = .ok (.iconst 0, 1) := by decide +kernel
theorem dX16_isSound_51 : decode cX16_isSound 51 = .ok (.invokevirtual 545, 3) := by decide +kernel
theorem dX16_isSound_54 : decode cX16_isSound 54 = .ok (.pop2, 1) := by decide +kernel
theorem dX16_isSound_55 : decode cX16_isSound 55 = .ok (.aload_n 0, 1) := by decide +kernel
theorem dX16_isSound_56 : decode cX16_isSound 56 = .ok (.getfield 330, 3) := by decide +kernel
theorem dX16_isSound_59 : decode cX16_isSound 59 = .ok (.ifCond .ne 7, 3) := by decide +kernel
theorem dX16_isSound_62 : decode cX16_isSound 62 = .ok (.iconst 1, 1) := by decide +kernel
theorem dX16_isSound_63 : decode cX16_isSound 63 = .ok (.goto 4, 3) := by decide +kernel
theorem dX16_isSound_66 : decode cX16_isSound 66 = .ok (.iconst 0, 1) := by decide +kernel
theorem dX16_isSound_67 : decode cX16_isSound 67 = .ok (.istore 4, 2) := by decide +kernel
theorem dX16_isSound_69 : decode cX16_isSound 69 = .ok (.iinc 5 1, 3) := by decide +kernel
theorem dX16_isSound_72 : decode cX16_isSound 72 = .ok (.goto (-66), 3) := by decide +kernel
theorem dX16_isSound_75 : decode cX16_isSound 75 = .ok (.iload 4, 2) := by decide +kernel
theorem dX16_isSound_77 : decode cX16_isSound 77 = .ok (.ireturn, 1) := by decide +kernel
set_option maxRecDepth 20000 in
theorem a_X16_isSound_75 {Q : Sg → Int → Prop} {X : Sg → String → Prop} (K : MC R p s m args c cX16_isSound 6 RX16 D cA tys A n0 s0 2 56 []) (hQ : HQZ p l e R s m args below meth c cX16_isSound D cA A n0 s0 QM dm ra jx rm Q) (hX : HX p l e R s m args below meth c 6 D cA A n0 s0 QM dm ra jx rm X) : ∀ (σ : Sg) (v4 : Int) (g4 : rng v4), w_X16_isSound_75 ra jx rm Q X σ v4 → RG σ → Shp dm ra jx rm σ → JJ p l e R s m args below meth c 6 D cA A n0 s0 QM σ 75 [(0, .ref rm), (4, .int (i32 v4))] [] := by
  intro σ v4 g4 h hGσ hS H locs ls hH hl hc
  have B := K.1
  unfold w_X16_isSound_75 at h
  refine lv_iload B.1 B.2.1 dX16_isSound_75 (lv_at hl 1 rfl) ?_
  obtain ⟨qz, h⟩ := h
  exact hQ _ _ _ _ _ _ g4 qz dX16_isSound_77 hH hc h hGσ hS
set_option maxRecDepth 20000 in
theorem a_X16_isSound_67 {Q : Sg → Int → Prop} {X : Sg → String → Prop} (K : MC R p s m args c cX16_isSound 6 RX16 D cA tys A n0 s0 2 56 []) (hQ : HQZ p l e R s m args below meth c cX16_isSound D cA A n0 s0 QM dm ra jx rm Q) (hX : HX p l e R s m args below meth c 6 D cA A n0 s0 QM dm ra jx rm X) {K6 : Sg → Int → Int64 → Int → Int → Prop} (hK6 : ∀ (σ : Sg) (v1 : Int) (v2 : Int64) (v4 : Int) (v5 : Int) (g1 : rng v1) (g4 : rng v4) (g5 : rng v5), K6 σ v1 v2 v4 v5 → RG σ → Shp dm ra jx rm σ → JJ p l e R s m args below meth c 6 D cA A n0 s0 QM σ 6 [(0, .ref rm), (1, .int (i32 v1)), (2, .long v2), (4, .int (i32 v4)), (5, .int (i32 v5))] []) : ∀ (σ : Sg) (v1 : Int) (v2 : Int64) (v5 : Int) (u0 : Int) (g1 : rng v1) (g5 : rng v5) (gu0 : rng u0), w_X16_isSound_67 ra jx rm K6 Q X σ v1 v2 v5 u0 → RG σ → Shp dm ra jx rm σ → JJ p l e R s m args below meth c 6 D cA A n0 s0 QM σ 67 [(0, .ref rm), (1, .int (i32 v1)), (2, .long v2), (5, .int (i32 v5))] [.int (i32 u0)] := by
  intro σ v1 v2 v5 u0 g1 g5 gu0 h hGσ hS H locs ls hH hl hc
  have B := K.1
  unfold w_X16_isSound_67 at h
  refine lv_istore (lv' := [(4, .int (i32 u0)), (0, .ref rm), (1, .int (i32 v1)), (2, .long v2), (5, .int (i32 v5))]) B.1 B.2.1 dX16_isSound_67 hl (by decide) rfl (fun ls hl => ?_)
  obtain ⟨q1, h⟩ := h
  refine lv_iinc (k := 4) (v := i32 (v5 + 1)) (lv' := [(5, .int (i32 (v5 + 1))), (4, .int (i32 u0)), (0, .ref rm), (1, .int (i32 v1)), (2, .long v2)]) B.1 B.2.1 dX16_isSound_69 hl rfl (i32_add _ _) (by decide) rfl (fun ls hl => ?_)
  refine lv_goto (tgt := 6) B.1 B.2.1 dX16_isSound_72 (by decide) ?_
  exact hK6 _ _ _ _ _ g1 gu0 q1 h hGσ hS _ _ _ hH (lv_sub (l' := [(0, .ref rm), (1, .int (i32 v1)), (2, .long v2), (4, .int (i32 u0)), (5, .int (i32 (v5 + 1)))]) hl [2, 3, 4, 1, 0] rfl) hc
set_option maxRecDepth 20000 in
theorem a_X16_isSound_66 {Q : Sg → Int → Prop} {X : Sg → String → Prop} (K : MC R p s m args c cX16_isSound 6 RX16 D cA tys A n0 s0 2 56 []) (hQ : HQZ p l e R s m args below meth c cX16_isSound D cA A n0 s0 QM dm ra jx rm Q) (hX : HX p l e R s m args below meth c 6 D cA A n0 s0 QM dm ra jx rm X) {K6 : Sg → Int → Int64 → Int → Int → Prop} (hK6 : ∀ (σ : Sg) (v1 : Int) (v2 : Int64) (v4 : Int) (v5 : Int) (g1 : rng v1) (g4 : rng v4) (g5 : rng v5), K6 σ v1 v2 v4 v5 → RG σ → Shp dm ra jx rm σ → JJ p l e R s m args below meth c 6 D cA A n0 s0 QM σ 6 [(0, .ref rm), (1, .int (i32 v1)), (2, .long v2), (4, .int (i32 v4)), (5, .int (i32 v5))] []) : ∀ (σ : Sg) (v1 : Int) (v2 : Int64) (v5 : Int) (g1 : rng v1) (g5 : rng v5), w_X16_isSound_66 ra jx rm K6 Q X σ v1 v2 v5 → RG σ → Shp dm ra jx rm σ → JJ p l e R s m args below meth c 6 D cA A n0 s0 QM σ 66 [(0, .ref rm), (1, .int (i32 v1)), (2, .long v2), (5, .int (i32 v5))] [] := by
  intro σ v1 v2 v5 g1 g5 h hGσ hS H locs ls hH hl hc
  have B := K.1
  unfold w_X16_isSound_66 at h
  refine lv_iconst (v := i32 0) B.1 B.2.1 dX16_isSound_66 (by decide) ?_
  exact a_X16_isSound_67 K hQ hX hK6 _ _ _ _ _ g1 g5 (by unfold rng; omega) h hGσ hS _ _ _ hH (lv_sub (l' := [(0, .ref rm), (1, .int (i32 v1)), (2, .long v2), (5, .int (i32 v5))]) hl [0, 1, 2, 3] rfl) hc
set_option maxRecDepth 20000 in
theorem a_X16_isSound_62 {Q : Sg → Int → Prop} {X : Sg → String → Prop} (K : MC R p s m args c cX16_isSound 6 RX16 D cA tys A n0 s0 2 56 []) (hQ : HQZ p l e R s m args below meth c cX16_isSound D cA A n0 s0 QM dm ra jx rm Q) (hX : HX p l e R s m args below meth c 6 D cA A n0 s0 QM dm ra jx rm X) {K6 : Sg → Int → Int64 → Int → Int → Prop} (hK6 : ∀ (σ : Sg) (v1 : Int) (v2 : Int64) (v4 : Int) (v5 : Int) (g1 : rng v1) (g4 : rng v4) (g5 : rng v5), K6 σ v1 v2 v4 v5 → RG σ → Shp dm ra jx rm σ → JJ p l e R s m args below meth c 6 D cA A n0 s0 QM σ 6 [(0, .ref rm), (1, .int (i32 v1)), (2, .long v2), (4, .int (i32 v4)), (5, .int (i32 v5))] []) : ∀ (σ : Sg) (v1 : Int) (v2 : Int64) (v5 : Int) (g1 : rng v1) (g5 : rng v5), w_X16_isSound_62 ra jx rm K6 Q X σ v1 v2 v5 → RG σ → Shp dm ra jx rm σ → JJ p l e R s m args below meth c 6 D cA A n0 s0 QM σ 62 [(0, .ref rm), (1, .int (i32 v1)), (2, .long v2), (5, .int (i32 v5))] [] := by
  intro σ v1 v2 v5 g1 g5 h hGσ hS H locs ls hH hl hc
  have B := K.1
  unfold w_X16_isSound_62 at h
  refine lv_iconst (v := i32 1) B.1 B.2.1 dX16_isSound_62 (by decide) ?_
  refine lv_goto (tgt := 67) B.1 B.2.1 dX16_isSound_63 (by decide) ?_
  exact a_X16_isSound_67 K hQ hX hK6 _ _ _ _ _ g1 g5 (by unfold rng; omega) h hGσ hS _ _ _ hH (lv_sub (l' := [(0, .ref rm), (1, .int (i32 v1)), (2, .long v2), (5, .int (i32 v5))]) hl [0, 1, 2, 3] rfl) hc
set_option maxRecDepth 20000 in
theorem a_X16_isSound_25 {Q : Sg → Int → Prop} {X : Sg → String → Prop} (K : MC R p s m args c cX16_isSound 6 RX16 D cA tys A n0 s0 2 56 []) (hQ : HQZ p l e R s m args below meth c cX16_isSound D cA A n0 s0 QM dm ra jx rm Q) (hX : HX p l e R s m args below meth c 6 D cA A n0 s0 QM dm ra jx rm X) {K6 : Sg → Int → Int64 → Int → Int → Prop} (hK6 : ∀ (σ : Sg) (v1 : Int) (v2 : Int64) (v4 : Int) (v5 : Int) (g1 : rng v1) (g4 : rng v4) (g5 : rng v5), K6 σ v1 v2 v4 v5 → RG σ → Shp dm ra jx rm σ → JJ p l e R s m args below meth c 6 D cA A n0 s0 QM σ 6 [(0, .ref rm), (1, .int (i32 v1)), (2, .long v2), (4, .int (i32 v4)), (5, .int (i32 v5))] []) : ∀ (σ : Sg) (v1 : Int) (v2 : Int64) (v5 : Int) (g1 : rng v1) (g5 : rng v5), w_X16_isSound_25 ra jx rm K6 Q X σ v1 v2 v5 → RG σ → Shp dm ra jx rm σ → JJ p l e R s m args below meth c 6 D cA A n0 s0 QM σ 25 [(0, .ref rm), (1, .int (i32 v1)), (2, .long v2), (5, .int (i32 v5))] [] := by
  intro σ v1 v2 v5 g1 g5 h hGσ hS H locs ls hH hl hc
  have B := K.1
  unfold w_X16_isSound_25 at h
  refine lv_aload_n B.1 B.2.1 dX16_isSound_25 rfl (lv_at hl 0 rfl) ?_
  refine lv_aload_n B.1 B.2.1 dX16_isSound_26 rfl (lv_at hl 0 rfl) ?_
  refine r_getp B hH hS 17 (by decide) wf_X16_356 rfl rfl dX16_isSound_27 ?_
  refine lv_aload_n B.1 B.2.1 dX16_isSound_30 rfl (lv_at hl 0 rfl) ?_
  refine r_getp B hH hS 17 (by decide) wf_X16_356 rfl rfl dX16_isSound_31 ?_
  obtain ⟨a9, ea9, ja9, h⟩ := h
  refine W.eq (g2 := F0 m 34 ls [.ref a9, va_rf (gP σ rm 17), .ref rm]) (by rw [ea9]; rfl) ?_
  refine n_arr B hH hS ja9 13 (kd := 100) (n := 128) (by decide) (by decide) (List.mem_of_getElem? (i := 13) rfl) rfl dX16_isSound_34 ?_
  refine lv_bipush (v := i32 8) B.1 B.2.1 dX16_isSound_37 (by decide) ?_
  refine lv_iload_n B.1 B.2.1 dX16_isSound_39 rfl (lv_at hl 1 rfl) ?_
  obtain ⟨q2, h⟩ := h
  refine lv_imul B.1 B.2.1 dX16_isSound_40 ?_
  rw [i32_mul]
  refine lv_iload B.1 B.2.1 dX16_isSound_41 (lv_at hl 3 rfl) ?_
  obtain ⟨q3, h⟩ := h
  refine lv_iadd B.1 B.2.1 dX16_isSound_43 ?_
  rw [i32_add]
  obtain ⟨q4, h⟩ := h
  refine x_iald B K.2.1 hH (hS.ja ja9 (k := 13) (kd := 100) (n := 128) (by decide)) (by decide) q4 dX16_isSound_44 ?_
  refine lv_lload_n B.1 B.2.1 dX16_isSound_45 rfl (lv_at hl 2 rfl) ?_
  refine lv_aload_n B.1 B.2.1 dX16_isSound_46 rfl (lv_at hl 0 rfl) ?_
  refine r_arr B hH hS 81 (kd := 101) (n := 8) (by decide) (by decide) wf_X16_542 rfl rfl dX16_isSound_47 ?_
  refine lv_iconst (v := i32 0) B.1 B.2.1 dX16_isSound_50 (by decide) ?_
  refine c_V B hH hl hc K.2.2.1 (C := RX16) (T := TX16) (N := 123) (ci := 16) (As := [va_rf (gP σ rm 17), .int (i32 (gI σ (jx a9 13) ((8 * v1) + v5).toNat)), .long v2, va_rf (some (ra 81)), .int (i32 0)]) (ok_X16_worth K.2.1 σ (gP σ rm 17) (gI σ (jx a9 13) ((8 * v1) + v5).toNat) v2 (some (ra 81)) 0 (hGσ _ _) (by unfold rng; omega) hGσ hS h) wc_X16_545 5 hd_X16_worth ⟨Nat.le_trans (Nat.le_of_ble_eq_true rfl) K.2.2.2.1, Nat.le_trans (Nat.le_of_ble_eq_true rfl) K.2.2.2.2.1⟩ hS.1.1 hS.1.2 (by decide) rfl rfl (rest := []) rfl (Nat.le_of_ble_eq_true rfl) dX16_isSound_51 (fun σ10 w hq => ?_) (fun σ9 E9 hx9 => hX σ9 E9 _ _ _ (tb_out K.2.2.2.2.2 rfl) hx9.1 hx9.2.1 hx9.2.2)
  obtain ⟨r11, rfl, h, hGσ10, hS⟩ := hq
  intro H locs ls hH hl hc
  refine W.eq (g2 := F0 m 54 ls [.long r11]) (rfl) ?_
  try dsimp only at h
  refine lv_pop2_2 B.1 B.2.1 dX16_isSound_54 rfl ?_
  refine lv_aload_n B.1 B.2.1 dX16_isSound_55 rfl (lv_at hl 0 rfl) ?_
  refine r_geti B hH hS 21 (by decide) wf_X16_330 rfl rfl dX16_isSound_56 ?_
  refine lv_if_ne (tgt := 66) B.1 B.2.1 dX16_isSound_59 (by decide) (fun h9 => ?_) (fun h9 => ?_)
  · rw [if_pos (fun q => h9 ((z_eq (hGσ10 _ _)).mpr q))] at h
    exact a_X16_isSound_66 K hQ hX hK6 _ _ _ _ g1 g5 h hGσ10 hS _ _ _ hH (lv_sub (l' := [(0, .ref rm), (1, .int (i32 v1)), (2, .long v2), (5, .int (i32 v5))]) hl [0, 1, 2, 3] rfl) hc
  · rw [if_neg (fun q => q ((z_eq (hGσ10 _ _)).mp h9))] at h
    exact a_X16_isSound_62 K hQ hX hK6 _ _ _ _ g1 g5 h hGσ10 hS _ _ _ hH (lv_sub (l' := [(0, .ref rm), (1, .int (i32 v1)), (2, .long v2), (5, .int (i32 v5))]) hl [0, 1, 2, 3] rfl) hc
set_option maxRecDepth 20000 in
theorem a_X16_isSound_20 {Q : Sg → Int → Prop} {X : Sg → String → Prop} (K : MC R p s m args c cX16_isSound 6 RX16 D cA tys A n0 s0 2 56 []) (hQ : HQZ p l e R s m args below meth c cX16_isSound D cA A n0 s0 QM dm ra jx rm Q) (hX : HX p l e R s m args below meth c 6 D cA A n0 s0 QM dm ra jx rm X) {K6 : Sg → Int → Int64 → Int → Int → Prop} (hK6 : ∀ (σ : Sg) (v1 : Int) (v2 : Int64) (v4 : Int) (v5 : Int) (g1 : rng v1) (g4 : rng v4) (g5 : rng v5), K6 σ v1 v2 v4 v5 → RG σ → Shp dm ra jx rm σ → JJ p l e R s m args below meth c 6 D cA A n0 s0 QM σ 6 [(0, .ref rm), (1, .int (i32 v1)), (2, .long v2), (4, .int (i32 v4)), (5, .int (i32 v5))] []) : ∀ (σ : Sg) (v1 : Int) (v2 : Int64) (v4 : Int) (v5 : Int) (g1 : rng v1) (g4 : rng v4) (g5 : rng v5), w_X16_isSound_20 ra jx rm K6 Q X σ v1 v2 v4 v5 → RG σ → Shp dm ra jx rm σ → JJ p l e R s m args below meth c 6 D cA A n0 s0 QM σ 20 [(0, .ref rm), (1, .int (i32 v1)), (2, .long v2), (4, .int (i32 v4)), (5, .int (i32 v5))] [] := by
  intro σ v1 v2 v4 v5 g1 g4 g5 h hGσ hS H locs ls hH hl hc
  have B := K.1
  unfold w_X16_isSound_20 at h
  refine lv_iload B.1 B.2.1 dX16_isSound_20 (lv_at hl 3 rfl) ?_
  refine lv_if_eq (tgt := 75) B.1 B.2.1 dX16_isSound_22 (by decide) (fun h9 => ?_) (fun h9 => ?_)
  · rw [if_pos ((z_eq g4).mp h9)] at h
    exact a_X16_isSound_75 K hQ hX _ _ g4 h hGσ hS _ _ _ hH (lv_sub (l' := [(0, .ref rm), (4, .int (i32 v4))]) hl [0, 3] rfl) hc
  · rw [if_neg (fun q => h9 ((z_eq g4).mpr q))] at h
    exact a_X16_isSound_25 K hQ hX hK6 _ _ _ _ g1 g5 h hGσ hS _ _ _ hH (lv_sub (l' := [(0, .ref rm), (1, .int (i32 v1)), (2, .long v2), (5, .int (i32 v5))]) hl [0, 1, 2, 4] rfl) hc
set_option maxRecDepth 20000 in
theorem a_X16_isSound_6 {Q : Sg → Int → Prop} {X : Sg → String → Prop} (K : MC R p s m args c cX16_isSound 6 RX16 D cA tys A n0 s0 2 56 []) (hQ : HQZ p l e R s m args below meth c cX16_isSound D cA A n0 s0 QM dm ra jx rm Q) (hX : HX p l e R s m args below meth c 6 D cA A n0 s0 QM dm ra jx rm X) {K6 : Sg → Int → Int64 → Int → Int → Prop} (hK6 : ∀ (σ : Sg) (v1 : Int) (v2 : Int64) (v4 : Int) (v5 : Int) (g1 : rng v1) (g4 : rng v4) (g5 : rng v5), K6 σ v1 v2 v4 v5 → RG σ → Shp dm ra jx rm σ → JJ p l e R s m args below meth c 6 D cA A n0 s0 QM σ 6 [(0, .ref rm), (1, .int (i32 v1)), (2, .long v2), (4, .int (i32 v4)), (5, .int (i32 v5))] []) : ∀ (σ : Sg) (v1 : Int) (v2 : Int64) (v4 : Int) (v5 : Int) (g1 : rng v1) (g4 : rng v4) (g5 : rng v5), w_X16_isSound_6 ra jx rm K6 Q X σ v1 v2 v4 v5 → RG σ → Shp dm ra jx rm σ → JJ p l e R s m args below meth c 6 D cA A n0 s0 QM σ 6 [(0, .ref rm), (1, .int (i32 v1)), (2, .long v2), (4, .int (i32 v4)), (5, .int (i32 v5))] [] := by
  intro σ v1 v2 v4 v5 g1 g4 g5 h hGσ hS H locs ls hH hl hc
  have B := K.1
  unfold w_X16_isSound_6 at h
  refine lv_iload B.1 B.2.1 dX16_isSound_6 (lv_at hl 4 rfl) ?_
  refine lv_aload_n B.1 B.2.1 dX16_isSound_8 rfl (lv_at hl 0 rfl) ?_
  refine r_getp B hH hS 17 (by decide) wf_X16_356 rfl rfl dX16_isSound_9 ?_
  obtain ⟨a12, ea12, ja12, h⟩ := h
  refine W.eq (g2 := F0 m 12 ls [.ref a12, .int (i32 v5)]) (by rw [ea12]; rfl) ?_
  refine n_arr B hH hS ja12 12 (kd := 100) (n := 16) (by decide) (by decide) (List.mem_of_getElem? (i := 12) rfl) rfl dX16_isSound_12 ?_
  refine lv_iload_n B.1 B.2.1 dX16_isSound_15 rfl (lv_at hl 1 rfl) ?_
  obtain ⟨q2, h⟩ := h
  refine x_iald B K.2.1 hH (hS.ja ja12 (k := 12) (kd := 100) (n := 16) (by decide)) (by decide) q2 dX16_isSound_16 ?_
  refine lv_icmp_ge (tgt := 75) B.1 B.2.1 dX16_isSound_17 (by decide) (fun h9 => ?_) (fun h9 => ?_)
  · rw [if_pos ((i32_le (hGσ _ _) g5).mp h9)] at h
    exact a_X16_isSound_75 K hQ hX _ _ g4 h hGσ hS _ _ _ hH (lv_sub (l' := [(0, .ref rm), (4, .int (i32 v4))]) hl [0, 3] rfl) hc
  · rw [if_neg (fun q => h9 ((i32_le (hGσ _ _) g5).mpr q))] at h
    exact a_X16_isSound_20 K hQ hX hK6 _ _ _ _ _ g1 g4 g5 h hGσ hS _ _ _ hH (lv_sub (l' := [(0, .ref rm), (1, .int (i32 v1)), (2, .long v2), (4, .int (i32 v4)), (5, .int (i32 v5))]) hl [0, 1, 2, 3, 4] rfl) hc
theorem al_X16_isSound_6 {Q : Sg → Int → Prop} {X : Sg → String → Prop} (K : MC R p s m args c cX16_isSound 6 RX16 D cA tys A n0 s0 2 56 []) (hQ : HQZ p l e R s m args below meth c cX16_isSound D cA A n0 s0 QM dm ra jx rm Q) (hX : HX p l e R s m args below meth c 6 D cA A n0 s0 QM dm ra jx rm X) : ∀ (n : Nat), ∀ (σ : Sg) (v1 : Int) (v2 : Int64) (v4 : Int) (v5 : Int) (g1 : rng v1) (g4 : rng v4) (g5 : rng v5), wl_X16_isSound_6 ra jx rm Q X n σ v1 v2 v4 v5 → RG σ → Shp dm ra jx rm σ → JJ p l e R s m args below meth c 6 D cA A n0 s0 QM σ 6 [(0, .ref rm), (1, .int (i32 v1)), (2, .long v2), (4, .int (i32 v4)), (5, .int (i32 v5))] [] := by
  intro n
  induction n with
  | zero => intro σ v1 v2 v4 v5 g1 g4 g5 h; exact h.elim
  | succ n ih => exact fun σ v1 v2 v4 v5 g1 g4 g5 h => a_X16_isSound_6 K hQ hX ih σ v1 v2 v4 v5 g1 g4 g5 h
set_option maxRecDepth 20000 in
theorem a_X16_isSound_0 {Q : Sg → Int → Prop} {X : Sg → String → Prop} (K : MC R p s m args c cX16_isSound 6 RX16 D cA tys A n0 s0 2 56 []) (hQ : HQZ p l e R s m args below meth c cX16_isSound D cA A n0 s0 QM dm ra jx rm Q) (hX : HX p l e R s m args below meth c 6 D cA A n0 s0 QM dm ra jx rm X) : ∀ (σ : Sg) (v1 : Int) (v2 : Int64) (g1 : rng v1), w_X16_isSound_0 ra jx rm Q X σ v1 v2 → RG σ → Shp dm ra jx rm σ → JJ p l e R s m args below meth c 6 D cA A n0 s0 QM σ 0 [(0, .ref rm), (1, .int (i32 v1)), (2, .long v2)] [] := by
  intro σ v1 v2 g1 h hGσ hS H locs ls hH hl hc
  have B := K.1
  unfold w_X16_isSound_0 at h
  refine lv_iconst (v := i32 1) B.1 B.2.1 dX16_isSound_0 (by decide) ?_
  refine lv_istore (lv' := [(4, .int (i32 1)), (0, .ref rm), (1, .int (i32 v1)), (2, .long v2)]) B.1 B.2.1 dX16_isSound_1 hl (by decide) rfl (fun ls hl => ?_)
  refine lv_iconst (v := i32 0) B.1 B.2.1 dX16_isSound_3 (by decide) ?_
  refine lv_istore (lv' := [(5, .int (i32 0)), (4, .int (i32 1)), (0, .ref rm), (1, .int (i32 v1)), (2, .long v2)]) B.1 B.2.1 dX16_isSound_4 hl (by decide) rfl (fun ls hl => ?_)
  obtain ⟨n9, h⟩ := h
  exact al_X16_isSound_6 K hQ hX n9 _ _ _ _ _ g1 (by unfold rng; omega) (by unfold rng; omega) h hGσ hS _ _ _ hH (lv_sub (l' := [(0, .ref rm), (1, .int (i32 v1)), (2, .long v2), (4, .int (i32 1)), (5, .int (i32 0))]) hl [2, 3, 4, 1, 0] rfl) hc
theorem ok_X16_isSound (hT : Tys cA tys) {Q : Sg → Int → Prop} {X : Sg → String → Prop} (σ : Sg) (v1 : Int) (v2 : Int64) (g1 : rng v1) (hG : RG σ) (hS : Shp dm ra jx rm σ) (h : wp_X16_isSound ra jx rm v1 v2 σ Q X) : Ok l D cA tys A yX16_isSound (.code yX16_isSound cX16_isSound 6 (some .boolean)) 2 56 [.ref rm, .int (i32 v1), .long v2] σ (QnZ dm ra jx rm Q) (QxR dm ra jx rm X) := by
  unfold wp_X16_isSound at h
  exact ok_Z (plainFor_of_name (by decide)) (by exact Nat.le_of_ble_eq_true rfl) hT (fun p e R s m args below meth c K hQ hX H locs ls hH hl hc => a_X16_isSound_0 K hQ hX σ v1 v2 g1 h hG hS H locs ls hH (lv_sub (l' := [(0, .ref rm), (1, .int (i32 v1)), (2, .long v2)]) hl [0, 1, 2] rfl) hc)
theorem dX16_matchOne_0 : decode cX16_matchOne 0 = .ok (.iconst 0, 1) := by decide +kernel
theorem dX16_matchOne_1 : decode cX16_matchOne 1 = .ok (.istore 7, 2) := by decide +kernel
theorem dX16_matchOne_3 : decode cX16_matchOne 3 = .ok (.iconst 0, 1) := by decide +kernel
theorem dX16_matchOne_4 : decode cX16_matchOne 4 = .ok (.istore 8, 2) := by decide +kernel
theorem dX16_matchOne_6 : decode cX16_matchOne 6 = .ok (.iload 8, 2) := by decide +kernel
theorem dX16_matchOne_8 : decode cX16_matchOne 8 = .ok (.iload 6, 2) := by decide +kernel
theorem dX16_matchOne_10 : decode cX16_matchOne 10 = .ok (.if_icmp .ge 195, 3) := by decide +kernel
theorem dX16_matchOne_13 : decode cX16_matchOne 13 = .ok (.lload 4, 2) := by decide +kernel
theorem dX16_matchOne_15 : decode cX16_matchOne 15 = .ok (.aload_n 0, 1) := by decide +kernel
theorem dX16_matchOne_16 : decode cX16_matchOne 16 = .ok (.getfield 907, 3) := by decide +kernel
theorem dX16_matchOne_19 : decode cX16_matchOne 19 = .ok (.iload 8, 2) := by decide +kernel
theorem dX16_matchOne_21 : decode cX16_matchOne 21 = .ok (.laload, 1) := by decide +kernel
theorem dX16_matchOne_22 : decode cX16_matchOne 22 = .ok (.lsub, 1) := by decide +kernel
theorem dX16_matchOne_23 : decode cX16_matchOne 23 = .ok (.aload_n 0, 1) := by decide +kernel
theorem dX16_matchOne_24 : decode cX16_matchOne 24 = .ok (.getfield 356, 3) := by decide +kernel
theorem dX16_matchOne_27 : decode cX16_matchOne 27 = .ok (.getfield 191, 3) := by decide +kernel
theorem dX16_matchOne_30 : decode cX16_matchOne 30 = .ok (.iload_n 1, 1) := by decide +kernel
theorem dX16_matchOne_31 : decode cX16_matchOne 31 = .ok (.laload, 1) := by decide +kernel
theorem dX16_matchOne_32 : decode cX16_matchOne 32 = .ok (.lcmp, 1) := by decide +kernel
theorem dX16_matchOne_33 : decode cX16_matchOne 33 = .ok (.ifCond .le 6, 3) := by decide +kernel
theorem dX16_matchOne_36 : decode cX16_matchOne 36 = .ok (.goto 163, 3) := by decide +kernel
theorem dX16_matchOne_39 : decode cX16_matchOne 39 = .ok (.aload_n 0, 1) := by decide +kernel
theorem dX16_matchOne_40 : decode cX16_matchOne 40 = .ok (.getfield 910, 3) := by decide +kernel
theorem dX16_matchOne_43 : decode cX16_matchOne 43 = .ok (.iload 8, 2) := by decide +kernel
theorem dX16_matchOne_45 : decode cX16_matchOne 45 = .ok (.iaload, 1) := by decide +kernel
theorem dX16_matchOne_46 : decode cX16_matchOne 46 = .ok (.istore 9, 2) := by decide +kernel
theorem dX16_matchOne_48 : decode cX16_matchOne 48 = .ok (.iload 9, 2) := by decide +kernel
theorem dX16_matchOne_50 : decode cX16_matchOne 50 = .ok (.aload_n 0, 1) := by decide +kernel
theorem dX16_matchOne_51 : decode cX16_matchOne 51 = .ok (.aload_n 0, 1) := by decide +kernel
theorem dX16_matchOne_52 : decode cX16_matchOne 52 = .ok (.getfield 356, 3) := by decide +kernel
theorem dX16_matchOne_55 : decode cX16_matchOne 55 = .ok (.aload_n 0, 1) := by decide +kernel
theorem dX16_matchOne_56 : decode cX16_matchOne 56 = .ok (.getfield 356, 3) := by decide +kernel
theorem dX16_matchOne_59 : decode cX16_matchOne 59 = .ok (.getfield 219, 3) := by decide +kernel
theorem dX16_matchOne_62 : decode cX16_matchOne 62 = .ok (.bipush 8, 2) := by decide +kernel
theorem dX16_matchOne_64 : decode cX16_matchOne 64 = .ok (.iload_n 1, 1) := by decide +kernel
theorem dX16_matchOne_65 : decode cX16_matchOne 65 = .ok (.imul, 1) := by decide +kernel
theorem dX16_matchOne_66 : decode cX16_matchOne 66 = .ok (.iload 9, 2) := by decide +kernel
theorem dX16_matchOne_68 : decode cX16_matchOne 68 = .ok (.iadd, 1) := by decide +kernel
theorem dX16_matchOne_69 : decode cX16_matchOne 69 = .ok (.iaload, 1) := by decide +kernel
theorem dX16_matchOne_70 : decode cX16_matchOne 70 = .ok (.lload 4, 2) := by decide +kernel
theorem dX16_matchOne_72 : decode cX16_matchOne 72 = .ok (.aload_n 0, 1) := by decide +kernel
theorem dX16_matchOne_73 : decode cX16_matchOne 73 = .ok (.getfield 542, 3) := by decide +kernel
theorem dX16_matchOne_76 : decode cX16_matchOne 76 = .ok (.iconst 0, 1) := by decide +kernel
theorem dX16_matchOne_77 : decode cX16_matchOne 77 = .ok (.invokevirtual 545, 3) := by decide +kernel
theorem dX16_matchOne_80 : decode cX16_matchOne 80 = .ok (.lconst 0, 1) := by decide +kernel
theorem dX16_matchOne_81 : decode cX16_matchOne 81 = .ok (.lcmp, 1) := by decide +kernel
theorem dX16_matchOne_82 : decode cX16_matchOne 82 = .ok (.ifCond .eq 7, 3) := by decide +kernel
theorem dX16_matchOne_85 : decode cX16_matchOne 85 = .ok (.iconst 1, 1) := by decide +kernel
theorem dX16_matchOne_86 : decode cX16_matchOne 86 = .ok (.goto 4, 3) := by decide +kernel
theorem dX16_matchOne_89 : decode cX16_matchOne 89 = .ok (.iconst 0, 1) := by decide +kernel
theorem dX16_matchOne_90 : decode cX16_matchOne 90 = .ok (.iadd, 1) := by decide +kernel
theorem dX16_matchOne_91 : decode cX16_matchOne 91 = .ok (.istore 9, 2) := by decide +kernel
theorem dX16_matchOne_93 : decode cX16_matchOne 93 = .ok (.iload 9, 2) := by decide +kernel
theorem dX16_matchOne_95 : decode cX16_matchOne 95 = .ok (.aload_n 0, 1) := by decide +kernel
theorem dX16_matchOne_96 : decode cX16_matchOne 96 = .ok (.getfield 356, 3) := by decide +kernel
theorem dX16_matchOne_99 : decode cX16_matchOne 99 = .ok (.getfield 222, 3) := by decide +kernel
theorem dX16_matchOne_102 : decode cX16_matchOne 102 = .ok (.iload_n 1, 1) := by decide +kernel
theorem dX16_matchOne_103 : decode cX16_matchOne 103 = .ok (.iaload, 1) := by decide +kernel
theorem dX16_matchOne_104 : decode cX16_matchOne 104 = .ok (.if_icmp .ne 69, 3) := by decide +kernel
theorem dX16_matchOne_107 : decode cX16_matchOne 107 = .ok (.iconst 0, 1) := by decide +kernel
theorem dX16_matchOne_108 : decode cX16_matchOne 108 = .ok (.istore 10, 2) := by decide +kernel
theorem dX16_matchOne_110 : decode cX16_matchOne 110 = .ok (.iload 10, 2) := by decide +kernel
theorem dX16_matchOne_112 : decode cX16_matchOne 112 = .ok (.bipush 8, 2) := by decide +kernel
theorem dX16_matchOne_114 : decode cX16_matchOne 114 = .ok (.if_icmp .ge 17, 3) := by decide +kernel
theorem dX16_matchOne_117 : decode cX16_matchOne 117 = .ok (.aload_n 0, 1) := by decide +kernel
theorem dX16_matchOne_118 : decode cX16_matchOne 118 = .ok (.getfield 578, 3) := by decide +kernel
theorem dX16_matchOne_121 : decode cX16_matchOne 121 = .ok (.iload 10, 2) := by decide +kernel
theorem dX16_matchOne_123 : decode cX16_matchOne 123 = .ok (.lconst 0, 1) := by decide +kernel
theorem dX16_matchOne_124 : decode cX16_matchOne 124 = .ok (.lastore, 1) := by decide +kernel
theorem dX16_matchOne_125 : decode cX16_matchOne 125 = .ok (.iinc 10 1, 3) := by decide +kernel
theorem dX16_matchOne_128 : decode cX16_matchOne 128 = .ok (.goto (-18), 3) := by decide +kernel
theorem dX16_matchOne_131 : decode cX16_matchOne 131 = .ok (.aload_n 0, 1) := by decide +kernel
theorem dX16_matchOne_132 : decode cX16_matchOne 132 = .ok (.getfield 578, 3) := by decide +kernel
theorem dX16_matchOne_135 : decode cX16_matchOne 135 = .ok (.iconst 0, 1) := by decide +kernel
theorem dX16_matchOne_136 : decode cX16_matchOne 136 = .ok (.lload_n 2, 1) := by decide +kernel
theorem dX16_matchOne_137 : decode cX16_matchOne 137 = .ok (.lastore, 1) := by decide +kernel
theorem dX16_matchOne_138 : decode cX16_matchOne 138 = .ok (.aload_n 0, 1) := by decide +kernel
theorem dX16_matchOne_139 : decode cX16_matchOne 139 = .ok (.getfield 578, 3) := by decide +kernel
theorem dX16_matchOne_142 : decode cX16_matchOne 142 = .ok (.iconst 1, 1) := by decide +kernel
theorem dX16_matchOne_143 : decode cX16_matchOne 143 = .ok (.aload_n 0, 1) := by decide +kernel
theorem dX16_matchOne_144 : decode cX16_matchOne 144 = .ok (.getfield 907, 3) := by decide +kernel
theorem dX16_matchOne_147 : decode cX16_matchOne 147 = .ok (.iload 8, 2) := by decide +kernel
theorem dX16_matchOne_149 : decode cX16_matchOne 149 = .ok (.laload, 1) := by decide +kernel
theorem dX16_matchOne_150 : decode cX16_matchOne 150 = .ok (.lastore, 1) := by decide +kernel
theorem dX16_matchOne_151 : decode cX16_matchOne 151 = .ok (.aload_n 0, 1) := by decide +kernel
theorem dX16_matchOne_152 : decode cX16_matchOne 152 = .ok (.getfield 578, 3) := by decide +kernel
theorem dX16_matchOne_155 : decode cX16_matchOne 155 = .ok (.iconst 2, 1) := by decide +kernel
theorem dX16_matchOne_156 : decode cX16_matchOne 156 = .ok (.lload 4, 2) := by decide +kernel
theorem dX16_matchOne_158 : decode cX16_matchOne 158 = .ok (.lastore, 1) := by decide +kernel
theorem dX16_matchOne_159 : decode cX16_matchOne 159 = .ok (.aload_n 0, 1) := by decide +kernel
theorem dX16_matchOne_160 : decode cX16_matchOne 160 = .ok (.lload 4, 2) := by decide +kernel
theorem dX16_matchOne_162 : decode cX16_matchOne 162 = .ok (.aload_n 0, 1) := by decide +kernel
theorem dX16_matchOne_163 : decode cX16_matchOne 163 = .ok (.getfield 578, 3) := by decide +kernel
theorem dX16_matchOne_166 : decode cX16_matchOne 166 = .ok (.iconst 0, 1) := by decide +kernel
theorem dX16_matchOne_167 : decode cX16_matchOne 167 = .ok (.invokevirtual 870, 3) := by decide +kernel
theorem dX16_matchOne_170 : decode cX16_matchOne 170 = .ok (.goto 29, 3) := by decide +kernel
theorem dX16_matchOne_173 : decode cX16_matchOne 173 = .ok (.aload_n 0, 1) := by decide +kernel
theorem dX16_matchOne_174 : decode cX16_matchOne 174 = .ok (.getfield 907, 3) := by decide +kernel
theorem dX16_matchOne_177 : decode cX16_matchOne 177 = .ok (.iload 7, 2) := by decide +kernel
theorem dX16_matchOne_179 : decode cX16_matchOne 179 = .ok (.aload_n 0, 1) := by decide +kernel
theorem dX16_matchOne_180 : decode cX16_matchOne 180 = .ok (.getfield 907, 3) := by decide +kernel
theorem dX16_matchOne_183 : decode cX16_matchOne 183 = .ok (.iload 8, 2) := by decide +kernel
theorem dX16_matchOne_185 : decode cX16_matchOne 185 = .ok (.laload, 1) := by decide +kernel
theorem dX16_matchOne_186 : decode cX16_matchOne 186 = .ok (.lastore, 1) := by decide +kernel
theorem dX16_matchOne_187 : decode cX16_matchOne 187 = .ok (.aload_n 0, 1) := by decide +kernel
theorem dX16_matchOne_188 : decode cX16_matchOne 188 = .ok (.getfield 910, 3) := by decide +kernel
theorem dX16_matchOne_191 : decode cX16_matchOne 191 = .ok (.iload 7, 2) := by decide +kernel
theorem dX16_matchOne_193 : decode cX16_matchOne 193 = .ok (.iload 9, 2) := by decide +kernel
theorem dX16_matchOne_195 : decode cX16_matchOne 195 = .ok (.iastore, 1) := by decide +kernel
theorem dX16_matchOne_196 : decode cX16_matchOne 196 = .ok (.iinc 7 1, 3) := by decide +kernel
theorem dX16_matchOne_199 : decode cX16_matchOne 199 = .ok (.iinc 8 1, 3) := by decide +kernel
theorem dX16_matchOne_202 : decode cX16_matchOne 202 = .ok (.goto (-196), 3) := by decide +kernel
theorem dX16_matchOne_205 : decode cX16_matchOne 205 = .ok (.aload_n 0, 1) := by decide +kernel
theorem dX16_matchOne_206 : decode cX16_matchOne 206 = .ok (.aload_n 0, 1) := by decide +kernel
theorem dX16_matchOne_207 : decode cX16_matchOne 207 = .ok (.getfield 356, 3) := by decide +kernel
theorem dX16_matchOne_210 : decode cX16_matchOne 210 = .ok (.aload_n 0, 1) := by decide +kernel
theorem dX16_matchOne_211 : decode cX16_matchOne 211 = .ok (.getfield 356, 3) := by decide +kernel
theorem dX16_matchOne_214 : decode cX16_matchOne 214 = .ok (.getfield 219, 3) := by decide +kernel
theorem dX16_matchOne_217 : decode cX16_matchOne 217 = .ok (.bipush 8, 2) := by decide +kernel
theorem dX16_matchOne_219 : decode cX16_matchOne 219 = .ok (.iload_n 1, 1) := by decide +kernel
theorem dX16_matchOne_220 : decode cX16_matchOne 220 = .ok (.imul, 1) := by decide +kernel
theorem dX16_matchOne_221 : decode cX16_matchOne 221 = .ok (.iaload, 1) := by decide +kernel
theorem dX16_matchOne_222 : decode cX16_matchOne 222 = .ok (.lload 4, 2) := by decide +kernel
theorem dX16_matchOne_224 : decode cX16_matchOne 224 = .ok (.aload_n 0, 1) := by decide +kernel
theorem dX16_matchOne_225 : decode cX16_matchOne 225 = .ok (.getfield 542, 3) := by decide +kernel
theorem dX16_matchOne_228 : decode cX16_matchOne 228 = .ok (.iconst 0, 1) := by decide +kernel
theorem dX16_matchOne_229 : decode cX16_matchOne 229 = .ok (.invokevirtual 545, 3) := by decide +kernel
theorem dX16_matchOne_232 : decode cX16_matchOne 232 = .ok (.lconst 0, 1) := by decide +kernel
theorem dX16_matchOne_233 : decode cX16_matchOne 233 = .ok (.lcmp, 1) := by decide +kernel
theorem dX16_matchOne_234 : decode cX16_matchOne 234 = .ok (.ifCond .eq 23, 3) := by decide +kernel
theorem dX16_matchOne_237 : decode cX16_matchOne 237 = .ok (.aload_n 0, 1) := by decide +kernel
theorem dX16_matchOne_238 : decode cX16_matchOne 238 = .ok (.getfield 907, 3) := by decide +kernel
theorem dX16_matchOne_241 : decode cX16_matchOne 241 = .ok (.iload 7, 2) := by decide +kernel
theorem dX16_matchOne_243 : decode cX16_matchOne 243 = .ok (.lload 4, 2) := by decide +kernel
theorem dX16_matchOne_245 : decode cX16_matchOne 245 = .ok (.lastore, 1) := by decide +kernel
theorem dX16_matchOne_246 : decode cX16_matchOne 246 = .ok (.aload_n 0, 1) := by decide +kernel
theorem dX16_matchOne_247 : decode cX16_matchOne 247 = .ok (.getfield 910, 3) := by decide +kernel
theorem dX16_matchOne_250 : decode cX16_matchOne 250 = .ok (.iload 7, 2) := by decide +kernel
theorem dX16_matchOne_252 : decode cX16_matchOne 252 = .ok (.iconst 1, 1) := by decide +kernel
theorem dX16_matchOne_253 : decode cX16_matchOne 253 = .ok (.iastore, 1) := by decide +kernel
theorem dX16_matchOne_254 : decode cX16_matchOne 254 = .ok (.iinc 7 1, 3) := by decide +kernel
theorem dX16_matchOne_257 : decode cX16_matchOne 257 = .ok (.iload 7, 2) := by decide +kernel
theorem dX16_matchOne_259 : decode cX16_matchOne 259 = .ok (.ireturn, 1) := by decide +kernel
set_option maxRecDepth 20000 in
theorem a_X16_matchOne_257 {Q : Sg → Int → Prop} {X : Sg → String → Prop} (K : MC R p s m args c cX16_matchOne 11 RX16 D cA tys A n0 s0 2 56 []) (hQ : HQI p l e R s m args below meth c cX16_matchOne D cA A n0 s0 QM dm ra jx rm Q) (hX : HX p l e R s m args below meth c 11 D cA A n0 s0 QM dm ra jx rm X) : ∀ (σ : Sg) (v7 : Int) (g7 : rng v7), w_X16_matchOne_257 ra jx rm Q X σ v7 → RG σ → Shp dm ra jx rm σ → JJ p l e R s m args below meth c 11 D cA A n0 s0 QM σ 257 [(0, .ref rm), (7, .int (i32 v7))] [] := by
  intro σ v7 g7 h hGσ hS H locs ls hH hl hc
  have B := K.1
  unfold w_X16_matchOne_257 at h
  refine lv_iload B.1 B.2.1 dX16_matchOne_257 (lv_at hl 1 rfl) ?_
  exact hQ _ _ _ _ _ _ g7 dX16_matchOne_259 hH hc h hGσ hS
set_option maxRecDepth 20000 in
theorem a_X16_matchOne_237 {Q : Sg → Int → Prop} {X : Sg → String → Prop} (K : MC R p s m args c cX16_matchOne 11 RX16 D cA tys A n0 s0 2 56 []) (hQ : HQI p l e R s m args below meth c cX16_matchOne D cA A n0 s0 QM dm ra jx rm Q) (hX : HX p l e R s m args below meth c 11 D cA A n0 s0 QM dm ra jx rm X) : ∀ (σ : Sg) (v4 : Int64) (v7 : Int) (g7 : rng v7), w_X16_matchOne_237 ra jx rm Q X σ v4 v7 → RG σ → Shp dm ra jx rm σ → JJ p l e R s m args below meth c 11 D cA A n0 s0 QM σ 237 [(0, .ref rm), (4, .long v4), (7, .int (i32 v7))] [] := by
  intro σ v4 v7 g7 h hGσ hS H locs ls hH hl hc
  have B := K.1
  unfold w_X16_matchOne_237 at h
  refine lv_aload_n B.1 B.2.1 dX16_matchOne_237 rfl (lv_at hl 0 rfl) ?_
  refine r_arr B hH hS 121 (kd := 101) (n := 4000) (by decide) (by decide) wf_X16_907 rfl rfl dX16_matchOne_238 ?_
  refine lv_iload B.1 B.2.1 dX16_matchOne_241 (lv_at hl 2 rfl) ?_
  refine lv_lload B.1 B.2.1 dX16_matchOne_243 (lv_at hl 1 rfl) ?_
  obtain ⟨q1, h⟩ := h
  obtain ⟨σ35, eσ35⟩ : ∃ z, z = pJ σ (ra 121) v7.toNat v4 := ⟨_, rfl⟩
  have h := h σ35 eσ35
  refine x_last B K.2.1 hH (hS.ar (k := 121) (kd := 101) (n := 4000) (by decide)) (by decide) q1 dX16_matchOne_245 (fun H locs hH => ?_)
  have hH : Hd D cA A s (pJ σ (ra 121) v7.toNat v4) H locs := hH
  rw [← eσ35] at hH
  have hGσ35 : RG σ35 := by rw [eσ35]; exact hGσ.pJ
  have hS : Shp dm ra jx rm σ35 := by rw [eσ35]; exact hS
  have hc : CB n0 s0 σ35 := by rw [eσ35]; exact hc
  rw [show gc σ = gc σ35 by rw [eσ35], show gs σ = gs σ35 by rw [eσ35]]
  refine lv_aload_n B.1 B.2.1 dX16_matchOne_246 rfl (lv_at hl 0 rfl) ?_
  refine r_arr B hH hS 122 (kd := 100) (n := 4000) (by decide) (by decide) wf_X16_910 rfl rfl dX16_matchOne_247 ?_
  refine lv_iload B.1 B.2.1 dX16_matchOne_250 (lv_at hl 2 rfl) ?_
  refine lv_iconst (v := i32 1) B.1 B.2.1 dX16_matchOne_252 (by decide) ?_
  obtain ⟨q3, h⟩ := h
  obtain ⟨σ36, eσ36⟩ : ∃ z, z = pI σ35 (ra 122) v7.toNat 1 := ⟨_, rfl⟩
  have h := h σ36 eσ36
  refine x_iast B K.2.1 hH (hS.ar (k := 122) (kd := 100) (n := 4000) (by decide)) (by decide) q3 dX16_matchOne_253 (fun H locs hH => ?_)
  have hH : Hd D cA A s (pI σ35 (ra 122) v7.toNat 1) H locs := hH
  rw [← eσ36] at hH
  have hGσ36 : RG σ36 := by rw [eσ36]; exact hGσ35.pI (by unfold rng; omega)
  have hS : Shp dm ra jx rm σ36 := by rw [eσ36]; exact hS
  have hc : CB n0 s0 σ36 := by rw [eσ36]; exact hc
  rw [show gc σ35 = gc σ36 by rw [eσ36], show gs σ35 = gs σ36 by rw [eσ36]]
  obtain ⟨q5, h⟩ := h
  refine lv_iinc (k := 2) (v := i32 (v7 + 1)) (lv' := [(7, .int (i32 (v7 + 1))), (0, .ref rm), (4, .long v4)]) B.1 B.2.1 dX16_matchOne_254 hl rfl (i32_add _ _) (by decide) rfl (fun ls hl => ?_)
  exact a_X16_matchOne_257 K hQ hX _ _ q5 h hGσ36 hS _ _ _ hH (lv_sub (l' := [(0, .ref rm), (7, .int (i32 (v7 + 1)))]) hl [1, 0] rfl) hc
set_option maxRecDepth 20000 in
theorem a_X16_matchOne_205 {Q : Sg → Int → Prop} {X : Sg → String → Prop} (K : MC R p s m args c cX16_matchOne 11 RX16 D cA tys A n0 s0 2 56 []) (hQ : HQI p l e R s m args below meth c cX16_matchOne D cA A n0 s0 QM dm ra jx rm Q) (hX : HX p l e R s m args below meth c 11 D cA A n0 s0 QM dm ra jx rm X) : ∀ (σ : Sg) (v1 : Int) (v4 : Int64) (v7 : Int) (g1 : rng v1) (g7 : rng v7), w_X16_matchOne_205 ra jx rm Q X σ v1 v4 v7 → RG σ → Shp dm ra jx rm σ → JJ p l e R s m args below meth c 11 D cA A n0 s0 QM σ 205 [(0, .ref rm), (1, .int (i32 v1)), (4, .long v4), (7, .int (i32 v7))] [] := by
  intro σ v1 v4 v7 g1 g7 h hGσ hS H locs ls hH hl hc
  have B := K.1
  unfold w_X16_matchOne_205 at h
  refine lv_aload_n B.1 B.2.1 dX16_matchOne_205 rfl (lv_at hl 0 rfl) ?_
  refine lv_aload_n B.1 B.2.1 dX16_matchOne_206 rfl (lv_at hl 0 rfl) ?_
  refine r_getp B hH hS 17 (by decide) wf_X16_356 rfl rfl dX16_matchOne_207 ?_
  refine lv_aload_n B.1 B.2.1 dX16_matchOne_210 rfl (lv_at hl 0 rfl) ?_
  refine r_getp B hH hS 17 (by decide) wf_X16_356 rfl rfl dX16_matchOne_211 ?_
  obtain ⟨a37, ea37, ja37, h⟩ := h
  refine W.eq (g2 := F0 m 214 ls [.ref a37, va_rf (gP σ rm 17), .ref rm]) (by rw [ea37]; rfl) ?_
  refine n_arr B hH hS ja37 13 (kd := 100) (n := 128) (by decide) (by decide) (List.mem_of_getElem? (i := 13) rfl) rfl dX16_matchOne_214 ?_
  refine lv_bipush (v := i32 8) B.1 B.2.1 dX16_matchOne_217 (by decide) ?_
  refine lv_iload_n B.1 B.2.1 dX16_matchOne_219 rfl (lv_at hl 1 rfl) ?_
  obtain ⟨q2, h⟩ := h
  refine lv_imul B.1 B.2.1 dX16_matchOne_220 ?_
  rw [i32_mul]
  obtain ⟨q3, h⟩ := h
  refine x_iald B K.2.1 hH (hS.ja ja37 (k := 13) (kd := 100) (n := 128) (by decide)) (by decide) q3 dX16_matchOne_221 ?_
  refine lv_lload B.1 B.2.1 dX16_matchOne_222 (lv_at hl 2 rfl) ?_
  refine lv_aload_n B.1 B.2.1 dX16_matchOne_224 rfl (lv_at hl 0 rfl) ?_
  refine r_arr B hH hS 81 (kd := 101) (n := 8) (by decide) (by decide) wf_X16_542 rfl rfl dX16_matchOne_225 ?_
  refine lv_iconst (v := i32 0) B.1 B.2.1 dX16_matchOne_228 (by decide) ?_
  refine c_V B hH hl hc K.2.2.1 (C := RX16) (T := TX16) (N := 123) (ci := 16) (As := [va_rf (gP σ rm 17), .int (i32 (gI σ (jx a37 13) (8 * v1).toNat)), .long v4, va_rf (some (ra 81)), .int (i32 0)]) (ok_X16_worth K.2.1 σ (gP σ rm 17) (gI σ (jx a37 13) (8 * v1).toNat) v4 (some (ra 81)) 0 (hGσ _ _) (by unfold rng; omega) hGσ hS h) wc_X16_545 5 hd_X16_worth ⟨Nat.le_trans (Nat.le_of_ble_eq_true rfl) K.2.2.2.1, Nat.le_trans (Nat.le_of_ble_eq_true rfl) K.2.2.2.2.1⟩ hS.1.1 hS.1.2 (by decide) rfl rfl (rest := []) rfl (Nat.le_of_ble_eq_true rfl) dX16_matchOne_229 (fun σ38 w hq => ?_) (fun σ9 E9 hx9 => hX σ9 E9 _ _ _ (tb_out K.2.2.2.2.2 rfl) hx9.1 hx9.2.1 hx9.2.2)
  obtain ⟨r39, rfl, h, hGσ38, hS⟩ := hq
  intro H locs ls hH hl hc
  refine W.eq (g2 := F0 m 232 ls [.long r39]) (rfl) ?_
  try dsimp only at h
  refine lv_lconst (v := 0) B.1 B.2.1 dX16_matchOne_232 (by decide) ?_
  refine W.lcmp B.1 B.2.1 dX16_matchOne_233 ?_
  refine lv_if_eq (tgt := 257) B.1 B.2.1 dX16_matchOne_234 (by decide) (fun h9 => ?_) (fun h9 => ?_)
  · rw [if_pos ((lg_cmp_eq _ _).mp h9)] at h
    exact a_X16_matchOne_257 K hQ hX _ _ g7 h hGσ38 hS _ _ _ hH (lv_sub (l' := [(0, .ref rm), (7, .int (i32 v7))]) hl [0, 3] rfl) hc
  · rw [if_neg (fun q => h9 ((lg_cmp_eq _ _).mpr q))] at h
    exact a_X16_matchOne_237 K hQ hX _ _ _ g7 h hGσ38 hS _ _ _ hH (lv_sub (l' := [(0, .ref rm), (4, .long v4), (7, .int (i32 v7))]) hl [0, 2, 3] rfl) hc
set_option maxRecDepth 20000 in
theorem a_X16_matchOne_199 {Q : Sg → Int → Prop} {X : Sg → String → Prop} (K : MC R p s m args c cX16_matchOne 11 RX16 D cA tys A n0 s0 2 56 []) (hQ : HQI p l e R s m args below meth c cX16_matchOne D cA A n0 s0 QM dm ra jx rm Q) (hX : HX p l e R s m args below meth c 11 D cA A n0 s0 QM dm ra jx rm X) {K6 : Sg → Int → Int64 → Int64 → Int → Int → Int → Prop} (hK6 : ∀ (σ : Sg) (v1 : Int) (v2 : Int64) (v4 : Int64) (v6 : Int) (v7 : Int) (v8 : Int) (g1 : rng v1) (g6 : rng v6) (g7 : rng v7) (g8 : rng v8), K6 σ v1 v2 v4 v6 v7 v8 → RG σ → Shp dm ra jx rm σ → JJ p l e R s m args below meth c 11 D cA A n0 s0 QM σ 6 [(0, .ref rm), (1, .int (i32 v1)), (2, .long v2), (4, .long v4), (6, .int (i32 v6)), (7, .int (i32 v7)), (8, .int (i32 v8))] []) : ∀ (σ : Sg) (v1 : Int) (v2 : Int64) (v4 : Int64) (v6 : Int) (v7 : Int) (v8 : Int) (g1 : rng v1) (g6 : rng v6) (g7 : rng v7) (g8 : rng v8), w_X16_matchOne_199 ra jx rm K6 Q X σ v1 v2 v4 v6 v7 v8 → RG σ → Shp dm ra jx rm σ → JJ p l e R s m args below meth c 11 D cA A n0 s0 QM σ 199 [(0, .ref rm), (1, .int (i32 v1)), (2, .long v2), (4, .long v4), (6, .int (i32 v6)), (7, .int (i32 v7)), (8, .int (i32 v8))] [] := by
  intro σ v1 v2 v4 v6 v7 v8 g1 g6 g7 g8 h hGσ hS H locs ls hH hl hc
  have B := K.1
  unfold w_X16_matchOne_199 at h
  obtain ⟨q1, h⟩ := h
  refine lv_iinc (k := 6) (v := i32 (v8 + 1)) (lv' := [(8, .int (i32 (v8 + 1))), (0, .ref rm), (1, .int (i32 v1)), (2, .long v2), (4, .long v4), (6, .int (i32 v6)), (7, .int (i32 v7))]) B.1 B.2.1 dX16_matchOne_199 hl rfl (i32_add _ _) (by decide) rfl (fun ls hl => ?_)
  refine lv_goto (tgt := 6) B.1 B.2.1 dX16_matchOne_202 (by decide) ?_
  exact hK6 _ _ _ _ _ _ _ g1 g6 g7 q1 h hGσ hS _ _ _ hH (lv_sub (l' := [(0, .ref rm), (1, .int (i32 v1)), (2, .long v2), (4, .long v4), (6, .int (i32 v6)), (7, .int (i32 v7)), (8, .int (i32 (v8 + 1)))]) hl [1, 2, 3, 4, 5, 6, 0] rfl) hc
set_option maxRecDepth 20000 in
theorem a_X16_matchOne_173 {Q : Sg → Int → Prop} {X : Sg → String → Prop} (K : MC R p s m args c cX16_matchOne 11 RX16 D cA tys A n0 s0 2 56 []) (hQ : HQI p l e R s m args below meth c cX16_matchOne D cA A n0 s0 QM dm ra jx rm Q) (hX : HX p l e R s m args below meth c 11 D cA A n0 s0 QM dm ra jx rm X) {K6 : Sg → Int → Int64 → Int64 → Int → Int → Int → Prop} (hK6 : ∀ (σ : Sg) (v1 : Int) (v2 : Int64) (v4 : Int64) (v6 : Int) (v7 : Int) (v8 : Int) (g1 : rng v1) (g6 : rng v6) (g7 : rng v7) (g8 : rng v8), K6 σ v1 v2 v4 v6 v7 v8 → RG σ → Shp dm ra jx rm σ → JJ p l e R s m args below meth c 11 D cA A n0 s0 QM σ 6 [(0, .ref rm), (1, .int (i32 v1)), (2, .long v2), (4, .long v4), (6, .int (i32 v6)), (7, .int (i32 v7)), (8, .int (i32 v8))] []) : ∀ (σ : Sg) (v1 : Int) (v2 : Int64) (v4 : Int64) (v6 : Int) (v7 : Int) (v8 : Int) (v9 : Int) (g1 : rng v1) (g6 : rng v6) (g7 : rng v7) (g8 : rng v8) (g9 : rng v9), w_X16_matchOne_173 ra jx rm K6 Q X σ v1 v2 v4 v6 v7 v8 v9 → RG σ → Shp dm ra jx rm σ → JJ p l e R s m args below meth c 11 D cA A n0 s0 QM σ 173 [(0, .ref rm), (1, .int (i32 v1)), (2, .long v2), (4, .long v4), (6, .int (i32 v6)), (7, .int (i32 v7)), (8, .int (i32 v8)), (9, .int (i32 v9))] [] := by
  intro σ v1 v2 v4 v6 v7 v8 v9 g1 g6 g7 g8 g9 h hGσ hS H locs ls hH hl hc
  have B := K.1
  unfold w_X16_matchOne_173 at h
  refine lv_aload_n B.1 B.2.1 dX16_matchOne_173 rfl (lv_at hl 0 rfl) ?_
  refine r_arr B hH hS 121 (kd := 101) (n := 4000) (by decide) (by decide) wf_X16_907 rfl rfl dX16_matchOne_174 ?_
  refine lv_iload B.1 B.2.1 dX16_matchOne_177 (lv_at hl 5 rfl) ?_
  refine lv_aload_n B.1 B.2.1 dX16_matchOne_179 rfl (lv_at hl 0 rfl) ?_
  refine r_arr B hH hS 121 (kd := 101) (n := 4000) (by decide) (by decide) wf_X16_907 rfl rfl dX16_matchOne_180 ?_
  refine lv_iload B.1 B.2.1 dX16_matchOne_183 (lv_at hl 6 rfl) ?_
  obtain ⟨q1, h⟩ := h
  refine x_lald B K.2.1 hH (hS.ar (k := 121) (kd := 101) (n := 4000) (by decide)) (by decide) q1 dX16_matchOne_185 ?_
  obtain ⟨q2, h⟩ := h
  obtain ⟨σ40, eσ40⟩ : ∃ z, z = pJ σ (ra 121) v7.toNat (gJ σ (ra 121) v8.toNat) := ⟨_, rfl⟩
  have h := h σ40 eσ40
  refine x_last B K.2.1 hH (hS.ar (k := 121) (kd := 101) (n := 4000) (by decide)) (by decide) q2 dX16_matchOne_186 (fun H locs hH => ?_)
  have hH : Hd D cA A s (pJ σ (ra 121) v7.toNat (gJ σ (ra 121) v8.toNat)) H locs := hH
  rw [← eσ40] at hH
  have hGσ40 : RG σ40 := by rw [eσ40]; exact hGσ.pJ
  have hS : Shp dm ra jx rm σ40 := by rw [eσ40]; exact hS
  have hc : CB n0 s0 σ40 := by rw [eσ40]; exact hc
  rw [show gc σ = gc σ40 by rw [eσ40], show gs σ = gs σ40 by rw [eσ40]]
  refine lv_aload_n B.1 B.2.1 dX16_matchOne_187 rfl (lv_at hl 0 rfl) ?_
  refine r_arr B hH hS 122 (kd := 100) (n := 4000) (by decide) (by decide) wf_X16_910 rfl rfl dX16_matchOne_188 ?_
  refine lv_iload B.1 B.2.1 dX16_matchOne_191 (lv_at hl 5 rfl) ?_
  refine lv_iload B.1 B.2.1 dX16_matchOne_193 (lv_at hl 7 rfl) ?_
  obtain ⟨q4, h⟩ := h
  obtain ⟨σ41, eσ41⟩ : ∃ z, z = pI σ40 (ra 122) v7.toNat v9 := ⟨_, rfl⟩
  have h := h σ41 eσ41
  refine x_iast B K.2.1 hH (hS.ar (k := 122) (kd := 100) (n := 4000) (by decide)) (by decide) q4 dX16_matchOne_195 (fun H locs hH => ?_)
  have hH : Hd D cA A s (pI σ40 (ra 122) v7.toNat v9) H locs := hH
  rw [← eσ41] at hH
  have hGσ41 : RG σ41 := by rw [eσ41]; exact hGσ40.pI g9
  have hS : Shp dm ra jx rm σ41 := by rw [eσ41]; exact hS
  have hc : CB n0 s0 σ41 := by rw [eσ41]; exact hc
  rw [show gc σ40 = gc σ41 by rw [eσ41], show gs σ40 = gs σ41 by rw [eσ41]]
  obtain ⟨q6, h⟩ := h
  refine lv_iinc (k := 5) (v := i32 (v7 + 1)) (lv' := [(7, .int (i32 (v7 + 1))), (0, .ref rm), (1, .int (i32 v1)), (2, .long v2), (4, .long v4), (6, .int (i32 v6)), (8, .int (i32 v8)), (9, .int (i32 v9))]) B.1 B.2.1 dX16_matchOne_196 hl rfl (i32_add _ _) (by decide) rfl (fun ls hl => ?_)
  exact a_X16_matchOne_199 K hQ hX hK6 _ _ _ _ _ _ _ g1 g6 q6 g8 h hGσ41 hS _ _ _ hH (lv_sub (l' := [(0, .ref rm), (1, .int (i32 v1)), (2, .long v2), (4, .long v4), (6, .int (i32 v6)), (7, .int (i32 (v7 + 1))), (8, .int (i32 v8))]) hl [1, 2, 3, 4, 5, 0, 6] rfl) hc
set_option maxRecDepth 20000 in
theorem a_X16_matchOne_131 {Q : Sg → Int → Prop} {X : Sg → String → Prop} (K : MC R p s m args c cX16_matchOne 11 RX16 D cA tys A n0 s0 2 56 []) (hQ : HQI p l e R s m args below meth c cX16_matchOne D cA A n0 s0 QM dm ra jx rm Q) (hX : HX p l e R s m args below meth c 11 D cA A n0 s0 QM dm ra jx rm X) {K6 : Sg → Int → Int64 → Int64 → Int → Int → Int → Prop} (hK6 : ∀ (σ : Sg) (v1 : Int) (v2 : Int64) (v4 : Int64) (v6 : Int) (v7 : Int) (v8 : Int) (g1 : rng v1) (g6 : rng v6) (g7 : rng v7) (g8 : rng v8), K6 σ v1 v2 v4 v6 v7 v8 → RG σ → Shp dm ra jx rm σ → JJ p l e R s m args below meth c 11 D cA A n0 s0 QM σ 6 [(0, .ref rm), (1, .int (i32 v1)), (2, .long v2), (4, .long v4), (6, .int (i32 v6)), (7, .int (i32 v7)), (8, .int (i32 v8))] []) : ∀ (σ : Sg) (v1 : Int) (v2 : Int64) (v4 : Int64) (v6 : Int) (v7 : Int) (v8 : Int) (g1 : rng v1) (g6 : rng v6) (g7 : rng v7) (g8 : rng v8), w_X16_matchOne_131 ra jx rm K6 Q X σ v1 v2 v4 v6 v7 v8 → RG σ → Shp dm ra jx rm σ → JJ p l e R s m args below meth c 11 D cA A n0 s0 QM σ 131 [(0, .ref rm), (1, .int (i32 v1)), (2, .long v2), (4, .long v4), (6, .int (i32 v6)), (7, .int (i32 v7)), (8, .int (i32 v8))] [] := by
  intro σ v1 v2 v4 v6 v7 v8 g1 g6 g7 g8 h hGσ hS H locs ls hH hl hc
  have B := K.1
  unfold w_X16_matchOne_131 at h
  refine lv_aload_n B.1 B.2.1 dX16_matchOne_131 rfl (lv_at hl 0 rfl) ?_
  refine r_arr B hH hS 82 (kd := 101) (n := 16) (by decide) (by decide) wf_X16_578 rfl rfl dX16_matchOne_132 ?_
  refine lv_iconst (v := i32 0) B.1 B.2.1 dX16_matchOne_135 (by decide) ?_
  refine lv_lload_n B.1 B.2.1 dX16_matchOne_136 rfl (lv_at hl 2 rfl) ?_
  obtain ⟨σ42, eσ42⟩ : ∃ z, z = pJ σ (ra 82) 0 v2 := ⟨_, rfl⟩
  have h := h σ42 eσ42
  refine x_last B K.2.1 hH (hS.ar (k := 82) (kd := 101) (n := 16) (by decide)) (by decide) (by decide) dX16_matchOne_137 (fun H locs hH => ?_)
  have hH : Hd D cA A s (pJ σ (ra 82) 0 v2) H locs := hH
  rw [← eσ42] at hH
  have hGσ42 : RG σ42 := by rw [eσ42]; exact hGσ.pJ
  have hS : Shp dm ra jx rm σ42 := by rw [eσ42]; exact hS
  have hc : CB n0 s0 σ42 := by rw [eσ42]; exact hc
  rw [show gc σ = gc σ42 by rw [eσ42], show gs σ = gs σ42 by rw [eσ42]]
  refine lv_aload_n B.1 B.2.1 dX16_matchOne_138 rfl (lv_at hl 0 rfl) ?_
  refine r_arr B hH hS 82 (kd := 101) (n := 16) (by decide) (by decide) wf_X16_578 rfl rfl dX16_matchOne_139 ?_
  refine lv_iconst (v := i32 1) B.1 B.2.1 dX16_matchOne_142 (by decide) ?_
  refine lv_aload_n B.1 B.2.1 dX16_matchOne_143 rfl (lv_at hl 0 rfl) ?_
  refine r_arr B hH hS 121 (kd := 101) (n := 4000) (by decide) (by decide) wf_X16_907 rfl rfl dX16_matchOne_144 ?_
  refine lv_iload B.1 B.2.1 dX16_matchOne_147 (lv_at hl 6 rfl) ?_
  obtain ⟨q2, h⟩ := h
  refine x_lald B K.2.1 hH (hS.ar (k := 121) (kd := 101) (n := 4000) (by decide)) (by decide) q2 dX16_matchOne_149 ?_
  obtain ⟨σ43, eσ43⟩ : ∃ z, z = pJ σ42 (ra 82) 1 (gJ σ42 (ra 121) v8.toNat) := ⟨_, rfl⟩
  have h := h σ43 eσ43
  refine x_last B K.2.1 hH (hS.ar (k := 82) (kd := 101) (n := 16) (by decide)) (by decide) (by decide) dX16_matchOne_150 (fun H locs hH => ?_)
  have hH : Hd D cA A s (pJ σ42 (ra 82) 1 (gJ σ42 (ra 121) v8.toNat)) H locs := hH
  rw [← eσ43] at hH
  have hGσ43 : RG σ43 := by rw [eσ43]; exact hGσ42.pJ
  have hS : Shp dm ra jx rm σ43 := by rw [eσ43]; exact hS
  have hc : CB n0 s0 σ43 := by rw [eσ43]; exact hc
  rw [show gc σ42 = gc σ43 by rw [eσ43], show gs σ42 = gs σ43 by rw [eσ43]]
  refine lv_aload_n B.1 B.2.1 dX16_matchOne_151 rfl (lv_at hl 0 rfl) ?_
  refine r_arr B hH hS 82 (kd := 101) (n := 16) (by decide) (by decide) wf_X16_578 rfl rfl dX16_matchOne_152 ?_
  refine lv_iconst (v := i32 2) B.1 B.2.1 dX16_matchOne_155 (by decide) ?_
  refine lv_lload B.1 B.2.1 dX16_matchOne_156 (lv_at hl 3 rfl) ?_
  obtain ⟨σ44, eσ44⟩ : ∃ z, z = pJ σ43 (ra 82) 2 v4 := ⟨_, rfl⟩
  have h := h σ44 eσ44
  refine x_last B K.2.1 hH (hS.ar (k := 82) (kd := 101) (n := 16) (by decide)) (by decide) (by decide) dX16_matchOne_158 (fun H locs hH => ?_)
  have hH : Hd D cA A s (pJ σ43 (ra 82) 2 v4) H locs := hH
  rw [← eσ44] at hH
  have hGσ44 : RG σ44 := by rw [eσ44]; exact hGσ43.pJ
  have hS : Shp dm ra jx rm σ44 := by rw [eσ44]; exact hS
  have hc : CB n0 s0 σ44 := by rw [eσ44]; exact hc
  rw [show gc σ43 = gc σ44 by rw [eσ44], show gs σ43 = gs σ44 by rw [eσ44]]
  refine lv_aload_n B.1 B.2.1 dX16_matchOne_159 rfl (lv_at hl 0 rfl) ?_
  refine lv_lload B.1 B.2.1 dX16_matchOne_160 (lv_at hl 3 rfl) ?_
  refine lv_aload_n B.1 B.2.1 dX16_matchOne_162 rfl (lv_at hl 0 rfl) ?_
  refine r_arr B hH hS 82 (kd := 101) (n := 16) (by decide) (by decide) wf_X16_578 rfl rfl dX16_matchOne_163 ?_
  refine lv_iconst (v := i32 0) B.1 B.2.1 dX16_matchOne_166 (by decide) ?_
  refine c_V B hH hl hc K.2.2.1 (C := RX16) (T := TX16) (N := 123) (ci := 16) (As := [.long v4, va_rf (some (ra 82)), .int (i32 0)]) (ok_X16_pass K.2.1 σ44 v4 (some (ra 82)) 0 (by unfold rng; omega) hGσ44 hS h) wc_X16_870 3 hd_X16_pass ⟨Nat.le_trans (Nat.le_of_ble_eq_true rfl) K.2.2.2.1, Nat.le_trans (Nat.le_of_ble_eq_true rfl) K.2.2.2.2.1⟩ hS.1.1 hS.1.2 (by decide) rfl rfl (rest := []) rfl (Nat.le_of_ble_eq_true rfl) dX16_matchOne_167 (fun σ45 w hq => ?_) (fun σ9 E9 hx9 => hX σ9 E9 _ _ _ (tb_out K.2.2.2.2.2 rfl) hx9.1 hx9.2.1 hx9.2.2)
  obtain ⟨rfl, h, hGσ45, hS⟩ := hq
  intro H locs ls hH hl hc
  refine W.eq (g2 := F0 m 170 ls []) (rfl) ?_
  try dsimp only at h
  refine lv_goto (tgt := 199) B.1 B.2.1 dX16_matchOne_170 (by decide) ?_
  exact a_X16_matchOne_199 K hQ hX hK6 _ _ _ _ _ _ _ g1 g6 g7 g8 h hGσ45 hS _ _ _ hH (lv_sub (l' := [(0, .ref rm), (1, .int (i32 v1)), (2, .long v2), (4, .long v4), (6, .int (i32 v6)), (7, .int (i32 v7)), (8, .int (i32 v8))]) hl [0, 1, 2, 3, 4, 5, 6] rfl) hc
set_option maxRecDepth 20000 in
theorem a_X16_matchOne_117 {Q : Sg → Int → Prop} {X : Sg → String → Prop} (K : MC R p s m args c cX16_matchOne 11 RX16 D cA tys A n0 s0 2 56 []) (hQ : HQI p l e R s m args below meth c cX16_matchOne D cA A n0 s0 QM dm ra jx rm Q) (hX : HX p l e R s m args below meth c 11 D cA A n0 s0 QM dm ra jx rm X) {K6 : Sg → Int → Int64 → Int64 → Int → Int → Int → Prop} (hK6 : ∀ (σ : Sg) (v1 : Int) (v2 : Int64) (v4 : Int64) (v6 : Int) (v7 : Int) (v8 : Int) (g1 : rng v1) (g6 : rng v6) (g7 : rng v7) (g8 : rng v8), K6 σ v1 v2 v4 v6 v7 v8 → RG σ → Shp dm ra jx rm σ → JJ p l e R s m args below meth c 11 D cA A n0 s0 QM σ 6 [(0, .ref rm), (1, .int (i32 v1)), (2, .long v2), (4, .long v4), (6, .int (i32 v6)), (7, .int (i32 v7)), (8, .int (i32 v8))] []) {K110 : Sg → Int → Int64 → Int64 → Int → Int → Int → Int → Prop} (hK110 : ∀ (σ : Sg) (v1 : Int) (v2 : Int64) (v4 : Int64) (v6 : Int) (v7 : Int) (v8 : Int) (v10 : Int) (g1 : rng v1) (g6 : rng v6) (g7 : rng v7) (g8 : rng v8) (g10 : rng v10), K110 σ v1 v2 v4 v6 v7 v8 v10 → RG σ → Shp dm ra jx rm σ → JJ p l e R s m args below meth c 11 D cA A n0 s0 QM σ 110 [(0, .ref rm), (1, .int (i32 v1)), (2, .long v2), (4, .long v4), (6, .int (i32 v6)), (7, .int (i32 v7)), (8, .int (i32 v8)), (10, .int (i32 v10))] []) : ∀ (σ : Sg) (v1 : Int) (v2 : Int64) (v4 : Int64) (v6 : Int) (v7 : Int) (v8 : Int) (v10 : Int) (g1 : rng v1) (g6 : rng v6) (g7 : rng v7) (g8 : rng v8) (g10 : rng v10), w_X16_matchOne_117 ra jx rm K6 K110 Q X σ v1 v2 v4 v6 v7 v8 v10 → RG σ → Shp dm ra jx rm σ → JJ p l e R s m args below meth c 11 D cA A n0 s0 QM σ 117 [(0, .ref rm), (1, .int (i32 v1)), (2, .long v2), (4, .long v4), (6, .int (i32 v6)), (7, .int (i32 v7)), (8, .int (i32 v8)), (10, .int (i32 v10))] [] := by
  intro σ v1 v2 v4 v6 v7 v8 v10 g1 g6 g7 g8 g10 h hGσ hS H locs ls hH hl hc
  have B := K.1
  unfold w_X16_matchOne_117 at h
  refine lv_aload_n B.1 B.2.1 dX16_matchOne_117 rfl (lv_at hl 0 rfl) ?_
  refine r_arr B hH hS 82 (kd := 101) (n := 16) (by decide) (by decide) wf_X16_578 rfl rfl dX16_matchOne_118 ?_
  refine lv_iload B.1 B.2.1 dX16_matchOne_121 (lv_at hl 7 rfl) ?_
  refine lv_lconst (v := 0) B.1 B.2.1 dX16_matchOne_123 (by decide) ?_
  obtain ⟨q1, h⟩ := h
  obtain ⟨σ46, eσ46⟩ : ∃ z, z = pJ σ (ra 82) v10.toNat 0 := ⟨_, rfl⟩
  have h := h σ46 eσ46
  refine x_last B K.2.1 hH (hS.ar (k := 82) (kd := 101) (n := 16) (by decide)) (by decide) q1 dX16_matchOne_124 (fun H locs hH => ?_)
  have hH : Hd D cA A s (pJ σ (ra 82) v10.toNat 0) H locs := hH
  rw [← eσ46] at hH
  have hGσ46 : RG σ46 := by rw [eσ46]; exact hGσ.pJ
  have hS : Shp dm ra jx rm σ46 := by rw [eσ46]; exact hS
  have hc : CB n0 s0 σ46 := by rw [eσ46]; exact hc
  rw [show gc σ = gc σ46 by rw [eσ46], show gs σ = gs σ46 by rw [eσ46]]
  obtain ⟨q3, h⟩ := h
  refine lv_iinc (k := 7) (v := i32 (v10 + 1)) (lv' := [(10, .int (i32 (v10 + 1))), (0, .ref rm), (1, .int (i32 v1)), (2, .long v2), (4, .long v4), (6, .int (i32 v6)), (7, .int (i32 v7)), (8, .int (i32 v8))]) B.1 B.2.1 dX16_matchOne_125 hl rfl (i32_add _ _) (by decide) rfl (fun ls hl => ?_)
  refine lv_goto (tgt := 110) B.1 B.2.1 dX16_matchOne_128 (by decide) ?_
  exact hK110 _ _ _ _ _ _ _ _ g1 g6 g7 g8 q3 h hGσ46 hS _ _ _ hH (lv_sub (l' := [(0, .ref rm), (1, .int (i32 v1)), (2, .long v2), (4, .long v4), (6, .int (i32 v6)), (7, .int (i32 v7)), (8, .int (i32 v8)), (10, .int (i32 (v10 + 1)))]) hl [1, 2, 3, 4, 5, 6, 7, 0] rfl) hc
set_option maxRecDepth 20000 in
theorem a_X16_matchOne_110 {Q : Sg → Int → Prop} {X : Sg → String → Prop} (K : MC R p s m args c cX16_matchOne 11 RX16 D cA tys A n0 s0 2 56 []) (hQ : HQI p l e R s m args below meth c cX16_matchOne D cA A n0 s0 QM dm ra jx rm Q) (hX : HX p l e R s m args below meth c 11 D cA A n0 s0 QM dm ra jx rm X) {K6 : Sg → Int → Int64 → Int64 → Int → Int → Int → Prop} (hK6 : ∀ (σ : Sg) (v1 : Int) (v2 : Int64) (v4 : Int64) (v6 : Int) (v7 : Int) (v8 : Int) (g1 : rng v1) (g6 : rng v6) (g7 : rng v7) (g8 : rng v8), K6 σ v1 v2 v4 v6 v7 v8 → RG σ → Shp dm ra jx rm σ → JJ p l e R s m args below meth c 11 D cA A n0 s0 QM σ 6 [(0, .ref rm), (1, .int (i32 v1)), (2, .long v2), (4, .long v4), (6, .int (i32 v6)), (7, .int (i32 v7)), (8, .int (i32 v8))] []) {K110 : Sg → Int → Int64 → Int64 → Int → Int → Int → Int → Prop} (hK110 : ∀ (σ : Sg) (v1 : Int) (v2 : Int64) (v4 : Int64) (v6 : Int) (v7 : Int) (v8 : Int) (v10 : Int) (g1 : rng v1) (g6 : rng v6) (g7 : rng v7) (g8 : rng v8) (g10 : rng v10), K110 σ v1 v2 v4 v6 v7 v8 v10 → RG σ → Shp dm ra jx rm σ → JJ p l e R s m args below meth c 11 D cA A n0 s0 QM σ 110 [(0, .ref rm), (1, .int (i32 v1)), (2, .long v2), (4, .long v4), (6, .int (i32 v6)), (7, .int (i32 v7)), (8, .int (i32 v8)), (10, .int (i32 v10))] []) : ∀ (σ : Sg) (v1 : Int) (v2 : Int64) (v4 : Int64) (v6 : Int) (v7 : Int) (v8 : Int) (v10 : Int) (g1 : rng v1) (g6 : rng v6) (g7 : rng v7) (g8 : rng v8) (g10 : rng v10), w_X16_matchOne_110 ra jx rm K6 K110 Q X σ v1 v2 v4 v6 v7 v8 v10 → RG σ → Shp dm ra jx rm σ → JJ p l e R s m args below meth c 11 D cA A n0 s0 QM σ 110 [(0, .ref rm), (1, .int (i32 v1)), (2, .long v2), (4, .long v4), (6, .int (i32 v6)), (7, .int (i32 v7)), (8, .int (i32 v8)), (10, .int (i32 v10))] [] := by
  intro σ v1 v2 v4 v6 v7 v8 v10 g1 g6 g7 g8 g10 h hGσ hS H locs ls hH hl hc
  have B := K.1
  unfold w_X16_matchOne_110 at h
  refine lv_iload B.1 B.2.1 dX16_matchOne_110 (lv_at hl 7 rfl) ?_
  refine lv_bipush (v := i32 8) B.1 B.2.1 dX16_matchOne_112 (by decide) ?_
  refine lv_icmp_ge (tgt := 131) B.1 B.2.1 dX16_matchOne_114 (by decide) (fun h9 => ?_) (fun h9 => ?_)
  · rw [if_pos ((i32_le (by unfold rng; omega) g10).mp h9)] at h
    exact a_X16_matchOne_131 K hQ hX hK6 _ _ _ _ _ _ _ g1 g6 g7 g8 h hGσ hS _ _ _ hH (lv_sub (l' := [(0, .ref rm), (1, .int (i32 v1)), (2, .long v2), (4, .long v4), (6, .int (i32 v6)), (7, .int (i32 v7)), (8, .int (i32 v8))]) hl [0, 1, 2, 3, 4, 5, 6] rfl) hc
  · rw [if_neg (fun q => h9 ((i32_le (by unfold rng; omega) g10).mpr q))] at h
    exact a_X16_matchOne_117 K hQ hX hK6 hK110 _ _ _ _ _ _ _ _ g1 g6 g7 g8 g10 h hGσ hS _ _ _ hH (lv_sub (l' := [(0, .ref rm), (1, .int (i32 v1)), (2, .long v2), (4, .long v4), (6, .int (i32 v6)), (7, .int (i32 v7)), (8, .int (i32 v8)), (10, .int (i32 v10))]) hl [0, 1, 2, 3, 4, 5, 6, 7] rfl) hc
theorem al_X16_matchOne_110 {Q : Sg → Int → Prop} {X : Sg → String → Prop} (K : MC R p s m args c cX16_matchOne 11 RX16 D cA tys A n0 s0 2 56 []) (hQ : HQI p l e R s m args below meth c cX16_matchOne D cA A n0 s0 QM dm ra jx rm Q) (hX : HX p l e R s m args below meth c 11 D cA A n0 s0 QM dm ra jx rm X) {K6 : Sg → Int → Int64 → Int64 → Int → Int → Int → Prop} (hK6 : ∀ (σ : Sg) (v1 : Int) (v2 : Int64) (v4 : Int64) (v6 : Int) (v7 : Int) (v8 : Int) (g1 : rng v1) (g6 : rng v6) (g7 : rng v7) (g8 : rng v8), K6 σ v1 v2 v4 v6 v7 v8 → RG σ → Shp dm ra jx rm σ → JJ p l e R s m args below meth c 11 D cA A n0 s0 QM σ 6 [(0, .ref rm), (1, .int (i32 v1)), (2, .long v2), (4, .long v4), (6, .int (i32 v6)), (7, .int (i32 v7)), (8, .int (i32 v8))] []) : ∀ (n : Nat), ∀ (σ : Sg) (v1 : Int) (v2 : Int64) (v4 : Int64) (v6 : Int) (v7 : Int) (v8 : Int) (v10 : Int) (g1 : rng v1) (g6 : rng v6) (g7 : rng v7) (g8 : rng v8) (g10 : rng v10), wl_X16_matchOne_110 ra jx rm K6 Q X n σ v1 v2 v4 v6 v7 v8 v10 → RG σ → Shp dm ra jx rm σ → JJ p l e R s m args below meth c 11 D cA A n0 s0 QM σ 110 [(0, .ref rm), (1, .int (i32 v1)), (2, .long v2), (4, .long v4), (6, .int (i32 v6)), (7, .int (i32 v7)), (8, .int (i32 v8)), (10, .int (i32 v10))] [] := by
  intro n
  induction n with
  | zero => intro σ v1 v2 v4 v6 v7 v8 v10 g1 g6 g7 g8 g10 h; exact h.elim
  | succ n ih => exact fun σ v1 v2 v4 v6 v7 v8 v10 g1 g6 g7 g8 g10 h => a_X16_matchOne_110 K hQ hX hK6 ih σ v1 v2 v4 v6 v7 v8 v10 g1 g6 g7 g8 g10 h
set_option maxRecDepth 20000 in
theorem a_X16_matchOne_107 {Q : Sg → Int → Prop} {X : Sg → String → Prop} (K : MC R p s m args c cX16_matchOne 11 RX16 D cA tys A n0 s0 2 56 []) (hQ : HQI p l e R s m args below meth c cX16_matchOne D cA A n0 s0 QM dm ra jx rm Q) (hX : HX p l e R s m args below meth c 11 D cA A n0 s0 QM dm ra jx rm X) {K6 : Sg → Int → Int64 → Int64 → Int → Int → Int → Prop} (hK6 : ∀ (σ : Sg) (v1 : Int) (v2 : Int64) (v4 : Int64) (v6 : Int) (v7 : Int) (v8 : Int) (g1 : rng v1) (g6 : rng v6) (g7 : rng v7) (g8 : rng v8), K6 σ v1 v2 v4 v6 v7 v8 → RG σ → Shp dm ra jx rm σ → JJ p l e R s m args below meth c 11 D cA A n0 s0 QM σ 6 [(0, .ref rm), (1, .int (i32 v1)), (2, .long v2), (4, .long v4), (6, .int (i32 v6)), (7, .int (i32 v7)), (8, .int (i32 v8))] []) : ∀ (σ : Sg) (v1 : Int) (v2 : Int64) (v4 : Int64) (v6 : Int) (v7 : Int) (v8 : Int) (g1 : rng v1) (g6 : rng v6) (g7 : rng v7) (g8 : rng v8), w_X16_matchOne_107 ra jx rm K6 Q X σ v1 v2 v4 v6 v7 v8 → RG σ → Shp dm ra jx rm σ → JJ p l e R s m args below meth c 11 D cA A n0 s0 QM σ 107 [(0, .ref rm), (1, .int (i32 v1)), (2, .long v2), (4, .long v4), (6, .int (i32 v6)), (7, .int (i32 v7)), (8, .int (i32 v8))] [] := by
  intro σ v1 v2 v4 v6 v7 v8 g1 g6 g7 g8 h hGσ hS H locs ls hH hl hc
  have B := K.1
  unfold w_X16_matchOne_107 at h
  refine lv_iconst (v := i32 0) B.1 B.2.1 dX16_matchOne_107 (by decide) ?_
  refine lv_istore (lv' := [(10, .int (i32 0)), (0, .ref rm), (1, .int (i32 v1)), (2, .long v2), (4, .long v4), (6, .int (i32 v6)), (7, .int (i32 v7)), (8, .int (i32 v8))]) B.1 B.2.1 dX16_matchOne_108 hl (by decide) rfl (fun ls hl => ?_)
  obtain ⟨n9, h⟩ := h
  exact al_X16_matchOne_110 K hQ hX hK6 n9 _ _ _ _ _ _ _ _ g1 g6 g7 g8 (by unfold rng; omega) h hGσ hS _ _ _ hH (lv_sub (l' := [(0, .ref rm), (1, .int (i32 v1)), (2, .long v2), (4, .long v4), (6, .int (i32 v6)), (7, .int (i32 v7)), (8, .int (i32 v8)), (10, .int (i32 0))]) hl [1, 2, 3, 4, 5, 6, 7, 0] rfl) hc
set_option maxRecDepth 20000 in
theorem a_X16_matchOne_90 {Q : Sg → Int → Prop} {X : Sg → String → Prop} (K : MC R p s m args c cX16_matchOne 11 RX16 D cA tys A n0 s0 2 56 []) (hQ : HQI p l e R s m args below meth c cX16_matchOne D cA A n0 s0 QM dm ra jx rm Q) (hX : HX p l e R s m args below meth c 11 D cA A n0 s0 QM dm ra jx rm X) {K6 : Sg → Int → Int64 → Int64 → Int → Int → Int → Prop} (hK6 : ∀ (σ : Sg) (v1 : Int) (v2 : Int64) (v4 : Int64) (v6 : Int) (v7 : Int) (v8 : Int) (g1 : rng v1) (g6 : rng v6) (g7 : rng v7) (g8 : rng v8), K6 σ v1 v2 v4 v6 v7 v8 → RG σ → Shp dm ra jx rm σ → JJ p l e R s m args below meth c 11 D cA A n0 s0 QM σ 6 [(0, .ref rm), (1, .int (i32 v1)), (2, .long v2), (4, .long v4), (6, .int (i32 v6)), (7, .int (i32 v7)), (8, .int (i32 v8))] []) : ∀ (σ : Sg) (v1 : Int) (v2 : Int64) (v4 : Int64) (v6 : Int) (v7 : Int) (v8 : Int) (u0 : Int) (u1 : Int) (g1 : rng v1) (g6 : rng v6) (g7 : rng v7) (g8 : rng v8) (gu0 : rng u0) (gu1 : rng u1), w_X16_matchOne_90 ra jx rm K6 Q X σ v1 v2 v4 v6 v7 v8 u0 u1 → RG σ → Shp dm ra jx rm σ → JJ p l e R s m args below meth c 11 D cA A n0 s0 QM σ 90 [(0, .ref rm), (1, .int (i32 v1)), (2, .long v2), (4, .long v4), (6, .int (i32 v6)), (7, .int (i32 v7)), (8, .int (i32 v8))] [.int (i32 u0), .int (i32 u1)] := by
  intro σ v1 v2 v4 v6 v7 v8 u0 u1 g1 g6 g7 g8 gu0 gu1 h hGσ hS H locs ls hH hl hc
  have B := K.1
  unfold w_X16_matchOne_90 at h
  obtain ⟨q1, h⟩ := h
  refine lv_iadd B.1 B.2.1 dX16_matchOne_90 ?_
  rw [i32_add]
  refine lv_istore (lv' := [(9, .int (i32 (u1 + u0))), (0, .ref rm), (1, .int (i32 v1)), (2, .long v2), (4, .long v4), (6, .int (i32 v6)), (7, .int (i32 v7)), (8, .int (i32 v8))]) B.1 B.2.1 dX16_matchOne_91 hl (by decide) rfl (fun ls hl => ?_)
  refine lv_iload B.1 B.2.1 dX16_matchOne_93 (lv_at hl 0 rfl) ?_
  refine lv_aload_n B.1 B.2.1 dX16_matchOne_95 rfl (lv_at hl 1 rfl) ?_
  refine r_getp B hH hS 17 (by decide) wf_X16_356 rfl rfl dX16_matchOne_96 ?_
  obtain ⟨a47, ea47, ja47, h⟩ := h
  refine W.eq (g2 := F0 m 99 ls [.ref a47, .int (i32 (u1 + u0))]) (by rw [ea47]; rfl) ?_
  refine n_arr B hH hS ja47 12 (kd := 100) (n := 16) (by decide) (by decide) (List.mem_of_getElem? (i := 12) rfl) rfl dX16_matchOne_99 ?_
  refine lv_iload_n B.1 B.2.1 dX16_matchOne_102 rfl (lv_at hl 2 rfl) ?_
  obtain ⟨q3, h⟩ := h
  refine x_iald B K.2.1 hH (hS.ja ja47 (k := 12) (kd := 100) (n := 16) (by decide)) (by decide) q3 dX16_matchOne_103 ?_
  refine lv_icmp_ne (tgt := 173) B.1 B.2.1 dX16_matchOne_104 (by decide) (fun h9 => ?_) (fun h9 => ?_)
  · rw [if_pos (fun q => h9 ((i32_eq q1 (hGσ _ _)).mpr q))] at h
    exact a_X16_matchOne_173 K hQ hX hK6 _ _ _ _ _ _ _ _ g1 g6 g7 g8 q1 h hGσ hS _ _ _ hH (lv_sub (l' := [(0, .ref rm), (1, .int (i32 v1)), (2, .long v2), (4, .long v4), (6, .int (i32 v6)), (7, .int (i32 v7)), (8, .int (i32 v8)), (9, .int (i32 (u1 + u0)))]) hl [1, 2, 3, 4, 5, 6, 7, 0] rfl) hc
  · rw [if_neg (fun q => q ((i32_eq q1 (hGσ _ _)).mp h9))] at h
    exact a_X16_matchOne_107 K hQ hX hK6 _ _ _ _ _ _ _ g1 g6 g7 g8 h hGσ hS _ _ _ hH (lv_sub (l' := [(0, .ref rm), (1, .int (i32 v1)), (2, .long v2), (4, .long v4), (6, .int (i32 v6)), (7, .int (i32 v7)), (8, .int (i32 v8))]) hl [1, 2, 3, 4, 5, 6, 7] rfl) hc
set_option maxRecDepth 20000 in
theorem a_X16_matchOne_89 {Q : Sg → Int → Prop} {X : Sg → String → Prop} (K : MC R p s m args c cX16_matchOne 11 RX16 D cA tys A n0 s0 2 56 []) (hQ : HQI p l e R s m args below meth c cX16_matchOne D cA A n0 s0 QM dm ra jx rm Q) (hX : HX p l e R s m args below meth c 11 D cA A n0 s0 QM dm ra jx rm X) {K6 : Sg → Int → Int64 → Int64 → Int → Int → Int → Prop} (hK6 : ∀ (σ : Sg) (v1 : Int) (v2 : Int64) (v4 : Int64) (v6 : Int) (v7 : Int) (v8 : Int) (g1 : rng v1) (g6 : rng v6) (g7 : rng v7) (g8 : rng v8), K6 σ v1 v2 v4 v6 v7 v8 → RG σ → Shp dm ra jx rm σ → JJ p l e R s m args below meth c 11 D cA A n0 s0 QM σ 6 [(0, .ref rm), (1, .int (i32 v1)), (2, .long v2), (4, .long v4), (6, .int (i32 v6)), (7, .int (i32 v7)), (8, .int (i32 v8))] []) : ∀ (σ : Sg) (v1 : Int) (v2 : Int64) (v4 : Int64) (v6 : Int) (v7 : Int) (v8 : Int) (u0 : Int) (g1 : rng v1) (g6 : rng v6) (g7 : rng v7) (g8 : rng v8) (gu0 : rng u0), w_X16_matchOne_89 ra jx rm K6 Q X σ v1 v2 v4 v6 v7 v8 u0 → RG σ → Shp dm ra jx rm σ → JJ p l e R s m args below meth c 11 D cA A n0 s0 QM σ 89 [(0, .ref rm), (1, .int (i32 v1)), (2, .long v2), (4, .long v4), (6, .int (i32 v6)), (7, .int (i32 v7)), (8, .int (i32 v8))] [.int (i32 u0)] := by
  intro σ v1 v2 v4 v6 v7 v8 u0 g1 g6 g7 g8 gu0 h hGσ hS H locs ls hH hl hc
  have B := K.1
  unfold w_X16_matchOne_89 at h
  refine lv_iconst (v := i32 0) B.1 B.2.1 dX16_matchOne_89 (by decide) ?_
  exact a_X16_matchOne_90 K hQ hX hK6 _ _ _ _ _ _ _ _ _ g1 g6 g7 g8 (by unfold rng; omega) gu0 h hGσ hS _ _ _ hH (lv_sub (l' := [(0, .ref rm), (1, .int (i32 v1)), (2, .long v2), (4, .long v4), (6, .int (i32 v6)), (7, .int (i32 v7)), (8, .int (i32 v8))]) hl [0, 1, 2, 3, 4, 5, 6] rfl) hc
set_option maxRecDepth 20000 in
theorem a_X16_matchOne_85 {Q : Sg → Int → Prop} {X : Sg → String → Prop} (K : MC R p s m args c cX16_matchOne 11 RX16 D cA tys A n0 s0 2 56 []) (hQ : HQI p l e R s m args below meth c cX16_matchOne D cA A n0 s0 QM dm ra jx rm Q) (hX : HX p l e R s m args below meth c 11 D cA A n0 s0 QM dm ra jx rm X) {K6 : Sg → Int → Int64 → Int64 → Int → Int → Int → Prop} (hK6 : ∀ (σ : Sg) (v1 : Int) (v2 : Int64) (v4 : Int64) (v6 : Int) (v7 : Int) (v8 : Int) (g1 : rng v1) (g6 : rng v6) (g7 : rng v7) (g8 : rng v8), K6 σ v1 v2 v4 v6 v7 v8 → RG σ → Shp dm ra jx rm σ → JJ p l e R s m args below meth c 11 D cA A n0 s0 QM σ 6 [(0, .ref rm), (1, .int (i32 v1)), (2, .long v2), (4, .long v4), (6, .int (i32 v6)), (7, .int (i32 v7)), (8, .int (i32 v8))] []) : ∀ (σ : Sg) (v1 : Int) (v2 : Int64) (v4 : Int64) (v6 : Int) (v7 : Int) (v8 : Int) (u0 : Int) (g1 : rng v1) (g6 : rng v6) (g7 : rng v7) (g8 : rng v8) (gu0 : rng u0), w_X16_matchOne_85 ra jx rm K6 Q X σ v1 v2 v4 v6 v7 v8 u0 → RG σ → Shp dm ra jx rm σ → JJ p l e R s m args below meth c 11 D cA A n0 s0 QM σ 85 [(0, .ref rm), (1, .int (i32 v1)), (2, .long v2), (4, .long v4), (6, .int (i32 v6)), (7, .int (i32 v7)), (8, .int (i32 v8))] [.int (i32 u0)] := by
  intro σ v1 v2 v4 v6 v7 v8 u0 g1 g6 g7 g8 gu0 h hGσ hS H locs ls hH hl hc
  have B := K.1
  unfold w_X16_matchOne_85 at h
  refine lv_iconst (v := i32 1) B.1 B.2.1 dX16_matchOne_85 (by decide) ?_
  refine lv_goto (tgt := 90) B.1 B.2.1 dX16_matchOne_86 (by decide) ?_
  exact a_X16_matchOne_90 K hQ hX hK6 _ _ _ _ _ _ _ _ _ g1 g6 g7 g8 (by unfold rng; omega) gu0 h hGσ hS _ _ _ hH (lv_sub (l' := [(0, .ref rm), (1, .int (i32 v1)), (2, .long v2), (4, .long v4), (6, .int (i32 v6)), (7, .int (i32 v7)), (8, .int (i32 v8))]) hl [0, 1, 2, 3, 4, 5, 6] rfl) hc
set_option maxRecDepth 20000 in
theorem a_X16_matchOne_39 {Q : Sg → Int → Prop} {X : Sg → String → Prop} (K : MC R p s m args c cX16_matchOne 11 RX16 D cA tys A n0 s0 2 56 []) (hQ : HQI p l e R s m args below meth c cX16_matchOne D cA A n0 s0 QM dm ra jx rm Q) (hX : HX p l e R s m args below meth c 11 D cA A n0 s0 QM dm ra jx rm X) {K6 : Sg → Int → Int64 → Int64 → Int → Int → Int → Prop} (hK6 : ∀ (σ : Sg) (v1 : Int) (v2 : Int64) (v4 : Int64) (v6 : Int) (v7 : Int) (v8 : Int) (g1 : rng v1) (g6 : rng v6) (g7 : rng v7) (g8 : rng v8), K6 σ v1 v2 v4 v6 v7 v8 → RG σ → Shp dm ra jx rm σ → JJ p l e R s m args below meth c 11 D cA A n0 s0 QM σ 6 [(0, .ref rm), (1, .int (i32 v1)), (2, .long v2), (4, .long v4), (6, .int (i32 v6)), (7, .int (i32 v7)), (8, .int (i32 v8))] []) : ∀ (σ : Sg) (v1 : Int) (v2 : Int64) (v4 : Int64) (v6 : Int) (v7 : Int) (v8 : Int) (g1 : rng v1) (g6 : rng v6) (g7 : rng v7) (g8 : rng v8), w_X16_matchOne_39 ra jx rm K6 Q X σ v1 v2 v4 v6 v7 v8 → RG σ → Shp dm ra jx rm σ → JJ p l e R s m args below meth c 11 D cA A n0 s0 QM σ 39 [(0, .ref rm), (1, .int (i32 v1)), (2, .long v2), (4, .long v4), (6, .int (i32 v6)), (7, .int (i32 v7)), (8, .int (i32 v8))] [] := by
  intro σ v1 v2 v4 v6 v7 v8 g1 g6 g7 g8 h hGσ hS H locs ls hH hl hc
  have B := K.1
  unfold w_X16_matchOne_39 at h
  refine lv_aload_n B.1 B.2.1 dX16_matchOne_39 rfl (lv_at hl 0 rfl) ?_
  refine r_arr B hH hS 122 (kd := 100) (n := 4000) (by decide) (by decide) wf_X16_910 rfl rfl dX16_matchOne_40 ?_
  refine lv_iload B.1 B.2.1 dX16_matchOne_43 (lv_at hl 6 rfl) ?_
  obtain ⟨q1, h⟩ := h
  refine x_iald B K.2.1 hH (hS.ar (k := 122) (kd := 100) (n := 4000) (by decide)) (by decide) q1 dX16_matchOne_45 ?_
  refine lv_istore (lv' := [(9, .int (i32 (gI σ (ra 122) v8.toNat))), (0, .ref rm), (1, .int (i32 v1)), (2, .long v2), (4, .long v4), (6, .int (i32 v6)), (7, .int (i32 v7)), (8, .int (i32 v8))]) B.1 B.2.1 dX16_matchOne_46 hl (by decide) rfl (fun ls hl => ?_)
  refine lv_iload B.1 B.2.1 dX16_matchOne_48 (lv_at hl 0 rfl) ?_
  refine lv_aload_n B.1 B.2.1 dX16_matchOne_50 rfl (lv_at hl 1 rfl) ?_
  refine lv_aload_n B.1 B.2.1 dX16_matchOne_51 rfl (lv_at hl 1 rfl) ?_
  refine r_getp B hH hS 17 (by decide) wf_X16_356 rfl rfl dX16_matchOne_52 ?_
  refine lv_aload_n B.1 B.2.1 dX16_matchOne_55 rfl (lv_at hl 1 rfl) ?_
  refine r_getp B hH hS 17 (by decide) wf_X16_356 rfl rfl dX16_matchOne_56 ?_
  obtain ⟨a48, ea48, ja48, h⟩ := h
  refine W.eq (g2 := F0 m 59 ls [.ref a48, va_rf (gP σ rm 17), .ref rm, .int (i32 (gI σ (ra 122) v8.toNat))]) (by rw [ea48]; rfl) ?_
  refine n_arr B hH hS ja48 13 (kd := 100) (n := 128) (by decide) (by decide) (List.mem_of_getElem? (i := 13) rfl) rfl dX16_matchOne_59 ?_
  refine lv_bipush (v := i32 8) B.1 B.2.1 dX16_matchOne_62 (by decide) ?_
  refine lv_iload_n B.1 B.2.1 dX16_matchOne_64 rfl (lv_at hl 2 rfl) ?_
  obtain ⟨q3, h⟩ := h
  refine lv_imul B.1 B.2.1 dX16_matchOne_65 ?_
  rw [i32_mul]
  refine lv_iload B.1 B.2.1 dX16_matchOne_66 (lv_at hl 0 rfl) ?_
  obtain ⟨q4, h⟩ := h
  refine lv_iadd B.1 B.2.1 dX16_matchOne_68 ?_
  rw [i32_add]
  obtain ⟨q5, h⟩ := h
  refine x_iald B K.2.1 hH (hS.ja ja48 (k := 13) (kd := 100) (n := 128) (by decide)) (by decide) q5 dX16_matchOne_69 ?_
  refine lv_lload B.1 B.2.1 dX16_matchOne_70 (lv_at hl 4 rfl) ?_
  refine lv_aload_n B.1 B.2.1 dX16_matchOne_72 rfl (lv_at hl 1 rfl) ?_
  refine r_arr B hH hS 81 (kd := 101) (n := 8) (by decide) (by decide) wf_X16_542 rfl rfl dX16_matchOne_73 ?_
  refine lv_iconst (v := i32 0) B.1 B.2.1 dX16_matchOne_76 (by decide) ?_
  refine c_V B hH hl hc K.2.2.1 (C := RX16) (T := TX16) (N := 123) (ci := 16) (As := [va_rf (gP σ rm 17), .int (i32 (gI σ (jx a48 13) ((8 * v1) + (gI σ (ra 122) v8.toNat)).toNat)), .long v4, va_rf (some (ra 81)), .int (i32 0)]) (ok_X16_worth K.2.1 σ (gP σ rm 17) (gI σ (jx a48 13) ((8 * v1) + (gI σ (ra 122) v8.toNat)).toNat) v4 (some (ra 81)) 0 (hGσ _ _) (by unfold rng; omega) hGσ hS h) wc_X16_545 5 hd_X16_worth ⟨Nat.le_trans (Nat.le_of_ble_eq_true rfl) K.2.2.2.1, Nat.le_trans (Nat.le_of_ble_eq_true rfl) K.2.2.2.2.1⟩ hS.1.1 hS.1.2 (by decide) rfl rfl (rest := [.int (i32 (gI σ (ra 122) v8.toNat))]) rfl (Nat.le_of_ble_eq_true rfl) dX16_matchOne_77 (fun σ49 w hq => ?_) (fun σ9 E9 hx9 => hX σ9 E9 _ _ _ (tb_out K.2.2.2.2.2 rfl) hx9.1 hx9.2.1 hx9.2.2)
  obtain ⟨r50, rfl, h, hGσ49, hS⟩ := hq
  intro H locs ls hH hl hc
  refine W.eq (g2 := F0 m 80 ls [.long r50, .int (i32 (gI σ (ra 122) v8.toNat))]) (rfl) ?_
  try dsimp only at h
  refine lv_lconst (v := 0) B.1 B.2.1 dX16_matchOne_80 (by decide) ?_
  refine W.lcmp B.1 B.2.1 dX16_matchOne_81 ?_
  refine lv_if_eq (tgt := 89) B.1 B.2.1 dX16_matchOne_82 (by decide) (fun h9 => ?_) (fun h9 => ?_)
  · rw [if_pos ((lg_cmp_eq _ _).mp h9)] at h
    exact a_X16_matchOne_89 K hQ hX hK6 _ _ _ _ _ _ _ _ g1 g6 g7 g8 (hGσ _ _) h hGσ49 hS _ _ _ hH (lv_sub (l' := [(0, .ref rm), (1, .int (i32 v1)), (2, .long v2), (4, .long v4), (6, .int (i32 v6)), (7, .int (i32 v7)), (8, .int (i32 v8))]) hl [1, 2, 3, 4, 5, 6, 7] rfl) hc
  · rw [if_neg (fun q => h9 ((lg_cmp_eq _ _).mpr q))] at h
    exact a_X16_matchOne_85 K hQ hX hK6 _ _ _ _ _ _ _ _ g1 g6 g7 g8 (hGσ _ _) h hGσ49 hS _ _ _ hH (lv_sub (l' := [(0, .ref rm), (1, .int (i32 v1)), (2, .long v2), (4, .long v4), (6, .int (i32 v6)), (7, .int (i32 v7)), (8, .int (i32 v8))]) hl [1, 2, 3, 4, 5, 6, 7] rfl) hc
set_option maxRecDepth 20000 in
theorem a_X16_matchOne_36 {Q : Sg → Int → Prop} {X : Sg → String → Prop} (K : MC R p s m args c cX16_matchOne 11 RX16 D cA tys A n0 s0 2 56 []) (hQ : HQI p l e R s m args below meth c cX16_matchOne D cA A n0 s0 QM dm ra jx rm Q) (hX : HX p l e R s m args below meth c 11 D cA A n0 s0 QM dm ra jx rm X) {K6 : Sg → Int → Int64 → Int64 → Int → Int → Int → Prop} (hK6 : ∀ (σ : Sg) (v1 : Int) (v2 : Int64) (v4 : Int64) (v6 : Int) (v7 : Int) (v8 : Int) (g1 : rng v1) (g6 : rng v6) (g7 : rng v7) (g8 : rng v8), K6 σ v1 v2 v4 v6 v7 v8 → RG σ → Shp dm ra jx rm σ → JJ p l e R s m args below meth c 11 D cA A n0 s0 QM σ 6 [(0, .ref rm), (1, .int (i32 v1)), (2, .long v2), (4, .long v4), (6, .int (i32 v6)), (7, .int (i32 v7)), (8, .int (i32 v8))] []) : ∀ (σ : Sg) (v1 : Int) (v2 : Int64) (v4 : Int64) (v6 : Int) (v7 : Int) (v8 : Int) (g1 : rng v1) (g6 : rng v6) (g7 : rng v7) (g8 : rng v8), w_X16_matchOne_36 ra jx rm K6 Q X σ v1 v2 v4 v6 v7 v8 → RG σ → Shp dm ra jx rm σ → JJ p l e R s m args below meth c 11 D cA A n0 s0 QM σ 36 [(0, .ref rm), (1, .int (i32 v1)), (2, .long v2), (4, .long v4), (6, .int (i32 v6)), (7, .int (i32 v7)), (8, .int (i32 v8))] [] := by
  intro σ v1 v2 v4 v6 v7 v8 g1 g6 g7 g8 h hGσ hS H locs ls hH hl hc
  have B := K.1
  unfold w_X16_matchOne_36 at h
  refine lv_goto (tgt := 199) B.1 B.2.1 dX16_matchOne_36 (by decide) ?_
  exact a_X16_matchOne_199 K hQ hX hK6 _ _ _ _ _ _ _ g1 g6 g7 g8 h hGσ hS _ _ _ hH (lv_sub (l' := [(0, .ref rm), (1, .int (i32 v1)), (2, .long v2), (4, .long v4), (6, .int (i32 v6)), (7, .int (i32 v7)), (8, .int (i32 v8))]) hl [0, 1, 2, 3, 4, 5, 6] rfl) hc
set_option maxRecDepth 20000 in
theorem a_X16_matchOne_13 {Q : Sg → Int → Prop} {X : Sg → String → Prop} (K : MC R p s m args c cX16_matchOne 11 RX16 D cA tys A n0 s0 2 56 []) (hQ : HQI p l e R s m args below meth c cX16_matchOne D cA A n0 s0 QM dm ra jx rm Q) (hX : HX p l e R s m args below meth c 11 D cA A n0 s0 QM dm ra jx rm X) {K6 : Sg → Int → Int64 → Int64 → Int → Int → Int → Prop} (hK6 : ∀ (σ : Sg) (v1 : Int) (v2 : Int64) (v4 : Int64) (v6 : Int) (v7 : Int) (v8 : Int) (g1 : rng v1) (g6 : rng v6) (g7 : rng v7) (g8 : rng v8), K6 σ v1 v2 v4 v6 v7 v8 → RG σ → Shp dm ra jx rm σ → JJ p l e R s m args below meth c 11 D cA A n0 s0 QM σ 6 [(0, .ref rm), (1, .int (i32 v1)), (2, .long v2), (4, .long v4), (6, .int (i32 v6)), (7, .int (i32 v7)), (8, .int (i32 v8))] []) : ∀ (σ : Sg) (v1 : Int) (v2 : Int64) (v4 : Int64) (v6 : Int) (v7 : Int) (v8 : Int) (g1 : rng v1) (g6 : rng v6) (g7 : rng v7) (g8 : rng v8), w_X16_matchOne_13 ra jx rm K6 Q X σ v1 v2 v4 v6 v7 v8 → RG σ → Shp dm ra jx rm σ → JJ p l e R s m args below meth c 11 D cA A n0 s0 QM σ 13 [(0, .ref rm), (1, .int (i32 v1)), (2, .long v2), (4, .long v4), (6, .int (i32 v6)), (7, .int (i32 v7)), (8, .int (i32 v8))] [] := by
  intro σ v1 v2 v4 v6 v7 v8 g1 g6 g7 g8 h hGσ hS H locs ls hH hl hc
  have B := K.1
  unfold w_X16_matchOne_13 at h
  refine lv_lload B.1 B.2.1 dX16_matchOne_13 (lv_at hl 3 rfl) ?_
  refine lv_aload_n B.1 B.2.1 dX16_matchOne_15 rfl (lv_at hl 0 rfl) ?_
  refine r_arr B hH hS 121 (kd := 101) (n := 4000) (by decide) (by decide) wf_X16_907 rfl rfl dX16_matchOne_16 ?_
  refine lv_iload B.1 B.2.1 dX16_matchOne_19 (lv_at hl 6 rfl) ?_
  obtain ⟨q1, h⟩ := h
  refine x_lald B K.2.1 hH (hS.ar (k := 121) (kd := 101) (n := 4000) (by decide)) (by decide) q1 dX16_matchOne_21 ?_
  refine lv_lsub B.1 B.2.1 dX16_matchOne_22 ?_
  refine lv_aload_n B.1 B.2.1 dX16_matchOne_23 rfl (lv_at hl 0 rfl) ?_
  refine r_getp B hH hS 17 (by decide) wf_X16_356 rfl rfl dX16_matchOne_24 ?_
  obtain ⟨a51, ea51, ja51, h⟩ := h
  refine W.eq (g2 := F0 m 27 ls [.ref a51, .long (v4 - (gJ σ (ra 121) v8.toNat))]) (by rw [ea51]; rfl) ?_
  refine n_arr B hH hS ja51 8 (kd := 101) (n := 16) (by decide) (by decide) (List.mem_of_getElem? (i := 8) rfl) rfl dX16_matchOne_27 ?_
  refine lv_iload_n B.1 B.2.1 dX16_matchOne_30 rfl (lv_at hl 1 rfl) ?_
  obtain ⟨q3, h⟩ := h
  refine x_lald B K.2.1 hH (hS.ja ja51 (k := 8) (kd := 101) (n := 16) (by decide)) (by decide) q3 dX16_matchOne_31 ?_
  refine W.lcmp B.1 B.2.1 dX16_matchOne_32 ?_
  refine lv_if_le (tgt := 39) B.1 B.2.1 dX16_matchOne_33 (by decide) (fun h9 => ?_) (fun h9 => ?_)
  · rw [if_pos ((lg_cmp_le _ _).mp h9)] at h
    exact a_X16_matchOne_39 K hQ hX hK6 _ _ _ _ _ _ _ g1 g6 g7 g8 h hGσ hS _ _ _ hH (lv_sub (l' := [(0, .ref rm), (1, .int (i32 v1)), (2, .long v2), (4, .long v4), (6, .int (i32 v6)), (7, .int (i32 v7)), (8, .int (i32 v8))]) hl [0, 1, 2, 3, 4, 5, 6] rfl) hc
  · rw [if_neg (fun q => h9 ((lg_cmp_le _ _).mpr q))] at h
    exact a_X16_matchOne_36 K hQ hX hK6 _ _ _ _ _ _ _ g1 g6 g7 g8 h hGσ hS _ _ _ hH (lv_sub (l' := [(0, .ref rm), (1, .int (i32 v1)), (2, .long v2), (4, .long v4), (6, .int (i32 v6)), (7, .int (i32 v7)), (8, .int (i32 v8))]) hl [0, 1, 2, 3, 4, 5, 6] rfl) hc
set_option maxRecDepth 20000 in
theorem a_X16_matchOne_6 {Q : Sg → Int → Prop} {X : Sg → String → Prop} (K : MC R p s m args c cX16_matchOne 11 RX16 D cA tys A n0 s0 2 56 []) (hQ : HQI p l e R s m args below meth c cX16_matchOne D cA A n0 s0 QM dm ra jx rm Q) (hX : HX p l e R s m args below meth c 11 D cA A n0 s0 QM dm ra jx rm X) {K6 : Sg → Int → Int64 → Int64 → Int → Int → Int → Prop} (hK6 : ∀ (σ : Sg) (v1 : Int) (v2 : Int64) (v4 : Int64) (v6 : Int) (v7 : Int) (v8 : Int) (g1 : rng v1) (g6 : rng v6) (g7 : rng v7) (g8 : rng v8), K6 σ v1 v2 v4 v6 v7 v8 → RG σ → Shp dm ra jx rm σ → JJ p l e R s m args below meth c 11 D cA A n0 s0 QM σ 6 [(0, .ref rm), (1, .int (i32 v1)), (2, .long v2), (4, .long v4), (6, .int (i32 v6)), (7, .int (i32 v7)), (8, .int (i32 v8))] []) : ∀ (σ : Sg) (v1 : Int) (v2 : Int64) (v4 : Int64) (v6 : Int) (v7 : Int) (v8 : Int) (g1 : rng v1) (g6 : rng v6) (g7 : rng v7) (g8 : rng v8), w_X16_matchOne_6 ra jx rm K6 Q X σ v1 v2 v4 v6 v7 v8 → RG σ → Shp dm ra jx rm σ → JJ p l e R s m args below meth c 11 D cA A n0 s0 QM σ 6 [(0, .ref rm), (1, .int (i32 v1)), (2, .long v2), (4, .long v4), (6, .int (i32 v6)), (7, .int (i32 v7)), (8, .int (i32 v8))] [] := by
  intro σ v1 v2 v4 v6 v7 v8 g1 g6 g7 g8 h hGσ hS H locs ls hH hl hc
  have B := K.1
  unfold w_X16_matchOne_6 at h
  refine lv_iload B.1 B.2.1 dX16_matchOne_6 (lv_at hl 6 rfl) ?_
  refine lv_iload B.1 B.2.1 dX16_matchOne_8 (lv_at hl 4 rfl) ?_
  refine lv_icmp_ge (tgt := 205) B.1 B.2.1 dX16_matchOne_10 (by decide) (fun h9 => ?_) (fun h9 => ?_)
  · rw [if_pos ((i32_le g6 g8).mp h9)] at h
    exact a_X16_matchOne_205 K hQ hX _ _ _ _ g1 g7 h hGσ hS _ _ _ hH (lv_sub (l' := [(0, .ref rm), (1, .int (i32 v1)), (4, .long v4), (7, .int (i32 v7))]) hl [0, 1, 3, 5] rfl) hc
  · rw [if_neg (fun q => h9 ((i32_le g6 g8).mpr q))] at h
    exact a_X16_matchOne_13 K hQ hX hK6 _ _ _ _ _ _ _ g1 g6 g7 g8 h hGσ hS _ _ _ hH (lv_sub (l' := [(0, .ref rm), (1, .int (i32 v1)), (2, .long v2), (4, .long v4), (6, .int (i32 v6)), (7, .int (i32 v7)), (8, .int (i32 v8))]) hl [0, 1, 2, 3, 4, 5, 6] rfl) hc
theorem al_X16_matchOne_6 {Q : Sg → Int → Prop} {X : Sg → String → Prop} (K : MC R p s m args c cX16_matchOne 11 RX16 D cA tys A n0 s0 2 56 []) (hQ : HQI p l e R s m args below meth c cX16_matchOne D cA A n0 s0 QM dm ra jx rm Q) (hX : HX p l e R s m args below meth c 11 D cA A n0 s0 QM dm ra jx rm X) : ∀ (n : Nat), ∀ (σ : Sg) (v1 : Int) (v2 : Int64) (v4 : Int64) (v6 : Int) (v7 : Int) (v8 : Int) (g1 : rng v1) (g6 : rng v6) (g7 : rng v7) (g8 : rng v8), wl_X16_matchOne_6 ra jx rm Q X n σ v1 v2 v4 v6 v7 v8 → RG σ → Shp dm ra jx rm σ → JJ p l e R s m args below meth c 11 D cA A n0 s0 QM σ 6 [(0, .ref rm), (1, .int (i32 v1)), (2, .long v2), (4, .long v4), (6, .int (i32 v6)), (7, .int (i32 v7)), (8, .int (i32 v8))] [] := by
  intro n
  induction n with
  | zero => intro σ v1 v2 v4 v6 v7 v8 g1 g6 g7 g8 h; exact h.elim
  | succ n ih => exact fun σ v1 v2 v4 v6 v7 v8 g1 g6 g7 g8 h => a_X16_matchOne_6 K hQ hX ih σ v1 v2 v4 v6 v7 v8 g1 g6 g7 g8 h
set_option maxRecDepth 20000 in
theorem a_X16_matchOne_0 {Q : Sg → Int → Prop} {X : Sg → String → Prop} (K : MC R p s m args c cX16_matchOne 11 RX16 D cA tys A n0 s0 2 56 []) (hQ : HQI p l e R s m args below meth c cX16_matchOne D cA A n0 s0 QM dm ra jx rm Q) (hX : HX p l e R s m args below meth c 11 D cA A n0 s0 QM dm ra jx rm X) : ∀ (σ : Sg) (v1 : Int) (v2 : Int64) (v4 : Int64) (v6 : Int) (g1 : rng v1) (g6 : rng v6), w_X16_matchOne_0 ra jx rm Q X σ v1 v2 v4 v6 → RG σ → Shp dm ra jx rm σ → JJ p l e R s m args below meth c 11 D cA A n0 s0 QM σ 0 [(0, .ref rm), (1, .int (i32 v1)), (2, .long v2), (4, .long v4), (6, .int (i32 v6))] [] := by
  intro σ v1 v2 v4 v6 g1 g6 h hGσ hS H locs ls hH hl hc
  have B := K.1
  unfold w_X16_matchOne_0 at h
  refine lv_iconst (v := i32 0) B.1 B.2.1 dX16_matchOne_0 (by decide) ?_
  refine lv_istore (lv' := [(7, .int (i32 0)), (0, .ref rm), (1, .int (i32 v1)), (2, .long v2), (4, .long v4), (6, .int (i32 v6))]) B.1 B.2.1 dX16_matchOne_1 hl (by decide) rfl (fun ls hl => ?_)
  refine lv_iconst (v := i32 0) B.1 B.2.1 dX16_matchOne_3 (by decide) ?_
  refine lv_istore (lv' := [(8, .int (i32 0)), (7, .int (i32 0)), (0, .ref rm), (1, .int (i32 v1)), (2, .long v2), (4, .long v4), (6, .int (i32 v6))]) B.1 B.2.1 dX16_matchOne_4 hl (by decide) rfl (fun ls hl => ?_)
  obtain ⟨n9, h⟩ := h
  exact al_X16_matchOne_6 K hQ hX n9 _ _ _ _ _ _ _ g1 g6 (by unfold rng; omega) (by unfold rng; omega) h hGσ hS _ _ _ hH (lv_sub (l' := [(0, .ref rm), (1, .int (i32 v1)), (2, .long v2), (4, .long v4), (6, .int (i32 v6)), (7, .int (i32 0)), (8, .int (i32 0))]) hl [2, 3, 4, 5, 6, 1, 0] rfl) hc
theorem ok_X16_matchOne (hT : Tys cA tys) {Q : Sg → Int → Prop} {X : Sg → String → Prop} (σ : Sg) (v1 : Int) (v2 : Int64) (v4 : Int64) (v6 : Int) (g1 : rng v1) (g6 : rng v6) (hG : RG σ) (hS : Shp dm ra jx rm σ) (h : wp_X16_matchOne ra jx rm v1 v2 v4 v6 σ Q X) : Ok l D cA tys A yX16_matchOne (.code yX16_matchOne cX16_matchOne 11 (some .int)) 2 56 [.ref rm, .int (i32 v1), .long v2, .long v4, .int (i32 v6)] σ (QnI dm ra jx rm Q) (QxR dm ra jx rm X) := by
  unfold wp_X16_matchOne at h
  exact ok_I (plainFor_of_name (by decide)) (by exact Nat.le_of_ble_eq_true rfl) hT (fun p e R s m args below meth c K hQ hX H locs ls hH hl hc => a_X16_matchOne_0 K hQ hX σ v1 v2 v4 v6 g1 g6 h hG hS H locs ls hH (lv_sub (l' := [(0, .ref rm), (1, .int (i32 v1)), (2, .long v2), (4, .long v4), (6, .int (i32 v6))]) hl [0, 1, 2, 3, 4] rfl) hc)
theorem dX16_passMatch_0 : decode cX16_passMatch 0 = .ok (.aload_n 0, 1) := by decide +kernel
theorem dX16_passMatch_1 : decode cX16_passMatch 1 = .ok (.iload_n 2, 1) := by decide +kernel
theorem dX16_passMatch_2 : decode cX16_passMatch 2 = .ok (.invokevirtual 883, 3) := by decide +kernel
theorem dX16_passMatch_5 : decode cX16_passMatch 5 = .ok (.istore_n 3, 1) := by decide +kernel
theorem dX16_passMatch_6 : decode cX16_passMatch 6 = .ok (.iconst 0, 1) := by decide +kernel
theorem dX16_passMatch_7 : decode cX16_passMatch 7 = .ok (.istore 4, 2) := by decide +kernel
theorem dX16_passMatch_9 : decode cX16_passMatch 9 = .ok (.iload 4, 2) := by decide +kernel
theorem dX16_passMatch_11 : decode cX16_passMatch 11 = .ok (.iload_n 3, 1) := by decide +kernel
theorem dX16_passMatch_12 : decode cX16_passMatch 12 = .ok (.if_icmp .ge 17, 3) := by decide +kernel
theorem dX16_passMatch_15 : decode cX16_passMatch 15 = .ok (.aload_n 0, 1) := by decide +kernel
theorem dX16_passMatch_16 : decode cX16_passMatch 16 = .ok (.getfield 897, 3) := by decide +kernel
theorem dX16_passMatch_19 : decode cX16_passMatch 19 = .ok (.iload 4, 2) := by decide +kernel
theorem dX16_passMatch_21 : decode cX16_passMatch 21 = .ok (.iconst 0, 1) := by decide +kernel
theorem dX16_passMatch_22 : decode cX16_passMatch 22 = .ok (.bastore, 1) := by decide +kernel
theorem dX16_passMatch_23 : decode cX16_passMatch 23 = .ok (.iinc 4 1, 3) := by decide +kernel
theorem dX16_passMatch_26 : decode cX16_passMatch 26 = .ok (.goto (-17), 3) := by decide +kernel
theorem dX16_passMatch_29 : decode cX16_passMatch 29 = .ok (.iconst 0, 1) := by decide +kernel
theorem dX16_passMatch_30 : decode cX16_passMatch 30 = .ok (.istore 4, 2) := by decide +kernel
theorem dX16_passMatch_32 : decode cX16_passMatch 32 = .ok (.iload 4, 2) := by decide +kernel
theorem dX16_passMatch_34 : decode cX16_passMatch 34 = .ok (.iload_n 3, 1) := by decide +kernel
theorem dX16_passMatch_35 : decode cX16_passMatch 35 = .ok (.if_icmp .ge 163, 3) := by decide +kernel
theorem dX16_passMatch_38 : decode cX16_passMatch 38 = .ok (.aload_n 0, 1) := by decide +kernel
theorem dX16_passMatch_39 : decode cX16_passMatch 39 = .ok (.getfield 897, 3) := by decide +kernel
theorem dX16_passMatch_42 : decode cX16_passMatch 42 = .ok (.iload 4, 2) := by decide +kernel
theorem dX16_passMatch_44 : decode cX16_passMatch 44 = .ok (.baload, 1) := by decide +kernel
theorem dX16_passMatch_45 : decode cX16_passMatch 45 = .ok (.ifCond .eq 6, 3) := by decide +kernel
theorem dX16_passMatch_48 : decode cX16_passMatch 48 = .ok (.goto 144, 3) := by decide +kernel
theorem dX16_passMatch_51 : decode cX16_passMatch 51 = .ok (.aload_n 0, 1) := by decide +kernel
theorem dX16_passMatch_52 : decode cX16_passMatch 52 = .ok (.getfield 867, 3) := by decide +kernel
theorem dX16_passMatch_55 : decode cX16_passMatch 55 = .ok (.bipush 8, 2) := by decide +kernel
theorem dX16_passMatch_57 : decode cX16_passMatch 57 = .ok (.aload_n 0, 1) := by decide +kernel
theorem dX16_passMatch_58 : decode cX16_passMatch 58 = .ok (.getfield 877, 3) := by decide +kernel
theorem dX16_passMatch_61 : decode cX16_passMatch 61 = .ok (.iload 4, 2) := by decide +kernel
theorem dX16_passMatch_63 : decode cX16_passMatch 63 = .ok (.iaload, 1) := by decide +kernel
theorem dX16_passMatch_64 : decode cX16_passMatch 64 = .ok (.imul, 1) := by decide +kernel
theorem dX16_passMatch_65 : decode cX16_passMatch 65 = .ok (.aload_n 0, 1) := by decide +kernel
theorem dX16_passMatch_66 : decode cX16_passMatch 66 = .ok (.getfield 356, 3) := by decide +kernel
theorem dX16_passMatch_69 : decode cX16_passMatch 69 = .ok (.getfield 239, 3) := by decide +kernel
theorem dX16_passMatch_72 : decode cX16_passMatch 72 = .ok (.iload_n 1, 1) := by decide +kernel
theorem dX16_passMatch_73 : decode cX16_passMatch 73 = .ok (.iaload, 1) := by decide +kernel
theorem dX16_passMatch_74 : decode cX16_passMatch 74 = .ok (.iadd, 1) := by decide +kernel
theorem dX16_passMatch_75 : decode cX16_passMatch 75 = .ok (.laload, 1) := by decide +kernel
theorem dX16_passMatch_76 : decode cX16_passMatch 76 = .ok (.lstore 5, 2) := by decide +kernel
theorem dX16_passMatch_78 : decode cX16_passMatch 78 = .ok (.iconst 0, 1) := by decide +kernel
theorem dX16_passMatch_79 : decode cX16_passMatch 79 = .ok (.istore 7, 2) := by decide +kernel
theorem dX16_passMatch_81 : decode cX16_passMatch 81 = .ok (.iload 4, 2) := by decide +kernel
theorem dX16_passMatch_83 : decode cX16_passMatch 83 = .ok (.istore 8, 2) := by decide +kernel
theorem dX16_passMatch_85 : decode cX16_passMatch 85 = .ok (.iload 8, 2) := by decide +kernel
theorem dX16_passMatch_87 : decode cX16_passMatch 87 = .ok (.iload_n 3, 1) := by decide +kernel
theorem dX16_passMatch_88 : decode cX16_passMatch 88 = .ok (.if_icmp .ge 104, 3) := by decide +kernel
theorem dX16_passMatch_91 : decode cX16_passMatch 91 = .ok (.aload_n 0, 1) := by decide +kernel
theorem dX16_passMatch_92 : decode cX16_passMatch 92 = .ok (.getfield 877, 3) := by decide +kernel
theorem dX16_passMatch_95 : decode cX16_passMatch 95 = .ok (.iload 8, 2) := by decide +kernel
theorem dX16_passMatch_97 : decode cX16_passMatch 97 = .ok (.iaload, 1) := by decide +kernel
theorem dX16_passMatch_98 : decode cX16_passMatch 98 = .ok (.istore 9, 2) := by decide +kernel
theorem dX16_passMatch_100 : decode cX16_passMatch 100 = .ok (.aload_n 0, 1) := by decide +kernel
theorem dX16_passMatch_101 : decode cX16_passMatch 101 = .ok (.getfield 897, 3) := by decide +kernel
theorem dX16_passMatch_104 : decode cX16_passMatch 104 = .ok (.iload 8, 2) := by decide +kernel
theorem dX16_passMatch_106 : decode cX16_passMatch 106 = .ok (.baload, 1) := by decide +kernel
theorem dX16_passMatch_107 : decode cX16_passMatch 107 = .ok (.ifCond .ne 79, 3) := by decide +kernel
theorem dX16_passMatch_110 : decode cX16_passMatch 110 = .ok (.aload_n 0, 1) := by decide +kernel
theorem dX16_passMatch_111 : decode cX16_passMatch 111 = .ok (.getfield 867, 3) := by decide +kernel
theorem dX16_passMatch_114 : decode cX16_passMatch 114 = .ok (.bipush 8, 2) := by decide +kernel
theorem dX16_passMatch_116 : decode cX16_passMatch 116 = .ok (.iload 9, 2) := by decide +kernel
theorem dX16_passMatch_118 : decode cX16_passMatch 118 = .ok (.imul, 1) := by decide +kernel
theorem dX16_passMatch_119 : decode cX16_passMatch 119 = .ok (.aload_n 0, 1) := by decide +kernel
theorem dX16_passMatch_120 : decode cX16_passMatch 120 = .ok (.getfield 356, 3) := by decide +kernel
theorem dX16_passMatch_123 : decode cX16_passMatch 123 = .ok (.getfield 239, 3) := by decide +kernel
theorem dX16_passMatch_126 : decode cX16_passMatch 126 = .ok (.iload_n 1, 1) := by decide +kernel
theorem dX16_passMatch_127 : decode cX16_passMatch 127 = .ok (.iaload, 1) := by decide +kernel
theorem dX16_passMatch_128 : decode cX16_passMatch 128 = .ok (.iadd, 1) := by decide +kernel
theorem dX16_passMatch_129 : decode cX16_passMatch 129 = .ok (.laload, 1) := by decide +kernel
theorem dX16_passMatch_130 : decode cX16_passMatch 130 = .ok (.lload 5, 2) := by decide +kernel
theorem dX16_passMatch_132 : decode cX16_passMatch 132 = .ok (.lcmp, 1) := by decide +kernel
theorem dX16_passMatch_133 : decode cX16_passMatch 133 = .ok (.ifCond .eq 6, 3) := by decide +kernel
theorem dX16_passMatch_136 : decode cX16_passMatch 136 = .ok (.goto 50, 3) := by decide +kernel
theorem dX16_passMatch_139 : decode cX16_passMatch 139 = .ok (.aload_n 0, 1) := by decide +kernel
theorem dX16_passMatch_140 : decode cX16_passMatch 140 = .ok (.getfield 897, 3) := by decide +kernel
theorem dX16_passMatch_143 : decode cX16_passMatch 143 = .ok (.iload 8, 2) := by decide +kernel
theorem dX16_passMatch_145 : decode cX16_passMatch 145 = .ok (.iconst 1, 1) := by decide +kernel
theorem dX16_passMatch_146 : decode cX16_passMatch 146 = .ok (.bastore, 1) := by decide +kernel
theorem dX16_passMatch_147 : decode cX16_passMatch 147 = .ok (.aload_n 0, 1) := by decide +kernel
theorem dX16_passMatch_148 : decode cX16_passMatch 148 = .ok (.iload 9, 2) := by decide +kernel
theorem dX16_passMatch_150 : decode cX16_passMatch 150 = .ok (.invokevirtual 880, 3) := by decide +kernel
theorem dX16_passMatch_153 : decode cX16_passMatch 153 = .ok (.aload_n 0, 1) := by decide +kernel
theorem dX16_passMatch_154 : decode cX16_passMatch 154 = .ok (.iload_n 1, 1) := by decide +kernel
theorem dX16_passMatch_155 : decode cX16_passMatch 155 = .ok (.aload_n 0, 1) := by decide +kernel
theorem dX16_passMatch_156 : decode cX16_passMatch 156 = .ok (.getfield 864, 3) := by decide +kernel
theorem dX16_passMatch_159 : decode cX16_passMatch 159 = .ok (.iload 9, 2) := by decide +kernel
theorem dX16_passMatch_161 : decode cX16_passMatch 161 = .ok (.laload, 1) := by decide +kernel
theorem dX16_passMatch_162 : decode cX16_passMatch 162 = .ok (.invokevirtual 900, 3) := by decide +kernel
theorem dX16_passMatch_165 : decode cX16_passMatch 165 = .ok (.ifCond .eq 21, 3) := by decide +kernel
theorem dX16_passMatch_168 : decode cX16_passMatch 168 = .ok (.aload_n 0, 1) := by decide +kernel
theorem dX16_passMatch_169 : decode cX16_passMatch 169 = .ok (.iload_n 1, 1) := by decide +kernel
theorem dX16_passMatch_170 : decode cX16_passMatch 170 = .ok (.lload 5, 2) := by decide +kernel
theorem dX16_passMatch_172 : decode cX16_passMatch 172 = .ok (.aload_n 0, 1) := by decide +kernel
theorem dX16_passMatch_173 : decode cX16_passMatch 173 = .ok (.getfield 864, 3) := by decide +kernel
theorem dX16_passMatch_176 : decode cX16_passMatch 176 = .ok (.iload 9, 2) := by decide +kernel
theorem dX16_passMatch_178 : decode cX16_passMatch 178 = .ok (.laload, 1) := by decide +kernel
theorem dX16_passMatch_179 : decode cX16_passMatch 179 = .ok (.iload 7, 2) := by decide +kernel
theorem dX16_passMatch_181 : decode cX16_passMatch 181 = .ok (.invokevirtual 903, 3) := by decide +kernel
theorem dX16_passMatch_184 : decode cX16_passMatch 184 = .ok (.istore 7, 2) := by decide +kernel
theorem dX16_passMatch_186 : decode cX16_passMatch 186 = .ok (.iinc 8 1, 3) := by decide +kernel
theorem dX16_passMatch_189 : decode cX16_passMatch 189 = .ok (.goto (-104), 3) := by decide +kernel
theorem dX16_passMatch_192 : decode cX16_passMatch 192 = .ok (.iinc 4 1, 3) := by decide +kernel
theorem dX16_passMatch_195 : decode cX16_passMatch 195 = .ok (.goto (-163), 3) := by decide +kernel
theorem dX16_passMatch_198 : decode cX16_passMatch 198 = .ok (.return_, 1) := by decide +kernel
set_option maxRecDepth 20000 in
theorem a_X16_passMatch_198 {Q : Sg → Unit → Prop} {X : Sg → String → Prop} (K : MC R p s m args c cX16_passMatch 10 RX16 D cA tys A n0 s0 3 86 []) (hQ : HQV p l e R s m args below meth c cX16_passMatch D cA A n0 s0 QM dm ra jx rm Q) (hX : HX p l e R s m args below meth c 10 D cA A n0 s0 QM dm ra jx rm X) : ∀ (σ : Sg), w_X16_passMatch_198 ra jx rm Q X σ → RG σ → Shp dm ra jx rm σ → JJ p l e R s m args below meth c 10 D cA A n0 s0 QM σ 198 [(0, .ref rm)] [] := by
  intro σ h hGσ hS H locs ls hH hl hc
  have B := K.1
  unfold w_X16_passMatch_198 at h
  exact hQ _ _ _ _ _ dX16_passMatch_198 hH hc h hGσ hS
set_option maxRecDepth 20000 in
theorem a_X16_passMatch_192 {Q : Sg → Unit → Prop} {X : Sg → String → Prop} (K : MC R p s m args c cX16_passMatch 10 RX16 D cA tys A n0 s0 3 86 []) (hQ : HQV p l e R s m args below meth c cX16_passMatch D cA A n0 s0 QM dm ra jx rm Q) (hX : HX p l e R s m args below meth c 10 D cA A n0 s0 QM dm ra jx rm X) {K32 : Sg → Int → Int → Int → Prop} (hK32 : ∀ (σ : Sg) (v1 : Int) (v3 : Int) (v4 : Int) (g1 : rng v1) (g3 : rng v3) (g4 : rng v4), K32 σ v1 v3 v4 → RG σ → Shp dm ra jx rm σ → JJ p l e R s m args below meth c 10 D cA A n0 s0 QM σ 32 [(0, .ref rm), (1, .int (i32 v1)), (3, .int (i32 v3)), (4, .int (i32 v4))] []) : ∀ (σ : Sg) (v1 : Int) (v3 : Int) (v4 : Int) (g1 : rng v1) (g3 : rng v3) (g4 : rng v4), w_X16_passMatch_192 ra jx rm K32 Q X σ v1 v3 v4 → RG σ → Shp dm ra jx rm σ → JJ p l e R s m args below meth c 10 D cA A n0 s0 QM σ 192 [(0, .ref rm), (1, .int (i32 v1)), (3, .int (i32 v3)), (4, .int (i32 v4))] [] := by
  intro σ v1 v3 v4 g1 g3 g4 h hGσ hS H locs ls hH hl hc
  have B := K.1
  unfold w_X16_passMatch_192 at h
  obtain ⟨q1, h⟩ := h
  refine lv_iinc (k := 3) (v := i32 (v4 + 1)) (lv' := [(4, .int (i32 (v4 + 1))), (0, .ref rm), (1, .int (i32 v1)), (3, .int (i32 v3))]) B.1 B.2.1 dX16_passMatch_192 hl rfl (i32_add _ _) (by decide) rfl (fun ls hl => ?_)
  refine lv_goto (tgt := 32) B.1 B.2.1 dX16_passMatch_195 (by decide) ?_
  exact hK32 _ _ _ _ g1 g3 q1 h hGσ hS _ _ _ hH (lv_sub (l' := [(0, .ref rm), (1, .int (i32 v1)), (3, .int (i32 v3)), (4, .int (i32 (v4 + 1)))]) hl [1, 2, 3, 0] rfl) hc
set_option maxRecDepth 20000 in
theorem a_X16_passMatch_186 {Q : Sg → Unit → Prop} {X : Sg → String → Prop} (K : MC R p s m args c cX16_passMatch 10 RX16 D cA tys A n0 s0 3 86 []) (hQ : HQV p l e R s m args below meth c cX16_passMatch D cA A n0 s0 QM dm ra jx rm Q) (hX : HX p l e R s m args below meth c 10 D cA A n0 s0 QM dm ra jx rm X) {K32 : Sg → Int → Int → Int → Prop} (hK32 : ∀ (σ : Sg) (v1 : Int) (v3 : Int) (v4 : Int) (g1 : rng v1) (g3 : rng v3) (g4 : rng v4), K32 σ v1 v3 v4 → RG σ → Shp dm ra jx rm σ → JJ p l e R s m args below meth c 10 D cA A n0 s0 QM σ 32 [(0, .ref rm), (1, .int (i32 v1)), (3, .int (i32 v3)), (4, .int (i32 v4))] []) {K85 : Sg → Int → Int → Int → Int64 → Int → Int → Prop} (hK85 : ∀ (σ : Sg) (v1 : Int) (v3 : Int) (v4 : Int) (v5 : Int64) (v7 : Int) (v8 : Int) (g1 : rng v1) (g3 : rng v3) (g4 : rng v4) (g7 : rng v7) (g8 : rng v8), K85 σ v1 v3 v4 v5 v7 v8 → RG σ → Shp dm ra jx rm σ → JJ p l e R s m args below meth c 10 D cA A n0 s0 QM σ 85 [(0, .ref rm), (1, .int (i32 v1)), (3, .int (i32 v3)), (4, .int (i32 v4)), (5, .long v5), (7, .int (i32 v7)), (8, .int (i32 v8))] []) : ∀ (σ : Sg) (v1 : Int) (v3 : Int) (v4 : Int) (v5 : Int64) (v7 : Int) (v8 : Int) (g1 : rng v1) (g3 : rng v3) (g4 : rng v4) (g7 : rng v7) (g8 : rng v8), w_X16_passMatch_186 ra jx rm K32 K85 Q X σ v1 v3 v4 v5 v7 v8 → RG σ → Shp dm ra jx rm σ → JJ p l e R s m args below meth c 10 D cA A n0 s0 QM σ 186 [(0, .ref rm), (1, .int (i32 v1)), (3, .int (i32 v3)), (4, .int (i32 v4)), (5, .long v5), (7, .int (i32 v7)), (8, .int (i32 v8))] [] := by
  intro σ v1 v3 v4 v5 v7 v8 g1 g3 g4 g7 g8 h hGσ hS H locs ls hH hl hc
  have B := K.1
  unfold w_X16_passMatch_186 at h
  obtain ⟨q1, h⟩ := h
  refine lv_iinc (k := 6) (v := i32 (v8 + 1)) (lv' := [(8, .int (i32 (v8 + 1))), (0, .ref rm), (1, .int (i32 v1)), (3, .int (i32 v3)), (4, .int (i32 v4)), (5, .long v5), (7, .int (i32 v7))]) B.1 B.2.1 dX16_passMatch_186 hl rfl (i32_add _ _) (by decide) rfl (fun ls hl => ?_)
  refine lv_goto (tgt := 85) B.1 B.2.1 dX16_passMatch_189 (by decide) ?_
  exact hK85 _ _ _ _ _ _ _ g1 g3 g4 g7 q1 h hGσ hS _ _ _ hH (lv_sub (l' := [(0, .ref rm), (1, .int (i32 v1)), (3, .int (i32 v3)), (4, .int (i32 v4)), (5, .long v5), (7, .int (i32 v7)), (8, .int (i32 (v8 + 1)))]) hl [1, 2, 3, 4, 5, 6, 0] rfl) hc
set_option maxRecDepth 20000 in
theorem a_X16_passMatch_168 {Q : Sg → Unit → Prop} {X : Sg → String → Prop} (K : MC R p s m args c cX16_passMatch 10 RX16 D cA tys A n0 s0 3 86 []) (hQ : HQV p l e R s m args below meth c cX16_passMatch D cA A n0 s0 QM dm ra jx rm Q) (hX : HX p l e R s m args below meth c 10 D cA A n0 s0 QM dm ra jx rm X) {K32 : Sg → Int → Int → Int → Prop} (hK32 : ∀ (σ : Sg) (v1 : Int) (v3 : Int) (v4 : Int) (g1 : rng v1) (g3 : rng v3) (g4 : rng v4), K32 σ v1 v3 v4 → RG σ → Shp dm ra jx rm σ → JJ p l e R s m args below meth c 10 D cA A n0 s0 QM σ 32 [(0, .ref rm), (1, .int (i32 v1)), (3, .int (i32 v3)), (4, .int (i32 v4))] []) {K85 : Sg → Int → Int → Int → Int64 → Int → Int → Prop} (hK85 : ∀ (σ : Sg) (v1 : Int) (v3 : Int) (v4 : Int) (v5 : Int64) (v7 : Int) (v8 : Int) (g1 : rng v1) (g3 : rng v3) (g4 : rng v4) (g7 : rng v7) (g8 : rng v8), K85 σ v1 v3 v4 v5 v7 v8 → RG σ → Shp dm ra jx rm σ → JJ p l e R s m args below meth c 10 D cA A n0 s0 QM σ 85 [(0, .ref rm), (1, .int (i32 v1)), (3, .int (i32 v3)), (4, .int (i32 v4)), (5, .long v5), (7, .int (i32 v7)), (8, .int (i32 v8))] []) : ∀ (σ : Sg) (v1 : Int) (v3 : Int) (v4 : Int) (v5 : Int64) (v7 : Int) (v8 : Int) (v9 : Int) (g1 : rng v1) (g3 : rng v3) (g4 : rng v4) (g7 : rng v7) (g8 : rng v8) (g9 : rng v9), w_X16_passMatch_168 ra jx rm K32 K85 Q X σ v1 v3 v4 v5 v7 v8 v9 → RG σ → Shp dm ra jx rm σ → JJ p l e R s m args below meth c 10 D cA A n0 s0 QM σ 168 [(0, .ref rm), (1, .int (i32 v1)), (3, .int (i32 v3)), (4, .int (i32 v4)), (5, .long v5), (7, .int (i32 v7)), (8, .int (i32 v8)), (9, .int (i32 v9))] [] := by
  intro σ v1 v3 v4 v5 v7 v8 v9 g1 g3 g4 g7 g8 g9 h hGσ hS H locs ls hH hl hc
  have B := K.1
  unfold w_X16_passMatch_168 at h
  refine lv_aload_n B.1 B.2.1 dX16_passMatch_168 rfl (lv_at hl 0 rfl) ?_
  refine lv_iload_n B.1 B.2.1 dX16_passMatch_169 rfl (lv_at hl 1 rfl) ?_
  refine lv_lload B.1 B.2.1 dX16_passMatch_170 (lv_at hl 4 rfl) ?_
  refine lv_aload_n B.1 B.2.1 dX16_passMatch_172 rfl (lv_at hl 0 rfl) ?_
  refine r_arr B hH hS 115 (kd := 101) (n := 4000) (by decide) (by decide) wf_X16_864 rfl rfl dX16_passMatch_173 ?_
  refine lv_iload B.1 B.2.1 dX16_passMatch_176 (lv_at hl 7 rfl) ?_
  obtain ⟨q1, h⟩ := h
  refine x_lald B K.2.1 hH (hS.ar (k := 115) (kd := 101) (n := 4000) (by decide)) (by decide) q1 dX16_passMatch_178 ?_
  refine lv_iload B.1 B.2.1 dX16_passMatch_179 (lv_at hl 5 rfl) ?_
  refine c_V B hH hl hc K.2.2.1 (C := RX16) (T := TX16) (N := 123) (ci := 16) (As := [.int (i32 v1), .long v5, .long (gJ σ (ra 115) v9.toNat), .int (i32 v7)]) (ok_X16_matchOne K.2.1 σ v1 v5 (gJ σ (ra 115) v9.toNat) v7 g1 g7 hGσ hS h) wc_X16_903 4 hd_X16_matchOne ⟨Nat.le_trans (Nat.le_of_ble_eq_true rfl) K.2.2.2.1, Nat.le_trans (Nat.le_of_ble_eq_true rfl) K.2.2.2.2.1⟩ hS.1.1 hS.1.2 (by decide) rfl rfl (rest := []) rfl (Nat.le_of_ble_eq_true rfl) dX16_passMatch_181 (fun σ23 w hq => ?_) (fun σ9 E9 hx9 => hX σ9 E9 _ _ _ (tb_out K.2.2.2.2.2 rfl) hx9.1 hx9.2.1 hx9.2.2)
  obtain ⟨r24, rfl, gr24, h, hGσ23, hS⟩ := hq
  intro H locs ls hH hl hc
  refine W.eq (g2 := F0 m 184 ls [.int (i32 r24)]) (rfl) ?_
  try dsimp only at h
  refine lv_istore (lv' := [(7, .int (i32 r24)), (0, .ref rm), (1, .int (i32 v1)), (3, .int (i32 v3)), (4, .int (i32 v4)), (5, .long v5), (8, .int (i32 v8)), (9, .int (i32 v9))]) B.1 B.2.1 dX16_passMatch_184 hl (by decide) rfl (fun ls hl => ?_)
  exact a_X16_passMatch_186 K hQ hX hK32 hK85 _ _ _ _ _ _ _ g1 g3 g4 gr24 g8 h hGσ23 hS _ _ _ hH (lv_sub (l' := [(0, .ref rm), (1, .int (i32 v1)), (3, .int (i32 v3)), (4, .int (i32 v4)), (5, .long v5), (7, .int (i32 r24)), (8, .int (i32 v8))]) hl [1, 2, 3, 4, 5, 0, 6] rfl) hc
set_option maxRecDepth 20000 in
theorem a_X16_passMatch_139 {Q : Sg → Unit → Prop} {X : Sg → String → Prop} (K : MC R p s m args c cX16_passMatch 10 RX16 D cA tys A n0 s0 3 86 []) (hQ : HQV p l e R s m args below meth c cX16_passMatch D cA A n0 s0 QM dm ra jx rm Q) (hX : HX p l e R s m args below meth c 10 D cA A n0 s0 QM dm ra jx rm X) {K32 : Sg → Int → Int → Int → Prop} (hK32 : ∀ (σ : Sg) (v1 : Int) (v3 : Int) (v4 : Int) (g1 : rng v1) (g3 : rng v3) (g4 : rng v4), K32 σ v1 v3 v4 → RG σ → Shp dm ra jx rm σ → JJ p l e R s m args below meth c 10 D cA A n0 s0 QM σ 32 [(0, .ref rm), (1, .int (i32 v1)), (3, .int (i32 v3)), (4, .int (i32 v4))] []) {K85 : Sg → Int → Int → Int → Int64 → Int → Int → Prop} (hK85 : ∀ (σ : Sg) (v1 : Int) (v3 : Int) (v4 : Int) (v5 : Int64) (v7 : Int) (v8 : Int) (g1 : rng v1) (g3 : rng v3) (g4 : rng v4) (g7 : rng v7) (g8 : rng v8), K85 σ v1 v3 v4 v5 v7 v8 → RG σ → Shp dm ra jx rm σ → JJ p l e R s m args below meth c 10 D cA A n0 s0 QM σ 85 [(0, .ref rm), (1, .int (i32 v1)), (3, .int (i32 v3)), (4, .int (i32 v4)), (5, .long v5), (7, .int (i32 v7)), (8, .int (i32 v8))] []) : ∀ (σ : Sg) (v1 : Int) (v3 : Int) (v4 : Int) (v5 : Int64) (v7 : Int) (v8 : Int) (v9 : Int) (g1 : rng v1) (g3 : rng v3) (g4 : rng v4) (g7 : rng v7) (g8 : rng v8) (g9 : rng v9), w_X16_passMatch_139 ra jx rm K32 K85 Q X σ v1 v3 v4 v5 v7 v8 v9 → RG σ → Shp dm ra jx rm σ → JJ p l e R s m args below meth c 10 D cA A n0 s0 QM σ 139 [(0, .ref rm), (1, .int (i32 v1)), (3, .int (i32 v3)), (4, .int (i32 v4)), (5, .long v5), (7, .int (i32 v7)), (8, .int (i32 v8)), (9, .int (i32 v9))] [] := by
  intro σ v1 v3 v4 v5 v7 v8 v9 g1 g3 g4 g7 g8 g9 h hGσ hS H locs ls hH hl hc
  have B := K.1
  unfold w_X16_passMatch_139 at h
  refine lv_aload_n B.1 B.2.1 dX16_passMatch_139 rfl (lv_at hl 0 rfl) ?_
  refine r_arr B hH hS 120 (kd := 103) (n := 4000) (by decide) (by decide) wf_X16_897 rfl rfl dX16_passMatch_140 ?_
  refine lv_iload B.1 B.2.1 dX16_passMatch_143 (lv_at hl 6 rfl) ?_
  refine lv_iconst (v := i32 1) B.1 B.2.1 dX16_passMatch_145 (by decide) ?_
  obtain ⟨q1, h⟩ := h
  obtain ⟨σ25, eσ25⟩ : ∃ z, z = pI σ (ra 120) v8.toNat (nZ 1) := ⟨_, rfl⟩
  have h := h σ25 eσ25
  refine x_zast B K.2.1 hH (hS.ar (k := 120) (kd := 103) (n := 4000) (by decide)) (by decide) q1 dX16_passMatch_146 (fun H locs hH => ?_)
  have hH : Hd D cA A s (pI σ (ra 120) v8.toNat (nZ 1)) H locs := hH
  rw [← eσ25] at hH
  have hGσ25 : RG σ25 := by rw [eσ25]; exact hGσ.pI (rng_toInt _)
  have hS : Shp dm ra jx rm σ25 := by rw [eσ25]; exact hS
  have hc : CB n0 s0 σ25 := by rw [eσ25]; exact hc
  rw [show gc σ = gc σ25 by rw [eσ25], show gs σ = gs σ25 by rw [eσ25]]
  refine lv_aload_n B.1 B.2.1 dX16_passMatch_147 rfl (lv_at hl 0 rfl) ?_
  refine lv_iload B.1 B.2.1 dX16_passMatch_148 (lv_at hl 7 rfl) ?_
  refine c_V B hH hl hc K.2.2.1 (C := RX16) (T := TX16) (N := 123) (ci := 16) (As := [.int (i32 v9)]) (ok_X16_load K.2.1 σ25 v9 g9 hGσ25 hS h) wc_X16_880 1 hd_X16_load ⟨Nat.le_trans (Nat.le_of_ble_eq_true rfl) K.2.2.2.1, Nat.le_trans (Nat.le_of_ble_eq_true rfl) K.2.2.2.2.1⟩ hS.1.1 hS.1.2 (by decide) rfl rfl (rest := []) rfl (Nat.le_of_ble_eq_true rfl) dX16_passMatch_150 (fun σ26 w hq => ?_) (fun σ9 E9 hx9 => hX σ9 E9 _ _ _ (tb_out K.2.2.2.2.2 rfl) hx9.1 hx9.2.1 hx9.2.2)
  obtain ⟨rfl, h, hGσ26, hS⟩ := hq
  intro H locs ls hH hl hc
  refine W.eq (g2 := F0 m 153 ls []) (rfl) ?_
  try dsimp only at h
  refine lv_aload_n B.1 B.2.1 dX16_passMatch_153 rfl (lv_at hl 0 rfl) ?_
  refine lv_iload_n B.1 B.2.1 dX16_passMatch_154 rfl (lv_at hl 1 rfl) ?_
  refine lv_aload_n B.1 B.2.1 dX16_passMatch_155 rfl (lv_at hl 0 rfl) ?_
  refine r_arr B hH hS 115 (kd := 101) (n := 4000) (by decide) (by decide) wf_X16_864 rfl rfl dX16_passMatch_156 ?_
  refine lv_iload B.1 B.2.1 dX16_passMatch_159 (lv_at hl 7 rfl) ?_
  obtain ⟨q3, h⟩ := h
  refine x_lald B K.2.1 hH (hS.ar (k := 115) (kd := 101) (n := 4000) (by decide)) (by decide) q3 dX16_passMatch_161 ?_
  refine c_V B hH hl hc K.2.2.1 (C := RX16) (T := TX16) (N := 123) (ci := 16) (As := [.int (i32 v1), .long (gJ σ26 (ra 115) v9.toNat)]) (ok_X16_isSound K.2.1 σ26 v1 (gJ σ26 (ra 115) v9.toNat) g1 hGσ26 hS h) wc_X16_900 2 hd_X16_isSound ⟨Nat.le_trans (Nat.le_of_ble_eq_true rfl) K.2.2.2.1, Nat.le_trans (Nat.le_of_ble_eq_true rfl) K.2.2.2.2.1⟩ hS.1.1 hS.1.2 (by decide) rfl rfl (rest := []) rfl (Nat.le_of_ble_eq_true rfl) dX16_passMatch_162 (fun σ27 w hq => ?_) (fun σ9 E9 hx9 => hX σ9 E9 _ _ _ (tb_out K.2.2.2.2.2 rfl) hx9.1 hx9.2.1 hx9.2.2)
  obtain ⟨r28, rfl, ⟨gr28, gzr28⟩, h, hGσ27, hS⟩ := hq
  intro H locs ls hH hl hc
  refine W.eq (g2 := F0 m 165 ls [.int (i32 r28)]) (rfl) ?_
  try dsimp only at h
  refine lv_if_eq (tgt := 186) B.1 B.2.1 dX16_passMatch_165 (by decide) (fun h9 => ?_) (fun h9 => ?_)
  · rw [if_pos ((z_eq gr28).mp h9)] at h
    exact a_X16_passMatch_186 K hQ hX hK32 hK85 _ _ _ _ _ _ _ g1 g3 g4 g7 g8 h hGσ27 hS _ _ _ hH (lv_sub (l' := [(0, .ref rm), (1, .int (i32 v1)), (3, .int (i32 v3)), (4, .int (i32 v4)), (5, .long v5), (7, .int (i32 v7)), (8, .int (i32 v8))]) hl [0, 1, 2, 3, 4, 5, 6] rfl) hc
  · rw [if_neg (fun q => h9 ((z_eq gr28).mpr q))] at h
    exact a_X16_passMatch_168 K hQ hX hK32 hK85 _ _ _ _ _ _ _ _ g1 g3 g4 g7 g8 g9 h hGσ27 hS _ _ _ hH (lv_sub (l' := [(0, .ref rm), (1, .int (i32 v1)), (3, .int (i32 v3)), (4, .int (i32 v4)), (5, .long v5), (7, .int (i32 v7)), (8, .int (i32 v8)), (9, .int (i32 v9))]) hl [0, 1, 2, 3, 4, 5, 6, 7] rfl) hc
set_option maxRecDepth 20000 in
theorem a_X16_passMatch_136 {Q : Sg → Unit → Prop} {X : Sg → String → Prop} (K : MC R p s m args c cX16_passMatch 10 RX16 D cA tys A n0 s0 3 86 []) (hQ : HQV p l e R s m args below meth c cX16_passMatch D cA A n0 s0 QM dm ra jx rm Q) (hX : HX p l e R s m args below meth c 10 D cA A n0 s0 QM dm ra jx rm X) {K32 : Sg → Int → Int → Int → Prop} (hK32 : ∀ (σ : Sg) (v1 : Int) (v3 : Int) (v4 : Int) (g1 : rng v1) (g3 : rng v3) (g4 : rng v4), K32 σ v1 v3 v4 → RG σ → Shp dm ra jx rm σ → JJ p l e R s m args below meth c 10 D cA A n0 s0 QM σ 32 [(0, .ref rm), (1, .int (i32 v1)), (3, .int (i32 v3)), (4, .int (i32 v4))] []) {K85 : Sg → Int → Int → Int → Int64 → Int → Int → Prop} (hK85 : ∀ (σ : Sg) (v1 : Int) (v3 : Int) (v4 : Int) (v5 : Int64) (v7 : Int) (v8 : Int) (g1 : rng v1) (g3 : rng v3) (g4 : rng v4) (g7 : rng v7) (g8 : rng v8), K85 σ v1 v3 v4 v5 v7 v8 → RG σ → Shp dm ra jx rm σ → JJ p l e R s m args below meth c 10 D cA A n0 s0 QM σ 85 [(0, .ref rm), (1, .int (i32 v1)), (3, .int (i32 v3)), (4, .int (i32 v4)), (5, .long v5), (7, .int (i32 v7)), (8, .int (i32 v8))] []) : ∀ (σ : Sg) (v1 : Int) (v3 : Int) (v4 : Int) (v5 : Int64) (v7 : Int) (v8 : Int) (g1 : rng v1) (g3 : rng v3) (g4 : rng v4) (g7 : rng v7) (g8 : rng v8), w_X16_passMatch_136 ra jx rm K32 K85 Q X σ v1 v3 v4 v5 v7 v8 → RG σ → Shp dm ra jx rm σ → JJ p l e R s m args below meth c 10 D cA A n0 s0 QM σ 136 [(0, .ref rm), (1, .int (i32 v1)), (3, .int (i32 v3)), (4, .int (i32 v4)), (5, .long v5), (7, .int (i32 v7)), (8, .int (i32 v8))] [] := by
  intro σ v1 v3 v4 v5 v7 v8 g1 g3 g4 g7 g8 h hGσ hS H locs ls hH hl hc
  have B := K.1
  unfold w_X16_passMatch_136 at h
  refine lv_goto (tgt := 186) B.1 B.2.1 dX16_passMatch_136 (by decide) ?_
  exact a_X16_passMatch_186 K hQ hX hK32 hK85 _ _ _ _ _ _ _ g1 g3 g4 g7 g8 h hGσ hS _ _ _ hH (lv_sub (l' := [(0, .ref rm), (1, .int (i32 v1)), (3, .int (i32 v3)), (4, .int (i32 v4)), (5, .long v5), (7, .int (i32 v7)), (8, .int (i32 v8))]) hl [0, 1, 2, 3, 4, 5, 6] rfl) hc
set_option maxRecDepth 20000 in
theorem a_X16_passMatch_110 {Q : Sg → Unit → Prop} {X : Sg → String → Prop} (K : MC R p s m args c cX16_passMatch 10 RX16 D cA tys A n0 s0 3 86 []) (hQ : HQV p l e R s m args below meth c cX16_passMatch D cA A n0 s0 QM dm ra jx rm Q) (hX : HX p l e R s m args below meth c 10 D cA A n0 s0 QM dm ra jx rm X) {K32 : Sg → Int → Int → Int → Prop} (hK32 : ∀ (σ : Sg) (v1 : Int) (v3 : Int) (v4 : Int) (g1 : rng v1) (g3 : rng v3) (g4 : rng v4), K32 σ v1 v3 v4 → RG σ → Shp dm ra jx rm σ → JJ p l e R s m args below meth c 10 D cA A n0 s0 QM σ 32 [(0, .ref rm), (1, .int (i32 v1)), (3, .int (i32 v3)), (4, .int (i32 v4))] []) {K85 : Sg → Int → Int → Int → Int64 → Int → Int → Prop} (hK85 : ∀ (σ : Sg) (v1 : Int) (v3 : Int) (v4 : Int) (v5 : Int64) (v7 : Int) (v8 : Int) (g1 : rng v1) (g3 : rng v3) (g4 : rng v4) (g7 : rng v7) (g8 : rng v8), K85 σ v1 v3 v4 v5 v7 v8 → RG σ → Shp dm ra jx rm σ → JJ p l e R s m args below meth c 10 D cA A n0 s0 QM σ 85 [(0, .ref rm), (1, .int (i32 v1)), (3, .int (i32 v3)), (4, .int (i32 v4)), (5, .long v5), (7, .int (i32 v7)), (8, .int (i32 v8))] []) : ∀ (σ : Sg) (v1 : Int) (v3 : Int) (v4 : Int) (v5 : Int64) (v7 : Int) (v8 : Int) (v9 : Int) (g1 : rng v1) (g3 : rng v3) (g4 : rng v4) (g7 : rng v7) (g8 : rng v8) (g9 : rng v9), w_X16_passMatch_110 ra jx rm K32 K85 Q X σ v1 v3 v4 v5 v7 v8 v9 → RG σ → Shp dm ra jx rm σ → JJ p l e R s m args below meth c 10 D cA A n0 s0 QM σ 110 [(0, .ref rm), (1, .int (i32 v1)), (3, .int (i32 v3)), (4, .int (i32 v4)), (5, .long v5), (7, .int (i32 v7)), (8, .int (i32 v8)), (9, .int (i32 v9))] [] := by
  intro σ v1 v3 v4 v5 v7 v8 v9 g1 g3 g4 g7 g8 g9 h hGσ hS H locs ls hH hl hc
  have B := K.1
  unfold w_X16_passMatch_110 at h
  refine lv_aload_n B.1 B.2.1 dX16_passMatch_110 rfl (lv_at hl 0 rfl) ?_
  refine r_arr B hH hS 116 (kd := 101) (n := 32000) (by decide) (by decide) wf_X16_867 rfl rfl dX16_passMatch_111 ?_
  refine lv_bipush (v := i32 8) B.1 B.2.1 dX16_passMatch_114 (by decide) ?_
  refine lv_iload B.1 B.2.1 dX16_passMatch_116 (lv_at hl 7 rfl) ?_
  obtain ⟨q1, h⟩ := h
  refine lv_imul B.1 B.2.1 dX16_passMatch_118 ?_
  rw [i32_mul]
  refine lv_aload_n B.1 B.2.1 dX16_passMatch_119 rfl (lv_at hl 0 rfl) ?_
  refine r_getp B hH hS 17 (by decide) wf_X16_356 rfl rfl dX16_passMatch_120 ?_
  obtain ⟨a29, ea29, ja29, h⟩ := h
  refine W.eq (g2 := F0 m 123 ls [.ref a29, .int (i32 (8 * v9)), .ref (ra 116)]) (by rw [ea29]; rfl) ?_
  refine n_arr B hH hS ja29 10 (kd := 100) (n := 16) (by decide) (by decide) (List.mem_of_getElem? (i := 10) rfl) rfl dX16_passMatch_123 ?_
  refine lv_iload_n B.1 B.2.1 dX16_passMatch_126 rfl (lv_at hl 1 rfl) ?_
  obtain ⟨q3, h⟩ := h
  refine x_iald B K.2.1 hH (hS.ja ja29 (k := 10) (kd := 100) (n := 16) (by decide)) (by decide) q3 dX16_passMatch_127 ?_
  obtain ⟨q4, h⟩ := h
  refine lv_iadd B.1 B.2.1 dX16_passMatch_128 ?_
  rw [i32_add]
  obtain ⟨q5, h⟩ := h
  refine x_lald B K.2.1 hH (hS.ar (k := 116) (kd := 101) (n := 32000) (by decide)) (by decide) q5 dX16_passMatch_129 ?_
  refine lv_lload B.1 B.2.1 dX16_passMatch_130 (lv_at hl 4 rfl) ?_
  refine W.lcmp B.1 B.2.1 dX16_passMatch_132 ?_
  refine lv_if_eq (tgt := 139) B.1 B.2.1 dX16_passMatch_133 (by decide) (fun h9 => ?_) (fun h9 => ?_)
  · rw [if_pos ((lg_cmp_eq _ _).mp h9)] at h
    exact a_X16_passMatch_139 K hQ hX hK32 hK85 _ _ _ _ _ _ _ _ g1 g3 g4 g7 g8 g9 h hGσ hS _ _ _ hH (lv_sub (l' := [(0, .ref rm), (1, .int (i32 v1)), (3, .int (i32 v3)), (4, .int (i32 v4)), (5, .long v5), (7, .int (i32 v7)), (8, .int (i32 v8)), (9, .int (i32 v9))]) hl [0, 1, 2, 3, 4, 5, 6, 7] rfl) hc
  · rw [if_neg (fun q => h9 ((lg_cmp_eq _ _).mpr q))] at h
    exact a_X16_passMatch_136 K hQ hX hK32 hK85 _ _ _ _ _ _ _ g1 g3 g4 g7 g8 h hGσ hS _ _ _ hH (lv_sub (l' := [(0, .ref rm), (1, .int (i32 v1)), (3, .int (i32 v3)), (4, .int (i32 v4)), (5, .long v5), (7, .int (i32 v7)), (8, .int (i32 v8))]) hl [0, 1, 2, 3, 4, 5, 6] rfl) hc
set_option maxRecDepth 20000 in
theorem a_X16_passMatch_91 {Q : Sg → Unit → Prop} {X : Sg → String → Prop} (K : MC R p s m args c cX16_passMatch 10 RX16 D cA tys A n0 s0 3 86 []) (hQ : HQV p l e R s m args below meth c cX16_passMatch D cA A n0 s0 QM dm ra jx rm Q) (hX : HX p l e R s m args below meth c 10 D cA A n0 s0 QM dm ra jx rm X) {K32 : Sg → Int → Int → Int → Prop} (hK32 : ∀ (σ : Sg) (v1 : Int) (v3 : Int) (v4 : Int) (g1 : rng v1) (g3 : rng v3) (g4 : rng v4), K32 σ v1 v3 v4 → RG σ → Shp dm ra jx rm σ → JJ p l e R s m args below meth c 10 D cA A n0 s0 QM σ 32 [(0, .ref rm), (1, .int (i32 v1)), (3, .int (i32 v3)), (4, .int (i32 v4))] []) {K85 : Sg → Int → Int → Int → Int64 → Int → Int → Prop} (hK85 : ∀ (σ : Sg) (v1 : Int) (v3 : Int) (v4 : Int) (v5 : Int64) (v7 : Int) (v8 : Int) (g1 : rng v1) (g3 : rng v3) (g4 : rng v4) (g7 : rng v7) (g8 : rng v8), K85 σ v1 v3 v4 v5 v7 v8 → RG σ → Shp dm ra jx rm σ → JJ p l e R s m args below meth c 10 D cA A n0 s0 QM σ 85 [(0, .ref rm), (1, .int (i32 v1)), (3, .int (i32 v3)), (4, .int (i32 v4)), (5, .long v5), (7, .int (i32 v7)), (8, .int (i32 v8))] []) : ∀ (σ : Sg) (v1 : Int) (v3 : Int) (v4 : Int) (v5 : Int64) (v7 : Int) (v8 : Int) (g1 : rng v1) (g3 : rng v3) (g4 : rng v4) (g7 : rng v7) (g8 : rng v8), w_X16_passMatch_91 ra jx rm K32 K85 Q X σ v1 v3 v4 v5 v7 v8 → RG σ → Shp dm ra jx rm σ → JJ p l e R s m args below meth c 10 D cA A n0 s0 QM σ 91 [(0, .ref rm), (1, .int (i32 v1)), (3, .int (i32 v3)), (4, .int (i32 v4)), (5, .long v5), (7, .int (i32 v7)), (8, .int (i32 v8))] [] := by
  intro σ v1 v3 v4 v5 v7 v8 g1 g3 g4 g7 g8 h hGσ hS H locs ls hH hl hc
  have B := K.1
  unfold w_X16_passMatch_91 at h
  refine lv_aload_n B.1 B.2.1 dX16_passMatch_91 rfl (lv_at hl 0 rfl) ?_
  refine r_arr B hH hS 119 (kd := 100) (n := 4000) (by decide) (by decide) wf_X16_877 rfl rfl dX16_passMatch_92 ?_
  refine lv_iload B.1 B.2.1 dX16_passMatch_95 (lv_at hl 6 rfl) ?_
  obtain ⟨q1, h⟩ := h
  refine x_iald B K.2.1 hH (hS.ar (k := 119) (kd := 100) (n := 4000) (by decide)) (by decide) q1 dX16_passMatch_97 ?_
  refine lv_istore (lv' := [(9, .int (i32 (gI σ (ra 119) v8.toNat))), (0, .ref rm), (1, .int (i32 v1)), (3, .int (i32 v3)), (4, .int (i32 v4)), (5, .long v5), (7, .int (i32 v7)), (8, .int (i32 v8))]) B.1 B.2.1 dX16_passMatch_98 hl (by decide) rfl (fun ls hl => ?_)
  refine lv_aload_n B.1 B.2.1 dX16_passMatch_100 rfl (lv_at hl 1 rfl) ?_
  refine r_arr B hH hS 120 (kd := 103) (n := 4000) (by decide) (by decide) wf_X16_897 rfl rfl dX16_passMatch_101 ?_
  refine lv_iload B.1 B.2.1 dX16_passMatch_104 (lv_at hl 7 rfl) ?_
  obtain ⟨q2, h⟩ := h
  refine x_zald B K.2.1 hH (hS.ar (k := 120) (kd := 103) (n := 4000) (by decide)) (by decide) q2 dX16_passMatch_106 ?_
  refine lv_if_ne (tgt := 186) B.1 B.2.1 dX16_passMatch_107 (by decide) (fun h9 => ?_) (fun h9 => ?_)
  · rw [if_pos (fun q => h9 ((z_eq (hGσ _ _)).mpr q))] at h
    exact a_X16_passMatch_186 K hQ hX hK32 hK85 _ _ _ _ _ _ _ g1 g3 g4 g7 g8 h hGσ hS _ _ _ hH (lv_sub (l' := [(0, .ref rm), (1, .int (i32 v1)), (3, .int (i32 v3)), (4, .int (i32 v4)), (5, .long v5), (7, .int (i32 v7)), (8, .int (i32 v8))]) hl [1, 2, 3, 4, 5, 6, 7] rfl) hc
  · rw [if_neg (fun q => q ((z_eq (hGσ _ _)).mp h9))] at h
    exact a_X16_passMatch_110 K hQ hX hK32 hK85 _ _ _ _ _ _ _ _ g1 g3 g4 g7 g8 (hGσ _ _) h hGσ hS _ _ _ hH (lv_sub (l' := [(0, .ref rm), (1, .int (i32 v1)), (3, .int (i32 v3)), (4, .int (i32 v4)), (5, .long v5), (7, .int (i32 v7)), (8, .int (i32 v8)), (9, .int (i32 (gI σ (ra 119) v8.toNat)))]) hl [1, 2, 3, 4, 5, 6, 7, 0] rfl) hc
set_option maxRecDepth 20000 in
theorem a_X16_passMatch_85 {Q : Sg → Unit → Prop} {X : Sg → String → Prop} (K : MC R p s m args c cX16_passMatch 10 RX16 D cA tys A n0 s0 3 86 []) (hQ : HQV p l e R s m args below meth c cX16_passMatch D cA A n0 s0 QM dm ra jx rm Q) (hX : HX p l e R s m args below meth c 10 D cA A n0 s0 QM dm ra jx rm X) {K32 : Sg → Int → Int → Int → Prop} (hK32 : ∀ (σ : Sg) (v1 : Int) (v3 : Int) (v4 : Int) (g1 : rng v1) (g3 : rng v3) (g4 : rng v4), K32 σ v1 v3 v4 → RG σ → Shp dm ra jx rm σ → JJ p l e R s m args below meth c 10 D cA A n0 s0 QM σ 32 [(0, .ref rm), (1, .int (i32 v1)), (3, .int (i32 v3)), (4, .int (i32 v4))] []) {K85 : Sg → Int → Int → Int → Int64 → Int → Int → Prop} (hK85 : ∀ (σ : Sg) (v1 : Int) (v3 : Int) (v4 : Int) (v5 : Int64) (v7 : Int) (v8 : Int) (g1 : rng v1) (g3 : rng v3) (g4 : rng v4) (g7 : rng v7) (g8 : rng v8), K85 σ v1 v3 v4 v5 v7 v8 → RG σ → Shp dm ra jx rm σ → JJ p l e R s m args below meth c 10 D cA A n0 s0 QM σ 85 [(0, .ref rm), (1, .int (i32 v1)), (3, .int (i32 v3)), (4, .int (i32 v4)), (5, .long v5), (7, .int (i32 v7)), (8, .int (i32 v8))] []) : ∀ (σ : Sg) (v1 : Int) (v3 : Int) (v4 : Int) (v5 : Int64) (v7 : Int) (v8 : Int) (g1 : rng v1) (g3 : rng v3) (g4 : rng v4) (g7 : rng v7) (g8 : rng v8), w_X16_passMatch_85 ra jx rm K32 K85 Q X σ v1 v3 v4 v5 v7 v8 → RG σ → Shp dm ra jx rm σ → JJ p l e R s m args below meth c 10 D cA A n0 s0 QM σ 85 [(0, .ref rm), (1, .int (i32 v1)), (3, .int (i32 v3)), (4, .int (i32 v4)), (5, .long v5), (7, .int (i32 v7)), (8, .int (i32 v8))] [] := by
  intro σ v1 v3 v4 v5 v7 v8 g1 g3 g4 g7 g8 h hGσ hS H locs ls hH hl hc
  have B := K.1
  unfold w_X16_passMatch_85 at h
  refine lv_iload B.1 B.2.1 dX16_passMatch_85 (lv_at hl 6 rfl) ?_
  refine lv_iload_n B.1 B.2.1 dX16_passMatch_87 rfl (lv_at hl 2 rfl) ?_
  refine lv_icmp_ge (tgt := 192) B.1 B.2.1 dX16_passMatch_88 (by decide) (fun h9 => ?_) (fun h9 => ?_)
  · rw [if_pos ((i32_le g3 g8).mp h9)] at h
    exact a_X16_passMatch_192 K hQ hX hK32 _ _ _ _ g1 g3 g4 h hGσ hS _ _ _ hH (lv_sub (l' := [(0, .ref rm), (1, .int (i32 v1)), (3, .int (i32 v3)), (4, .int (i32 v4))]) hl [0, 1, 2, 3] rfl) hc
  · rw [if_neg (fun q => h9 ((i32_le g3 g8).mpr q))] at h
    exact a_X16_passMatch_91 K hQ hX hK32 hK85 _ _ _ _ _ _ _ g1 g3 g4 g7 g8 h hGσ hS _ _ _ hH (lv_sub (l' := [(0, .ref rm), (1, .int (i32 v1)), (3, .int (i32 v3)), (4, .int (i32 v4)), (5, .long v5), (7, .int (i32 v7)), (8, .int (i32 v8))]) hl [0, 1, 2, 3, 4, 5, 6] rfl) hc
theorem al_X16_passMatch_85 {Q : Sg → Unit → Prop} {X : Sg → String → Prop} (K : MC R p s m args c cX16_passMatch 10 RX16 D cA tys A n0 s0 3 86 []) (hQ : HQV p l e R s m args below meth c cX16_passMatch D cA A n0 s0 QM dm ra jx rm Q) (hX : HX p l e R s m args below meth c 10 D cA A n0 s0 QM dm ra jx rm X) {K32 : Sg → Int → Int → Int → Prop} (hK32 : ∀ (σ : Sg) (v1 : Int) (v3 : Int) (v4 : Int) (g1 : rng v1) (g3 : rng v3) (g4 : rng v4), K32 σ v1 v3 v4 → RG σ → Shp dm ra jx rm σ → JJ p l e R s m args below meth c 10 D cA A n0 s0 QM σ 32 [(0, .ref rm), (1, .int (i32 v1)), (3, .int (i32 v3)), (4, .int (i32 v4))] []) : ∀ (n : Nat), ∀ (σ : Sg) (v1 : Int) (v3 : Int) (v4 : Int) (v5 : Int64) (v7 : Int) (v8 : Int) (g1 : rng v1) (g3 : rng v3) (g4 : rng v4) (g7 : rng v7) (g8 : rng v8), wl_X16_passMatch_85 ra jx rm K32 Q X n σ v1 v3 v4 v5 v7 v8 → RG σ → Shp dm ra jx rm σ → JJ p l e R s m args below meth c 10 D cA A n0 s0 QM σ 85 [(0, .ref rm), (1, .int (i32 v1)), (3, .int (i32 v3)), (4, .int (i32 v4)), (5, .long v5), (7, .int (i32 v7)), (8, .int (i32 v8))] [] := by
  intro n
  induction n with
  | zero => intro σ v1 v3 v4 v5 v7 v8 g1 g3 g4 g7 g8 h; exact h.elim
  | succ n ih => exact fun σ v1 v3 v4 v5 v7 v8 g1 g3 g4 g7 g8 h => a_X16_passMatch_85 K hQ hX hK32 ih σ v1 v3 v4 v5 v7 v8 g1 g3 g4 g7 g8 h
set_option maxRecDepth 20000 in
theorem a_X16_passMatch_51 {Q : Sg → Unit → Prop} {X : Sg → String → Prop} (K : MC R p s m args c cX16_passMatch 10 RX16 D cA tys A n0 s0 3 86 []) (hQ : HQV p l e R s m args below meth c cX16_passMatch D cA A n0 s0 QM dm ra jx rm Q) (hX : HX p l e R s m args below meth c 10 D cA A n0 s0 QM dm ra jx rm X) {K32 : Sg → Int → Int → Int → Prop} (hK32 : ∀ (σ : Sg) (v1 : Int) (v3 : Int) (v4 : Int) (g1 : rng v1) (g3 : rng v3) (g4 : rng v4), K32 σ v1 v3 v4 → RG σ → Shp dm ra jx rm σ → JJ p l e R s m args below meth c 10 D cA A n0 s0 QM σ 32 [(0, .ref rm), (1, .int (i32 v1)), (3, .int (i32 v3)), (4, .int (i32 v4))] []) : ∀ (σ : Sg) (v1 : Int) (v3 : Int) (v4 : Int) (g1 : rng v1) (g3 : rng v3) (g4 : rng v4), w_X16_passMatch_51 ra jx rm K32 Q X σ v1 v3 v4 → RG σ → Shp dm ra jx rm σ → JJ p l e R s m args below meth c 10 D cA A n0 s0 QM σ 51 [(0, .ref rm), (1, .int (i32 v1)), (3, .int (i32 v3)), (4, .int (i32 v4))] [] := by
  intro σ v1 v3 v4 g1 g3 g4 h hGσ hS H locs ls hH hl hc
  have B := K.1
  unfold w_X16_passMatch_51 at h
  refine lv_aload_n B.1 B.2.1 dX16_passMatch_51 rfl (lv_at hl 0 rfl) ?_
  refine r_arr B hH hS 116 (kd := 101) (n := 32000) (by decide) (by decide) wf_X16_867 rfl rfl dX16_passMatch_52 ?_
  refine lv_bipush (v := i32 8) B.1 B.2.1 dX16_passMatch_55 (by decide) ?_
  refine lv_aload_n B.1 B.2.1 dX16_passMatch_57 rfl (lv_at hl 0 rfl) ?_
  refine r_arr B hH hS 119 (kd := 100) (n := 4000) (by decide) (by decide) wf_X16_877 rfl rfl dX16_passMatch_58 ?_
  refine lv_iload B.1 B.2.1 dX16_passMatch_61 (lv_at hl 3 rfl) ?_
  obtain ⟨q1, h⟩ := h
  refine x_iald B K.2.1 hH (hS.ar (k := 119) (kd := 100) (n := 4000) (by decide)) (by decide) q1 dX16_passMatch_63 ?_
  obtain ⟨q2, h⟩ := h
  refine lv_imul B.1 B.2.1 dX16_passMatch_64 ?_
  rw [i32_mul]
  refine lv_aload_n B.1 B.2.1 dX16_passMatch_65 rfl (lv_at hl 0 rfl) ?_
  refine r_getp B hH hS 17 (by decide) wf_X16_356 rfl rfl dX16_passMatch_66 ?_
  obtain ⟨a30, ea30, ja30, h⟩ := h
  refine W.eq (g2 := F0 m 69 ls [.ref a30, .int (i32 (8 * (gI σ (ra 119) v4.toNat))), .ref (ra 116)]) (by rw [ea30]; rfl) ?_
  refine n_arr B hH hS ja30 10 (kd := 100) (n := 16) (by decide) (by decide) (List.mem_of_getElem? (i := 10) rfl) rfl dX16_passMatch_69 ?_
  refine lv_iload_n B.1 B.2.1 dX16_passMatch_72 rfl (lv_at hl 1 rfl) ?_
  obtain ⟨q4, h⟩ := h
  refine x_iald B K.2.1 hH (hS.ja ja30 (k := 10) (kd := 100) (n := 16) (by decide)) (by decide) q4 dX16_passMatch_73 ?_
  obtain ⟨q5, h⟩ := h
  refine lv_iadd B.1 B.2.1 dX16_passMatch_74 ?_
  rw [i32_add]
  obtain ⟨q6, h⟩ := h
  refine x_lald B K.2.1 hH (hS.ar (k := 116) (kd := 101) (n := 32000) (by decide)) (by decide) q6 dX16_passMatch_75 ?_
  refine lv_lstore (lv' := [(5, .long (gJ σ (ra 116) ((8 * (gI σ (ra 119) v4.toNat)) + (gI σ (jx a30 10) v1.toNat)).toNat)), (0, .ref rm), (1, .int (i32 v1)), (3, .int (i32 v3)), (4, .int (i32 v4))]) B.1 B.2.1 dX16_passMatch_76 hl (by decide) rfl (fun ls hl => ?_)
  refine lv_iconst (v := i32 0) B.1 B.2.1 dX16_passMatch_78 (by decide) ?_
  refine lv_istore (lv' := [(7, .int (i32 0)), (5, .long (gJ σ (ra 116) ((8 * (gI σ (ra 119) v4.toNat)) + (gI σ (jx a30 10) v1.toNat)).toNat)), (0, .ref rm), (1, .int (i32 v1)), (3, .int (i32 v3)), (4, .int (i32 v4))]) B.1 B.2.1 dX16_passMatch_79 hl (by decide) rfl (fun ls hl => ?_)
  refine lv_iload B.1 B.2.1 dX16_passMatch_81 (lv_at hl 5 rfl) ?_
  refine lv_istore (lv' := [(8, .int (i32 v4)), (7, .int (i32 0)), (5, .long (gJ σ (ra 116) ((8 * (gI σ (ra 119) v4.toNat)) + (gI σ (jx a30 10) v1.toNat)).toNat)), (0, .ref rm), (1, .int (i32 v1)), (3, .int (i32 v3)), (4, .int (i32 v4))]) B.1 B.2.1 dX16_passMatch_83 hl (by decide) rfl (fun ls hl => ?_)
  obtain ⟨n9, h⟩ := h
  exact al_X16_passMatch_85 K hQ hX hK32 n9 _ _ _ _ _ _ _ g1 g3 g4 (by unfold rng; omega) g4 h hGσ hS _ _ _ hH (lv_sub (l' := [(0, .ref rm), (1, .int (i32 v1)), (3, .int (i32 v3)), (4, .int (i32 v4)), (5, .long (gJ σ (ra 116) ((8 * (gI σ (ra 119) v4.toNat)) + (gI σ (jx a30 10) v1.toNat)).toNat)), (7, .int (i32 0)), (8, .int (i32 v4))]) hl [3, 4, 5, 6, 2, 1, 0] rfl) hc
set_option maxRecDepth 20000 in
theorem a_X16_passMatch_48 {Q : Sg → Unit → Prop} {X : Sg → String → Prop} (K : MC R p s m args c cX16_passMatch 10 RX16 D cA tys A n0 s0 3 86 []) (hQ : HQV p l e R s m args below meth c cX16_passMatch D cA A n0 s0 QM dm ra jx rm Q) (hX : HX p l e R s m args below meth c 10 D cA A n0 s0 QM dm ra jx rm X) {K32 : Sg → Int → Int → Int → Prop} (hK32 : ∀ (σ : Sg) (v1 : Int) (v3 : Int) (v4 : Int) (g1 : rng v1) (g3 : rng v3) (g4 : rng v4), K32 σ v1 v3 v4 → RG σ → Shp dm ra jx rm σ → JJ p l e R s m args below meth c 10 D cA A n0 s0 QM σ 32 [(0, .ref rm), (1, .int (i32 v1)), (3, .int (i32 v3)), (4, .int (i32 v4))] []) : ∀ (σ : Sg) (v1 : Int) (v3 : Int) (v4 : Int) (g1 : rng v1) (g3 : rng v3) (g4 : rng v4), w_X16_passMatch_48 ra jx rm K32 Q X σ v1 v3 v4 → RG σ → Shp dm ra jx rm σ → JJ p l e R s m args below meth c 10 D cA A n0 s0 QM σ 48 [(0, .ref rm), (1, .int (i32 v1)), (3, .int (i32 v3)), (4, .int (i32 v4))] [] := by
  intro σ v1 v3 v4 g1 g3 g4 h hGσ hS H locs ls hH hl hc
  have B := K.1
  unfold w_X16_passMatch_48 at h
  refine lv_goto (tgt := 192) B.1 B.2.1 dX16_passMatch_48 (by decide) ?_
  exact a_X16_passMatch_192 K hQ hX hK32 _ _ _ _ g1 g3 g4 h hGσ hS _ _ _ hH (lv_sub (l' := [(0, .ref rm), (1, .int (i32 v1)), (3, .int (i32 v3)), (4, .int (i32 v4))]) hl [0, 1, 2, 3] rfl) hc
set_option maxRecDepth 20000 in
theorem a_X16_passMatch_38 {Q : Sg → Unit → Prop} {X : Sg → String → Prop} (K : MC R p s m args c cX16_passMatch 10 RX16 D cA tys A n0 s0 3 86 []) (hQ : HQV p l e R s m args below meth c cX16_passMatch D cA A n0 s0 QM dm ra jx rm Q) (hX : HX p l e R s m args below meth c 10 D cA A n0 s0 QM dm ra jx rm X) {K32 : Sg → Int → Int → Int → Prop} (hK32 : ∀ (σ : Sg) (v1 : Int) (v3 : Int) (v4 : Int) (g1 : rng v1) (g3 : rng v3) (g4 : rng v4), K32 σ v1 v3 v4 → RG σ → Shp dm ra jx rm σ → JJ p l e R s m args below meth c 10 D cA A n0 s0 QM σ 32 [(0, .ref rm), (1, .int (i32 v1)), (3, .int (i32 v3)), (4, .int (i32 v4))] []) : ∀ (σ : Sg) (v1 : Int) (v3 : Int) (v4 : Int) (g1 : rng v1) (g3 : rng v3) (g4 : rng v4), w_X16_passMatch_38 ra jx rm K32 Q X σ v1 v3 v4 → RG σ → Shp dm ra jx rm σ → JJ p l e R s m args below meth c 10 D cA A n0 s0 QM σ 38 [(0, .ref rm), (1, .int (i32 v1)), (3, .int (i32 v3)), (4, .int (i32 v4))] [] := by
  intro σ v1 v3 v4 g1 g3 g4 h hGσ hS H locs ls hH hl hc
  have B := K.1
  unfold w_X16_passMatch_38 at h
  refine lv_aload_n B.1 B.2.1 dX16_passMatch_38 rfl (lv_at hl 0 rfl) ?_
  refine r_arr B hH hS 120 (kd := 103) (n := 4000) (by decide) (by decide) wf_X16_897 rfl rfl dX16_passMatch_39 ?_
  refine lv_iload B.1 B.2.1 dX16_passMatch_42 (lv_at hl 3 rfl) ?_
  obtain ⟨q1, h⟩ := h
  refine x_zald B K.2.1 hH (hS.ar (k := 120) (kd := 103) (n := 4000) (by decide)) (by decide) q1 dX16_passMatch_44 ?_
  refine lv_if_eq (tgt := 51) B.1 B.2.1 dX16_passMatch_45 (by decide) (fun h9 => ?_) (fun h9 => ?_)
  · rw [if_pos ((z_eq (hGσ _ _)).mp h9)] at h
    exact a_X16_passMatch_51 K hQ hX hK32 _ _ _ _ g1 g3 g4 h hGσ hS _ _ _ hH (lv_sub (l' := [(0, .ref rm), (1, .int (i32 v1)), (3, .int (i32 v3)), (4, .int (i32 v4))]) hl [0, 1, 2, 3] rfl) hc
  · rw [if_neg (fun q => h9 ((z_eq (hGσ _ _)).mpr q))] at h
    exact a_X16_passMatch_48 K hQ hX hK32 _ _ _ _ g1 g3 g4 h hGσ hS _ _ _ hH (lv_sub (l' := [(0, .ref rm), (1, .int (i32 v1)), (3, .int (i32 v3)), (4, .int (i32 v4))]) hl [0, 1, 2, 3] rfl) hc
set_option maxRecDepth 20000 in
theorem a_X16_passMatch_32 {Q : Sg → Unit → Prop} {X : Sg → String → Prop} (K : MC R p s m args c cX16_passMatch 10 RX16 D cA tys A n0 s0 3 86 []) (hQ : HQV p l e R s m args below meth c cX16_passMatch D cA A n0 s0 QM dm ra jx rm Q) (hX : HX p l e R s m args below meth c 10 D cA A n0 s0 QM dm ra jx rm X) {K32 : Sg → Int → Int → Int → Prop} (hK32 : ∀ (σ : Sg) (v1 : Int) (v3 : Int) (v4 : Int) (g1 : rng v1) (g3 : rng v3) (g4 : rng v4), K32 σ v1 v3 v4 → RG σ → Shp dm ra jx rm σ → JJ p l e R s m args below meth c 10 D cA A n0 s0 QM σ 32 [(0, .ref rm), (1, .int (i32 v1)), (3, .int (i32 v3)), (4, .int (i32 v4))] []) : ∀ (σ : Sg) (v1 : Int) (v3 : Int) (v4 : Int) (g1 : rng v1) (g3 : rng v3) (g4 : rng v4), w_X16_passMatch_32 ra jx rm K32 Q X σ v1 v3 v4 → RG σ → Shp dm ra jx rm σ → JJ p l e R s m args below meth c 10 D cA A n0 s0 QM σ 32 [(0, .ref rm), (1, .int (i32 v1)), (3, .int (i32 v3)), (4, .int (i32 v4))] [] := by
  intro σ v1 v3 v4 g1 g3 g4 h hGσ hS H locs ls hH hl hc
  have B := K.1
  unfold w_X16_passMatch_32 at h
  refine lv_iload B.1 B.2.1 dX16_passMatch_32 (lv_at hl 3 rfl) ?_
  refine lv_iload_n B.1 B.2.1 dX16_passMatch_34 rfl (lv_at hl 2 rfl) ?_
  refine lv_icmp_ge (tgt := 198) B.1 B.2.1 dX16_passMatch_35 (by decide) (fun h9 => ?_) (fun h9 => ?_)
  · rw [if_pos ((i32_le g3 g4).mp h9)] at h
    exact a_X16_passMatch_198 K hQ hX _ h hGσ hS _ _ _ hH (lv_sub (l' := [(0, .ref rm)]) hl [0] rfl) hc
  · rw [if_neg (fun q => h9 ((i32_le g3 g4).mpr q))] at h
    exact a_X16_passMatch_38 K hQ hX hK32 _ _ _ _ g1 g3 g4 h hGσ hS _ _ _ hH (lv_sub (l' := [(0, .ref rm), (1, .int (i32 v1)), (3, .int (i32 v3)), (4, .int (i32 v4))]) hl [0, 1, 2, 3] rfl) hc
theorem al_X16_passMatch_32 {Q : Sg → Unit → Prop} {X : Sg → String → Prop} (K : MC R p s m args c cX16_passMatch 10 RX16 D cA tys A n0 s0 3 86 []) (hQ : HQV p l e R s m args below meth c cX16_passMatch D cA A n0 s0 QM dm ra jx rm Q) (hX : HX p l e R s m args below meth c 10 D cA A n0 s0 QM dm ra jx rm X) : ∀ (n : Nat), ∀ (σ : Sg) (v1 : Int) (v3 : Int) (v4 : Int) (g1 : rng v1) (g3 : rng v3) (g4 : rng v4), wl_X16_passMatch_32 ra jx rm Q X n σ v1 v3 v4 → RG σ → Shp dm ra jx rm σ → JJ p l e R s m args below meth c 10 D cA A n0 s0 QM σ 32 [(0, .ref rm), (1, .int (i32 v1)), (3, .int (i32 v3)), (4, .int (i32 v4))] [] := by
  intro n
  induction n with
  | zero => intro σ v1 v3 v4 g1 g3 g4 h; exact h.elim
  | succ n ih => exact fun σ v1 v3 v4 g1 g3 g4 h => a_X16_passMatch_32 K hQ hX ih σ v1 v3 v4 g1 g3 g4 h
set_option maxRecDepth 20000 in
theorem a_X16_passMatch_29 {Q : Sg → Unit → Prop} {X : Sg → String → Prop} (K : MC R p s m args c cX16_passMatch 10 RX16 D cA tys A n0 s0 3 86 []) (hQ : HQV p l e R s m args below meth c cX16_passMatch D cA A n0 s0 QM dm ra jx rm Q) (hX : HX p l e R s m args below meth c 10 D cA A n0 s0 QM dm ra jx rm X) : ∀ (σ : Sg) (v1 : Int) (v3 : Int) (g1 : rng v1) (g3 : rng v3), w_X16_passMatch_29 ra jx rm Q X σ v1 v3 → RG σ → Shp dm ra jx rm σ → JJ p l e R s m args below meth c 10 D cA A n0 s0 QM σ 29 [(0, .ref rm), (1, .int (i32 v1)), (3, .int (i32 v3))] [] := by
  intro σ v1 v3 g1 g3 h hGσ hS H locs ls hH hl hc
  have B := K.1
  unfold w_X16_passMatch_29 at h
  refine lv_iconst (v := i32 0) B.1 B.2.1 dX16_passMatch_29 (by decide) ?_
  refine lv_istore (lv' := [(4, .int (i32 0)), (0, .ref rm), (1, .int (i32 v1)), (3, .int (i32 v3))]) B.1 B.2.1 dX16_passMatch_30 hl (by decide) rfl (fun ls hl => ?_)
  obtain ⟨n9, h⟩ := h
  exact al_X16_passMatch_32 K hQ hX n9 _ _ _ _ g1 g3 (by unfold rng; omega) h hGσ hS _ _ _ hH (lv_sub (l' := [(0, .ref rm), (1, .int (i32 v1)), (3, .int (i32 v3)), (4, .int (i32 0))]) hl [1, 2, 3, 0] rfl) hc
set_option maxRecDepth 20000 in
theorem a_X16_passMatch_15 {Q : Sg → Unit → Prop} {X : Sg → String → Prop} (K : MC R p s m args c cX16_passMatch 10 RX16 D cA tys A n0 s0 3 86 []) (hQ : HQV p l e R s m args below meth c cX16_passMatch D cA A n0 s0 QM dm ra jx rm Q) (hX : HX p l e R s m args below meth c 10 D cA A n0 s0 QM dm ra jx rm X) {K9 : Sg → Int → Int → Int → Prop} (hK9 : ∀ (σ : Sg) (v1 : Int) (v3 : Int) (v4 : Int) (g1 : rng v1) (g3 : rng v3) (g4 : rng v4), K9 σ v1 v3 v4 → RG σ → Shp dm ra jx rm σ → JJ p l e R s m args below meth c 10 D cA A n0 s0 QM σ 9 [(0, .ref rm), (1, .int (i32 v1)), (3, .int (i32 v3)), (4, .int (i32 v4))] []) : ∀ (σ : Sg) (v1 : Int) (v3 : Int) (v4 : Int) (g1 : rng v1) (g3 : rng v3) (g4 : rng v4), w_X16_passMatch_15 ra jx rm K9 Q X σ v1 v3 v4 → RG σ → Shp dm ra jx rm σ → JJ p l e R s m args below meth c 10 D cA A n0 s0 QM σ 15 [(0, .ref rm), (1, .int (i32 v1)), (3, .int (i32 v3)), (4, .int (i32 v4))] [] := by
  intro σ v1 v3 v4 g1 g3 g4 h hGσ hS H locs ls hH hl hc
  have B := K.1
  unfold w_X16_passMatch_15 at h
  refine lv_aload_n B.1 B.2.1 dX16_passMatch_15 rfl (lv_at hl 0 rfl) ?_
  refine r_arr B hH hS 120 (kd := 103) (n := 4000) (by decide) (by decide) wf_X16_897 rfl rfl dX16_passMatch_16 ?_
  refine lv_iload B.1 B.2.1 dX16_passMatch_19 (lv_at hl 3 rfl) ?_
  refine lv_iconst (v := i32 0) B.1 B.2.1 dX16_passMatch_21 (by decide) ?_
  obtain ⟨q1, h⟩ := h
  obtain ⟨σ31, eσ31⟩ : ∃ z, z = pI σ (ra 120) v4.toNat (nZ 0) := ⟨_, rfl⟩
  have h := h σ31 eσ31
  refine x_zast B K.2.1 hH (hS.ar (k := 120) (kd := 103) (n := 4000) (by decide)) (by decide) q1 dX16_passMatch_22 (fun H locs hH => ?_)
  have hH : Hd D cA A s (pI σ (ra 120) v4.toNat (nZ 0)) H locs := hH
  rw [← eσ31] at hH
  have hGσ31 : RG σ31 := by rw [eσ31]; exact hGσ.pI (rng_toInt _)
  have hS : Shp dm ra jx rm σ31 := by rw [eσ31]; exact hS
  have hc : CB n0 s0 σ31 := by rw [eσ31]; exact hc
  rw [show gc σ = gc σ31 by rw [eσ31], show gs σ = gs σ31 by rw [eσ31]]
  obtain ⟨q3, h⟩ := h
  refine lv_iinc (k := 3) (v := i32 (v4 + 1)) (lv' := [(4, .int (i32 (v4 + 1))), (0, .ref rm), (1, .int (i32 v1)), (3, .int (i32 v3))]) B.1 B.2.1 dX16_passMatch_23 hl rfl (i32_add _ _) (by decide) rfl (fun ls hl => ?_)
  refine lv_goto (tgt := 9) B.1 B.2.1 dX16_passMatch_26 (by decide) ?_
  exact hK9 _ _ _ _ g1 g3 q3 h hGσ31 hS _ _ _ hH (lv_sub (l' := [(0, .ref rm), (1, .int (i32 v1)), (3, .int (i32 v3)), (4, .int (i32 (v4 + 1)))]) hl [1, 2, 3, 0] rfl) hc
set_option maxRecDepth 20000 in
theorem a_X16_passMatch_9 {Q : Sg → Unit → Prop} {X : Sg → String → Prop} (K : MC R p s m args c cX16_passMatch 10 RX16 D cA tys A n0 s0 3 86 []) (hQ : HQV p l e R s m args below meth c cX16_passMatch D cA A n0 s0 QM dm ra jx rm Q) (hX : HX p l e R s m args below meth c 10 D cA A n0 s0 QM dm ra jx rm X) {K9 : Sg → Int → Int → Int → Prop} (hK9 : ∀ (σ : Sg) (v1 : Int) (v3 : Int) (v4 : Int) (g1 : rng v1) (g3 : rng v3) (g4 : rng v4), K9 σ v1 v3 v4 → RG σ → Shp dm ra jx rm σ → JJ p l e R s m args below meth c 10 D cA A n0 s0 QM σ 9 [(0, .ref rm), (1, .int (i32 v1)), (3, .int (i32 v3)), (4, .int (i32 v4))] []) : ∀ (σ : Sg) (v1 : Int) (v3 : Int) (v4 : Int) (g1 : rng v1) (g3 : rng v3) (g4 : rng v4), w_X16_passMatch_9 ra jx rm K9 Q X σ v1 v3 v4 → RG σ → Shp dm ra jx rm σ → JJ p l e R s m args below meth c 10 D cA A n0 s0 QM σ 9 [(0, .ref rm), (1, .int (i32 v1)), (3, .int (i32 v3)), (4, .int (i32 v4))] [] := by
  intro σ v1 v3 v4 g1 g3 g4 h hGσ hS H locs ls hH hl hc
  have B := K.1
  unfold w_X16_passMatch_9 at h
  refine lv_iload B.1 B.2.1 dX16_passMatch_9 (lv_at hl 3 rfl) ?_
  refine lv_iload_n B.1 B.2.1 dX16_passMatch_11 rfl (lv_at hl 2 rfl) ?_
  refine lv_icmp_ge (tgt := 29) B.1 B.2.1 dX16_passMatch_12 (by decide) (fun h9 => ?_) (fun h9 => ?_)
  · rw [if_pos ((i32_le g3 g4).mp h9)] at h
    exact a_X16_passMatch_29 K hQ hX _ _ _ g1 g3 h hGσ hS _ _ _ hH (lv_sub (l' := [(0, .ref rm), (1, .int (i32 v1)), (3, .int (i32 v3))]) hl [0, 1, 2] rfl) hc
  · rw [if_neg (fun q => h9 ((i32_le g3 g4).mpr q))] at h
    exact a_X16_passMatch_15 K hQ hX hK9 _ _ _ _ g1 g3 g4 h hGσ hS _ _ _ hH (lv_sub (l' := [(0, .ref rm), (1, .int (i32 v1)), (3, .int (i32 v3)), (4, .int (i32 v4))]) hl [0, 1, 2, 3] rfl) hc
theorem al_X16_passMatch_9 {Q : Sg → Unit → Prop} {X : Sg → String → Prop} (K : MC R p s m args c cX16_passMatch 10 RX16 D cA tys A n0 s0 3 86 []) (hQ : HQV p l e R s m args below meth c cX16_passMatch D cA A n0 s0 QM dm ra jx rm Q) (hX : HX p l e R s m args below meth c 10 D cA A n0 s0 QM dm ra jx rm X) : ∀ (n : Nat), ∀ (σ : Sg) (v1 : Int) (v3 : Int) (v4 : Int) (g1 : rng v1) (g3 : rng v3) (g4 : rng v4), wl_X16_passMatch_9 ra jx rm Q X n σ v1 v3 v4 → RG σ → Shp dm ra jx rm σ → JJ p l e R s m args below meth c 10 D cA A n0 s0 QM σ 9 [(0, .ref rm), (1, .int (i32 v1)), (3, .int (i32 v3)), (4, .int (i32 v4))] [] := by
  intro n
  induction n with
  | zero => intro σ v1 v3 v4 g1 g3 g4 h; exact h.elim
  | succ n ih => exact fun σ v1 v3 v4 g1 g3 g4 h => a_X16_passMatch_9 K hQ hX ih σ v1 v3 v4 g1 g3 g4 h
set_option maxRecDepth 20000 in
theorem a_X16_passMatch_0 {Q : Sg → Unit → Prop} {X : Sg → String → Prop} (K : MC R p s m args c cX16_passMatch 10 RX16 D cA tys A n0 s0 3 86 []) (hQ : HQV p l e R s m args below meth c cX16_passMatch D cA A n0 s0 QM dm ra jx rm Q) (hX : HX p l e R s m args below meth c 10 D cA A n0 s0 QM dm ra jx rm X) : ∀ (σ : Sg) (v1 : Int) (v2 : Int) (g1 : rng v1) (g2 : rng v2), w_X16_passMatch_0 ra jx rm Q X σ v1 v2 → RG σ → Shp dm ra jx rm σ → JJ p l e R s m args below meth c 10 D cA A n0 s0 QM σ 0 [(0, .ref rm), (1, .int (i32 v1)), (2, .int (i32 v2))] [] := by
  intro σ v1 v2 g1 g2 h hGσ hS H locs ls hH hl hc
  have B := K.1
  unfold w_X16_passMatch_0 at h
  refine lv_aload_n B.1 B.2.1 dX16_passMatch_0 rfl (lv_at hl 0 rfl) ?_
  refine lv_iload_n B.1 B.2.1 dX16_passMatch_1 rfl (lv_at hl 2 rfl) ?_
  refine c_V B hH hl hc K.2.2.1 (C := RX16) (T := TX16) (N := 123) (ci := 16) (As := [.int (i32 v2)]) (ok_X16_sort K.2.1 σ v2 g2 hGσ hS h) wc_X16_883 1 hd_X16_sort ⟨Nat.le_trans (Nat.le_of_ble_eq_true rfl) K.2.2.2.1, Nat.le_trans (Nat.le_of_ble_eq_true rfl) K.2.2.2.2.1⟩ hS.1.1 hS.1.2 (by decide) rfl rfl (rest := []) rfl (Nat.le_of_ble_eq_true rfl) dX16_passMatch_2 (fun σ32 w hq => ?_) (fun σ9 E9 hx9 => hX σ9 E9 _ _ _ (tb_out K.2.2.2.2.2 rfl) hx9.1 hx9.2.1 hx9.2.2)
  obtain ⟨r33, rfl, gr33, h, hGσ32, hS⟩ := hq
  intro H locs ls hH hl hc
  refine W.eq (g2 := F0 m 5 ls [.int (i32 r33)]) (rfl) ?_
  try dsimp only at h
  refine lv_istore_n (lv' := [(3, .int (i32 r33)), (0, .ref rm), (1, .int (i32 v1)), (2, .int (i32 v2))]) B.1 B.2.1 dX16_passMatch_5 rfl hl (by decide) rfl (fun ls hl => ?_)
  refine lv_iconst (v := i32 0) B.1 B.2.1 dX16_passMatch_6 (by decide) ?_
  refine lv_istore (lv' := [(4, .int (i32 0)), (3, .int (i32 r33)), (0, .ref rm), (1, .int (i32 v1)), (2, .int (i32 v2))]) B.1 B.2.1 dX16_passMatch_7 hl (by decide) rfl (fun ls hl => ?_)
  obtain ⟨n9, h⟩ := h
  exact al_X16_passMatch_9 K hQ hX n9 _ _ _ _ g1 gr33 (by unfold rng; omega) h hGσ32 hS _ _ _ hH (lv_sub (l' := [(0, .ref rm), (1, .int (i32 v1)), (3, .int (i32 r33)), (4, .int (i32 0))]) hl [2, 3, 1, 0] rfl) hc
theorem ok_X16_passMatch (hT : Tys cA tys) {Q : Sg → Unit → Prop} {X : Sg → String → Prop} (σ : Sg) (v1 : Int) (v2 : Int) (g1 : rng v1) (g2 : rng v2) (hG : RG σ) (hS : Shp dm ra jx rm σ) (h : wp_X16_passMatch ra jx rm v1 v2 σ Q X) : Ok l D cA tys A yX16_passMatch (.code yX16_passMatch cX16_passMatch 10 none) 3 86 [.ref rm, .int (i32 v1), .int (i32 v2)] σ (QnV dm ra jx rm Q) (QxR dm ra jx rm X) := by
  unfold wp_X16_passMatch at h
  exact ok_V (plainFor_of_name (by decide)) (by exact Nat.le_of_ble_eq_true rfl) hT (fun p e R s m args below meth c K hQ hX H locs ls hH hl hc => a_X16_passMatch_0 K hQ hX σ v1 v2 g1 g2 h hG hS H locs ls hH (lv_sub (l' := [(0, .ref rm), (1, .int (i32 v1)), (2, .int (i32 v2))]) hl [0, 1, 2] rfl) hc)
theorem dX16_passSource_0 : decode cX16_passSource 0 = .ok (.aload_n 0, 1) := by decide +kernel
theorem dX16_passSource_1 : decode cX16_passSource 1 = .ok (.getfield 356, 3) := by decide +kernel
theorem dX16_passSource_4 : decode cX16_passSource 4 = .ok (.getfield 191, 3) := by decide +kernel
theorem dX16_passSource_7 : decode cX16_passSource 7 = .ok (.iload_n 1, 1) := by decide +kernel
theorem dX16_passSource_8 : decode cX16_passSource 8 = .ok (.laload, 1) := by decide +kernel
theorem dX16_passSource_9 : decode cX16_passSource 9 = .ok (.l2i, 1) := by decide +kernel
theorem dX16_passSource_10 : decode cX16_passSource 10 = .ok (.istore_n 2, 1) := by decide +kernel
theorem dX16_passSource_11 : decode cX16_passSource 11 = .ok (.ldc2_w 417, 3) := by decide +kernel
theorem dX16_passSource_14 : decode cX16_passSource 14 = .ok (.lstore_n 3, 1) := by decide +kernel
theorem dX16_passSource_15 : decode cX16_passSource 15 = .ok (.ldc2_w 417, 3) := by decide +kernel
theorem dX16_passSource_18 : decode cX16_passSource 18 = .ok (.lstore 5, 2) := by decide +kernel
theorem dX16_passSource_20 : decode cX16_passSource 20 = .ok (.bipush 64, 2) := by decide +kernel
theorem dX16_passSource_22 : decode cX16_passSource 22 = .ok (.iload_n 2, 1) := by decide +kernel
theorem dX16_passSource_23 : decode cX16_passSource 23 = .ok (.imul, 1) := by decide +kernel
theorem dX16_passSource_24 : decode cX16_passSource 24 = .ok (.istore 7, 2) := by decide +kernel
theorem dX16_passSource_26 : decode cX16_passSource 26 = .ok (.iload 7, 2) := by decide +kernel
theorem dX16_passSource_28 : decode cX16_passSource 28 = .ok (.bipush 64, 2) := by decide +kernel
theorem dX16_passSource_30 : decode cX16_passSource 30 = .ok (.iload_n 2, 1) := by decide +kernel
theorem dX16_passSource_31 : decode cX16_passSource 31 = .ok (.imul, 1) := by decide +kernel
theorem dX16_passSource_32 : decode cX16_passSource 32 = .ok (.aload_n 0, 1) := by decide +kernel
theorem dX16_passSource_33 : decode cX16_passSource 33 = .ok (.getfield 763, 3) := by decide +kernel
theorem dX16_passSource_36 : decode cX16_passSource 36 = .ok (.iload_n 2, 1) := by decide +kernel
theorem dX16_passSource_37 : decode cX16_passSource 37 = .ok (.iaload, 1) := by decide +kernel
theorem dX16_passSource_38 : decode cX16_passSource 38 = .ok (.iadd, 1) := by decide +kernel
theorem dX16_passSource_39 : decode cX16_passSource 39 = .ok (.if_icmp .ge 123, 3) := by decide +kernel
theorem dX16_passSource_42 : decode cX16_passSource 42 = .ok (.aload_n 0, 1) := by decide +kernel
theorem dX16_passSource_43 : decode cX16_passSource 43 = .ok (.getfield 754, 3) := by decide +kernel
theorem dX16_passSource_46 : decode cX16_passSource 46 = .ok (.iload 7, 2) := by decide +kernel
theorem dX16_passSource_48 : decode cX16_passSource 48 = .ok (.laload, 1) := by decide +kernel
theorem dX16_passSource_49 : decode cX16_passSource 49 = .ok (.lload_n 3, 1) := by decide +kernel
theorem dX16_passSource_50 : decode cX16_passSource 50 = .ok (.lcmp, 1) := by decide +kernel
theorem dX16_passSource_51 : decode cX16_passSource 51 = .ok (.ifCond .le 105, 3) := by decide +kernel
theorem dX16_passSource_54 : decode cX16_passSource 54 = .ok (.iconst 0, 1) := by decide +kernel
theorem dX16_passSource_55 : decode cX16_passSource 55 = .ok (.istore 8, 2) := by decide +kernel
theorem dX16_passSource_57 : decode cX16_passSource 57 = .ok (.iload 8, 2) := by decide +kernel
theorem dX16_passSource_59 : decode cX16_passSource 59 = .ok (.bipush 8, 2) := by decide +kernel
theorem dX16_passSource_61 : decode cX16_passSource 61 = .ok (.if_icmp .ge 46, 3) := by decide +kernel
theorem dX16_passSource_64 : decode cX16_passSource 64 = .ok (.aload_n 0, 1) := by decide +kernel
theorem dX16_passSource_65 : decode cX16_passSource 65 = .ok (.getfield 542, 3) := by decide +kernel
theorem dX16_passSource_68 : decode cX16_passSource 68 = .ok (.iload 8, 2) := by decide +kernel
theorem dX16_passSource_70 : decode cX16_passSource 70 = .ok (.iload 8, 2) := by decide +kernel
theorem dX16_passSource_72 : decode cX16_passSource 72 = .ok (.aload_n 0, 1) := by decide +kernel
theorem dX16_passSource_73 : decode cX16_passSource 73 = .ok (.getfield 356, 3) := by decide +kernel
theorem dX16_passSource_76 : decode cX16_passSource 76 = .ok (.getfield 178, 3) := by decide +kernel
theorem dX16_passSource_79 : decode cX16_passSource 79 = .ok (.iload_n 1, 1) := by decide +kernel
theorem dX16_passSource_80 : decode cX16_passSource 80 = .ok (.iaload, 1) := by decide +kernel
theorem dX16_passSource_81 : decode cX16_passSource 81 = .ok (.if_icmp .ge 18, 3) := by decide +kernel
theorem dX16_passSource_84 : decode cX16_passSource 84 = .ok (.aload_n 0, 1) := by decide +kernel
theorem dX16_passSource_85 : decode cX16_passSource 85 = .ok (.getfield 772, 3) := by decide +kernel
theorem dX16_passSource_88 : decode cX16_passSource 88 = .ok (.iconst 4, 1) := by decide +kernel
theorem dX16_passSource_89 : decode cX16_passSource 89 = .ok (.iload 7, 2) := by decide +kernel
theorem dX16_passSource_91 : decode cX16_passSource 91 = .ok (.imul, 1) := by decide +kernel
theorem dX16_passSource_92 : decode cX16_passSource 92 = .ok (.iload 8, 2) := by decide +kernel
theorem dX16_passSource_94 : decode cX16_passSource 94 = .ok (.iadd, 1) := by decide +kernel
theorem dX16_passSource_95 : decode cX16_passSource 95 = .ok (.laload, 1) := by decide +kernel
theorem dX16_passSource_96 : decode cX16_passSource 96 = .ok (.goto 4, 3) := by decide +kernel
theorem dX16_passSource_99 : decode cX16_passSource 99 = .ok (.lconst 0, 1) := by decide +kernel
theorem dX16_passSource_100 : decode cX16_passSource 100 = .ok (.lastore, 1) := by decide +kernel
theorem dX16_passSource_101 : decode cX16_passSource 101 = .ok (.iinc 8 1, 3) := by decide +kernel
theorem dX16_passSource_104 : decode cX16_passSource 104 = .ok (.goto (-47), 3) := by decide +kernel
theorem dX16_passSource_107 : decode cX16_passSource 107 = .ok (.aload_n 0, 1) := by decide +kernel
theorem dX16_passSource_108 : decode cX16_passSource 108 = .ok (.aload_n 0, 1) := by decide +kernel
theorem dX16_passSource_109 : decode cX16_passSource 109 = .ok (.getfield 754, 3) := by decide +kernel
theorem dX16_passSource_112 : decode cX16_passSource 112 = .ok (.iload 7, 2) := by decide +kernel
theorem dX16_passSource_114 : decode cX16_passSource 114 = .ok (.laload, 1) := by decide +kernel
theorem dX16_passSource_115 : decode cX16_passSource 115 = .ok (.aload_n 0, 1) := by decide +kernel
theorem dX16_passSource_116 : decode cX16_passSource 116 = .ok (.getfield 542, 3) := by decide +kernel
theorem dX16_passSource_119 : decode cX16_passSource 119 = .ok (.iconst 0, 1) := by decide +kernel
theorem dX16_passSource_120 : decode cX16_passSource 120 = .ok (.invokevirtual 870, 3) := by decide +kernel
theorem dX16_passSource_123 : decode cX16_passSource 123 = .ok (.lload 5, 2) := by decide +kernel
theorem dX16_passSource_125 : decode cX16_passSource 125 = .ok (.aload_n 0, 1) := by decide +kernel
theorem dX16_passSource_126 : decode cX16_passSource 126 = .ok (.getfield 754, 3) := by decide +kernel
theorem dX16_passSource_129 : decode cX16_passSource 129 = .ok (.iload 7, 2) := by decide +kernel
theorem dX16_passSource_131 : decode cX16_passSource 131 = .ok (.laload, 1) := by decide +kernel
theorem dX16_passSource_132 : decode cX16_passSource 132 = .ok (.invokestatic 586, 3) := by decide +kernel
theorem dX16_passSource_135 : decode cX16_passSource 135 = .ok (.lstore 5, 2) := by decide +kernel
theorem dX16_passSource_137 : decode cX16_passSource 137 = .ok (.lload_n 3, 1) := by decide +kernel
theorem dX16_passSource_138 : decode cX16_passSource 138 = .ok (.lload 5, 2) := by decide +kernel
theorem dX16_passSource_140 : decode cX16_passSource 140 = .ok (.aload_n 0, 1) := by decide +kernel
theorem dX16_passSource_141 : decode cX16_passSource 141 = .ok (.getfield 356, 3) := by decide +kernel
theorem dX16_passSource_144 : decode cX16_passSource 144 = .ok (.getfield 204, 3) := by decide +kernel
theorem dX16_passSource_147 : decode cX16_passSource 147 = .ok (.iload_n 1, 1) := by decide +kernel
theorem dX16_passSource_148 : decode cX16_passSource 148 = .ok (.laload, 1) := by decide +kernel
theorem dX16_passSource_149 : decode cX16_passSource 149 = .ok (.lsub, 1) := by decide +kernel
theorem dX16_passSource_150 : decode cX16_passSource 150 = .ok (.lconst 1, 1) := by decide +kernel
theorem dX16_passSource_151 : decode cX16_passSource 151 = .ok (.lsub, 1) := by decide +kernel
theorem dX16_passSource_152 : decode cX16_passSource 152 = .ok (.invokestatic 586, 3) := by decide +kernel
theorem dX16_passSource_155 : decode cX16_passSource 155 = .ok (.lstore_n 3, 1) := by decide +kernel
theorem dX16_passSource_156 : decode cX16_passSource 156 = .ok (.iinc 7 1, 3) := by decide +kernel
theorem dX16_passSource_159 : decode cX16_passSource 159 = .ok (.goto (-133), 3) := by decide +kernel
theorem dX16_passSource_162 : decode cX16_passSource 162 = .ok (.return_, 1) := by decide +kernel
set_option maxRecDepth 20000 in
theorem a_X16_passSource_162 {Q : Sg → Unit → Prop} {X : Sg → String → Prop} (K : MC R p s m args c cX16_passSource 9 RX16 D cA tys A n0 s0 1 25 []) (hQ : HQV p l e R s m args below meth c cX16_passSource D cA A n0 s0 QM dm ra jx rm Q) (hX : HX p l e R s m args below meth c 9 D cA A n0 s0 QM dm ra jx rm X) : ∀ (σ : Sg), w_X16_passSource_162 ra jx rm Q X σ → RG σ → Shp dm ra jx rm σ → JJ p l e R s m args below meth c 9 D cA A n0 s0 QM σ 162 [(0, .ref rm)] [] := by
  intro σ h hGσ hS H locs ls hH hl hc
  have B := K.1
  unfold w_X16_passSource_162 at h
  exact hQ _ _ _ _ _ dX16_passSource_162 hH hc h hGσ hS
set_option maxRecDepth 20000 in
theorem a_X16_passSource_156 {Q : Sg → Unit → Prop} {X : Sg → String → Prop} (K : MC R p s m args c cX16_passSource 9 RX16 D cA tys A n0 s0 1 25 []) (hQ : HQV p l e R s m args below meth c cX16_passSource D cA A n0 s0 QM dm ra jx rm Q) (hX : HX p l e R s m args below meth c 9 D cA A n0 s0 QM dm ra jx rm X) {K26 : Sg → Int → Int → Int64 → Int64 → Int → Prop} (hK26 : ∀ (σ : Sg) (v1 : Int) (v2 : Int) (v3 : Int64) (v5 : Int64) (v7 : Int) (g1 : rng v1) (g2 : rng v2) (g7 : rng v7), K26 σ v1 v2 v3 v5 v7 → RG σ → Shp dm ra jx rm σ → JJ p l e R s m args below meth c 9 D cA A n0 s0 QM σ 26 [(0, .ref rm), (1, .int (i32 v1)), (2, .int (i32 v2)), (3, .long v3), (5, .long v5), (7, .int (i32 v7))] []) : ∀ (σ : Sg) (v1 : Int) (v2 : Int) (v3 : Int64) (v5 : Int64) (v7 : Int) (g1 : rng v1) (g2 : rng v2) (g7 : rng v7), w_X16_passSource_156 ra jx rm K26 Q X σ v1 v2 v3 v5 v7 → RG σ → Shp dm ra jx rm σ → JJ p l e R s m args below meth c 9 D cA A n0 s0 QM σ 156 [(0, .ref rm), (1, .int (i32 v1)), (2, .int (i32 v2)), (3, .long v3), (5, .long v5), (7, .int (i32 v7))] [] := by
  intro σ v1 v2 v3 v5 v7 g1 g2 g7 h hGσ hS H locs ls hH hl hc
  have B := K.1
  unfold w_X16_passSource_156 at h
  obtain ⟨q1, h⟩ := h
  refine lv_iinc (k := 5) (v := i32 (v7 + 1)) (lv' := [(7, .int (i32 (v7 + 1))), (0, .ref rm), (1, .int (i32 v1)), (2, .int (i32 v2)), (3, .long v3), (5, .long v5)]) B.1 B.2.1 dX16_passSource_156 hl rfl (i32_add _ _) (by decide) rfl (fun ls hl => ?_)
  refine lv_goto (tgt := 26) B.1 B.2.1 dX16_passSource_159 (by decide) ?_
  exact hK26 _ _ _ _ _ _ g1 g2 q1 h hGσ hS _ _ _ hH (lv_sub (l' := [(0, .ref rm), (1, .int (i32 v1)), (2, .int (i32 v2)), (3, .long v3), (5, .long v5), (7, .int (i32 (v7 + 1)))]) hl [1, 2, 3, 4, 5, 0] rfl) hc
set_option maxRecDepth 20000 in
theorem a_X16_passSource_107 {Q : Sg → Unit → Prop} {X : Sg → String → Prop} (K : MC R p s m args c cX16_passSource 9 RX16 D cA tys A n0 s0 1 25 []) (hQ : HQV p l e R s m args below meth c cX16_passSource D cA A n0 s0 QM dm ra jx rm Q) (hX : HX p l e R s m args below meth c 9 D cA A n0 s0 QM dm ra jx rm X) {K26 : Sg → Int → Int → Int64 → Int64 → Int → Prop} (hK26 : ∀ (σ : Sg) (v1 : Int) (v2 : Int) (v3 : Int64) (v5 : Int64) (v7 : Int) (g1 : rng v1) (g2 : rng v2) (g7 : rng v7), K26 σ v1 v2 v3 v5 v7 → RG σ → Shp dm ra jx rm σ → JJ p l e R s m args below meth c 9 D cA A n0 s0 QM σ 26 [(0, .ref rm), (1, .int (i32 v1)), (2, .int (i32 v2)), (3, .long v3), (5, .long v5), (7, .int (i32 v7))] []) : ∀ (σ : Sg) (v1 : Int) (v2 : Int) (v3 : Int64) (v5 : Int64) (v7 : Int) (g1 : rng v1) (g2 : rng v2) (g7 : rng v7), w_X16_passSource_107 ra jx rm K26 Q X σ v1 v2 v3 v5 v7 → RG σ → Shp dm ra jx rm σ → JJ p l e R s m args below meth c 9 D cA A n0 s0 QM σ 107 [(0, .ref rm), (1, .int (i32 v1)), (2, .int (i32 v2)), (3, .long v3), (5, .long v5), (7, .int (i32 v7))] [] := by
  intro σ v1 v2 v3 v5 v7 g1 g2 g7 h hGσ hS H locs ls hH hl hc
  have B := K.1
  unfold w_X16_passSource_107 at h
  refine lv_aload_n B.1 B.2.1 dX16_passSource_107 rfl (lv_at hl 0 rfl) ?_
  refine lv_aload_n B.1 B.2.1 dX16_passSource_108 rfl (lv_at hl 0 rfl) ?_
  refine r_arr B hH hS 23 (kd := 101) (n := 256) (by decide) (by decide) wf_X16_754 rfl rfl dX16_passSource_109 ?_
  refine lv_iload B.1 B.2.1 dX16_passSource_112 (lv_at hl 5 rfl) ?_
  obtain ⟨q1, h⟩ := h
  refine x_lald B K.2.1 hH (hS.ar (k := 23) (kd := 101) (n := 256) (by decide)) (by decide) q1 dX16_passSource_114 ?_
  refine lv_aload_n B.1 B.2.1 dX16_passSource_115 rfl (lv_at hl 0 rfl) ?_
  refine r_arr B hH hS 81 (kd := 101) (n := 8) (by decide) (by decide) wf_X16_542 rfl rfl dX16_passSource_116 ?_
  refine lv_iconst (v := i32 0) B.1 B.2.1 dX16_passSource_119 (by decide) ?_
  refine c_V B hH hl hc K.2.2.1 (C := RX16) (T := TX16) (N := 123) (ci := 16) (As := [.long (gJ σ (ra 23) v7.toNat), va_rf (some (ra 81)), .int (i32 0)]) (ok_X16_pass K.2.1 σ (gJ σ (ra 23) v7.toNat) (some (ra 81)) 0 (by unfold rng; omega) hGσ hS h) wc_X16_870 3 hd_X16_pass ⟨Nat.le_trans (Nat.le_of_ble_eq_true rfl) K.2.2.2.1, Nat.le_trans (Nat.le_of_ble_eq_true rfl) K.2.2.2.2.1⟩ hS.1.1 hS.1.2 (by decide) rfl rfl (rest := []) rfl (Nat.le_of_ble_eq_true rfl) dX16_passSource_120 (fun σ11 w hq => ?_) (fun σ9 E9 hx9 => hX σ9 E9 _ _ _ (tb_out K.2.2.2.2.2 rfl) hx9.1 hx9.2.1 hx9.2.2)
  obtain ⟨rfl, h, hGσ11, hS⟩ := hq
  intro H locs ls hH hl hc
  refine W.eq (g2 := F0 m 123 ls []) (rfl) ?_
  try dsimp only at h
  refine lv_lload B.1 B.2.1 dX16_passSource_123 (lv_at hl 4 rfl) ?_
  refine lv_aload_n B.1 B.2.1 dX16_passSource_125 rfl (lv_at hl 0 rfl) ?_
  refine r_arr B hH hS 23 (kd := 101) (n := 256) (by decide) (by decide) wf_X16_754 rfl rfl dX16_passSource_126 ?_
  refine lv_iload B.1 B.2.1 dX16_passSource_129 (lv_at hl 5 rfl) ?_
  obtain ⟨q2, h⟩ := h
  refine x_lald B K.2.1 hH (hS.ar (k := 23) (kd := 101) (n := 256) (by decide)) (by decide) q2 dX16_passSource_131 ?_
  refine c_S B hH hl hc K.2.2.1 (As := [.long v5, .long (gJ σ11 (ra 23) v7.toNat)]) (ok_J9_max_f86c9 (dm := dm) (ra := ra) (jx := jx) (rm := rm) K.2.1 σ11 v5 (gJ σ11 (ra 23) v7.toNat) hGσ11 hS mj_J9_max_f86c9) wc_X16_586 2 hd_J9_max_f86c9 ⟨Nat.le_trans (Nat.le_of_ble_eq_true rfl) K.2.2.2.1, Nat.le_trans (Nat.le_of_ble_eq_true rfl) K.2.2.2.2.1⟩ rfl (rest := []) rfl (Nat.le_of_ble_eq_true rfl) dX16_passSource_132 (fun σm3 w hq => ?_) (fun σ9 E9 hx9 => False.elim hx9.1)
  obtain ⟨rm9, rfl, ⟨e9, rfl⟩, hG9, hS9⟩ := hq
  subst e9
  intro H locs ls hH hl hc
  refine W.eq (g2 := F0 m 135 ls [.long (maxJ v5 (gJ σ11 (ra 23) v7.toNat))]) (rfl) ?_
  refine lv_lstore (lv' := [(5, .long (maxJ v5 (gJ σ11 (ra 23) v7.toNat))), (0, .ref rm), (1, .int (i32 v1)), (2, .int (i32 v2)), (3, .long v3), (7, .int (i32 v7))]) B.1 B.2.1 dX16_passSource_135 hl (by decide) rfl (fun ls hl => ?_)
  refine lv_lload_n B.1 B.2.1 dX16_passSource_137 rfl (lv_at hl 4 rfl) ?_
  refine lv_lload B.1 B.2.1 dX16_passSource_138 (lv_at hl 0 rfl) ?_
  refine lv_aload_n B.1 B.2.1 dX16_passSource_140 rfl (lv_at hl 1 rfl) ?_
  refine r_getp B hH hS 17 (by decide) wf_X16_356 rfl rfl dX16_passSource_141 ?_
  obtain ⟨a12, ea12, ja12, h⟩ := h
  refine W.eq (g2 := F0 m 144 ls [.ref a12, .long (maxJ v5 (gJ σ11 (ra 23) v7.toNat)), .long v3]) (by rw [ea12]; rfl) ?_
  refine n_arr B hH hS ja12 9 (kd := 101) (n := 16) (by decide) (by decide) (List.mem_of_getElem? (i := 9) rfl) rfl dX16_passSource_144 ?_
  refine lv_iload_n B.1 B.2.1 dX16_passSource_147 rfl (lv_at hl 2 rfl) ?_
  obtain ⟨q5, h⟩ := h
  refine x_lald B K.2.1 hH (hS.ja ja12 (k := 9) (kd := 101) (n := 16) (by decide)) (by decide) q5 dX16_passSource_148 ?_
  refine lv_lsub B.1 B.2.1 dX16_passSource_149 ?_
  refine lv_lconst (v := 1) B.1 B.2.1 dX16_passSource_150 (by decide) ?_
  refine lv_lsub B.1 B.2.1 dX16_passSource_151 ?_
  refine c_S B hH hl hc K.2.2.1 (As := [.long v3, .long (((maxJ v5 (gJ σ11 (ra 23) v7.toNat)) - (gJ σ11 (jx a12 9) v1.toNat)) - 1)]) (ok_J9_max_f86c9 (dm := dm) (ra := ra) (jx := jx) (rm := rm) K.2.1 σ11 v3 (((maxJ v5 (gJ σ11 (ra 23) v7.toNat)) - (gJ σ11 (jx a12 9) v1.toNat)) - 1) hGσ11 hS mj_J9_max_f86c9) wc_X16_586 2 hd_J9_max_f86c9 ⟨Nat.le_trans (Nat.le_of_ble_eq_true rfl) K.2.2.2.1, Nat.le_trans (Nat.le_of_ble_eq_true rfl) K.2.2.2.2.1⟩ rfl (rest := []) rfl (Nat.le_of_ble_eq_true rfl) dX16_passSource_152 (fun σm6 w hq => ?_) (fun σ9 E9 hx9 => False.elim hx9.1)
  obtain ⟨rm9, rfl, ⟨e9, rfl⟩, hG9, hS9⟩ := hq
  subst e9
  intro H locs ls hH hl hc
  refine W.eq (g2 := F0 m 155 ls [.long (maxJ v3 (((maxJ v5 (gJ σ11 (ra 23) v7.toNat)) - (gJ σ11 (jx a12 9) v1.toNat)) - 1))]) (rfl) ?_
  refine lv_lstore_n (lv' := [(3, .long (maxJ v3 (((maxJ v5 (gJ σ11 (ra 23) v7.toNat)) - (gJ σ11 (jx a12 9) v1.toNat)) - 1))), (5, .long (maxJ v5 (gJ σ11 (ra 23) v7.toNat))), (0, .ref rm), (1, .int (i32 v1)), (2, .int (i32 v2)), (7, .int (i32 v7))]) B.1 B.2.1 dX16_passSource_155 rfl hl (by decide) rfl (fun ls hl => ?_)
  exact a_X16_passSource_156 K hQ hX hK26 _ _ _ _ _ _ g1 g2 g7 h hGσ11 hS _ _ _ hH (lv_sub (l' := [(0, .ref rm), (1, .int (i32 v1)), (2, .int (i32 v2)), (3, .long (maxJ v3 (((maxJ v5 (gJ σ11 (ra 23) v7.toNat)) - (gJ σ11 (jx a12 9) v1.toNat)) - 1))), (5, .long (maxJ v5 (gJ σ11 (ra 23) v7.toNat))), (7, .int (i32 v7))]) hl [2, 3, 4, 0, 1, 5] rfl) hc
set_option maxRecDepth 20000 in
theorem a_X16_passSource_100 {Q : Sg → Unit → Prop} {X : Sg → String → Prop} (K : MC R p s m args c cX16_passSource 9 RX16 D cA tys A n0 s0 1 25 []) (hQ : HQV p l e R s m args below meth c cX16_passSource D cA A n0 s0 QM dm ra jx rm Q) (hX : HX p l e R s m args below meth c 9 D cA A n0 s0 QM dm ra jx rm X) {K26 : Sg → Int → Int → Int64 → Int64 → Int → Prop} (hK26 : ∀ (σ : Sg) (v1 : Int) (v2 : Int) (v3 : Int64) (v5 : Int64) (v7 : Int) (g1 : rng v1) (g2 : rng v2) (g7 : rng v7), K26 σ v1 v2 v3 v5 v7 → RG σ → Shp dm ra jx rm σ → JJ p l e R s m args below meth c 9 D cA A n0 s0 QM σ 26 [(0, .ref rm), (1, .int (i32 v1)), (2, .int (i32 v2)), (3, .long v3), (5, .long v5), (7, .int (i32 v7))] []) {K57 : Sg → Int → Int → Int64 → Int64 → Int → Int → Prop} (hK57 : ∀ (σ : Sg) (v1 : Int) (v2 : Int) (v3 : Int64) (v5 : Int64) (v7 : Int) (v8 : Int) (g1 : rng v1) (g2 : rng v2) (g7 : rng v7) (g8 : rng v8), K57 σ v1 v2 v3 v5 v7 v8 → RG σ → Shp dm ra jx rm σ → JJ p l e R s m args below meth c 9 D cA A n0 s0 QM σ 57 [(0, .ref rm), (1, .int (i32 v1)), (2, .int (i32 v2)), (3, .long v3), (5, .long v5), (7, .int (i32 v7)), (8, .int (i32 v8))] []) : ∀ (σ : Sg) (v1 : Int) (v2 : Int) (v3 : Int64) (v5 : Int64) (v7 : Int) (v8 : Int) (u0 : Int64) (u1 : Int) (g1 : rng v1) (g2 : rng v2) (g7 : rng v7) (g8 : rng v8) (gu1 : rng u1), w_X16_passSource_100 ra jx rm K26 K57 Q X σ v1 v2 v3 v5 v7 v8 u0 u1 → RG σ → Shp dm ra jx rm σ → JJ p l e R s m args below meth c 9 D cA A n0 s0 QM σ 100 [(0, .ref rm), (1, .int (i32 v1)), (2, .int (i32 v2)), (3, .long v3), (5, .long v5), (7, .int (i32 v7)), (8, .int (i32 v8))] [.long u0, .int (i32 u1), .ref (ra 81)] := by
  intro σ v1 v2 v3 v5 v7 v8 u0 u1 g1 g2 g7 g8 gu1 h hGσ hS H locs ls hH hl hc
  have B := K.1
  unfold w_X16_passSource_100 at h
  obtain ⟨q1, h⟩ := h
  obtain ⟨σ13, eσ13⟩ : ∃ z, z = pJ σ (ra 81) u1.toNat u0 := ⟨_, rfl⟩
  have h := h σ13 eσ13
  refine x_last B K.2.1 hH (hS.ar (k := 81) (kd := 101) (n := 8) (by decide)) (by decide) q1 dX16_passSource_100 (fun H locs hH => ?_)
  have hH : Hd D cA A s (pJ σ (ra 81) u1.toNat u0) H locs := hH
  rw [← eσ13] at hH
  have hGσ13 : RG σ13 := by rw [eσ13]; exact hGσ.pJ
  have hS : Shp dm ra jx rm σ13 := by rw [eσ13]; exact hS
  have hc : CB n0 s0 σ13 := by rw [eσ13]; exact hc
  rw [show gc σ = gc σ13 by rw [eσ13], show gs σ = gs σ13 by rw [eσ13]]
  obtain ⟨q3, h⟩ := h
  refine lv_iinc (k := 6) (v := i32 (v8 + 1)) (lv' := [(8, .int (i32 (v8 + 1))), (0, .ref rm), (1, .int (i32 v1)), (2, .int (i32 v2)), (3, .long v3), (5, .long v5), (7, .int (i32 v7))]) B.1 B.2.1 dX16_passSource_101 hl rfl (i32_add _ _) (by decide) rfl (fun ls hl => ?_)
  refine lv_goto (tgt := 57) B.1 B.2.1 dX16_passSource_104 (by decide) ?_
  exact hK57 _ _ _ _ _ _ _ g1 g2 g7 q3 h hGσ13 hS _ _ _ hH (lv_sub (l' := [(0, .ref rm), (1, .int (i32 v1)), (2, .int (i32 v2)), (3, .long v3), (5, .long v5), (7, .int (i32 v7)), (8, .int (i32 (v8 + 1)))]) hl [1, 2, 3, 4, 5, 6, 0] rfl) hc
set_option maxRecDepth 20000 in
theorem a_X16_passSource_99 {Q : Sg → Unit → Prop} {X : Sg → String → Prop} (K : MC R p s m args c cX16_passSource 9 RX16 D cA tys A n0 s0 1 25 []) (hQ : HQV p l e R s m args below meth c cX16_passSource D cA A n0 s0 QM dm ra jx rm Q) (hX : HX p l e R s m args below meth c 9 D cA A n0 s0 QM dm ra jx rm X) {K26 : Sg → Int → Int → Int64 → Int64 → Int → Prop} (hK26 : ∀ (σ : Sg) (v1 : Int) (v2 : Int) (v3 : Int64) (v5 : Int64) (v7 : Int) (g1 : rng v1) (g2 : rng v2) (g7 : rng v7), K26 σ v1 v2 v3 v5 v7 → RG σ → Shp dm ra jx rm σ → JJ p l e R s m args below meth c 9 D cA A n0 s0 QM σ 26 [(0, .ref rm), (1, .int (i32 v1)), (2, .int (i32 v2)), (3, .long v3), (5, .long v5), (7, .int (i32 v7))] []) {K57 : Sg → Int → Int → Int64 → Int64 → Int → Int → Prop} (hK57 : ∀ (σ : Sg) (v1 : Int) (v2 : Int) (v3 : Int64) (v5 : Int64) (v7 : Int) (v8 : Int) (g1 : rng v1) (g2 : rng v2) (g7 : rng v7) (g8 : rng v8), K57 σ v1 v2 v3 v5 v7 v8 → RG σ → Shp dm ra jx rm σ → JJ p l e R s m args below meth c 9 D cA A n0 s0 QM σ 57 [(0, .ref rm), (1, .int (i32 v1)), (2, .int (i32 v2)), (3, .long v3), (5, .long v5), (7, .int (i32 v7)), (8, .int (i32 v8))] []) : ∀ (σ : Sg) (v1 : Int) (v2 : Int) (v3 : Int64) (v5 : Int64) (v7 : Int) (v8 : Int) (u0 : Int) (g1 : rng v1) (g2 : rng v2) (g7 : rng v7) (g8 : rng v8) (gu0 : rng u0), w_X16_passSource_99 ra jx rm K26 K57 Q X σ v1 v2 v3 v5 v7 v8 u0 → RG σ → Shp dm ra jx rm σ → JJ p l e R s m args below meth c 9 D cA A n0 s0 QM σ 99 [(0, .ref rm), (1, .int (i32 v1)), (2, .int (i32 v2)), (3, .long v3), (5, .long v5), (7, .int (i32 v7)), (8, .int (i32 v8))] [.int (i32 u0), .ref (ra 81)] := by
  intro σ v1 v2 v3 v5 v7 v8 u0 g1 g2 g7 g8 gu0 h hGσ hS H locs ls hH hl hc
  have B := K.1
  unfold w_X16_passSource_99 at h
  refine lv_lconst (v := 0) B.1 B.2.1 dX16_passSource_99 (by decide) ?_
  exact a_X16_passSource_100 K hQ hX hK26 hK57 _ _ _ _ _ _ _ _ _ g1 g2 g7 g8 gu0 h hGσ hS _ _ _ hH (lv_sub (l' := [(0, .ref rm), (1, .int (i32 v1)), (2, .int (i32 v2)), (3, .long v3), (5, .long v5), (7, .int (i32 v7)), (8, .int (i32 v8))]) hl [0, 1, 2, 3, 4, 5, 6] rfl) hc
set_option maxRecDepth 20000 in
theorem a_X16_passSource_84 {Q : Sg → Unit → Prop} {X : Sg → String → Prop} (K : MC R p s m args c cX16_passSource 9 RX16 D cA tys A n0 s0 1 25 []) (hQ : HQV p l e R s m args below meth c cX16_passSource D cA A n0 s0 QM dm ra jx rm Q) (hX : HX p l e R s m args below meth c 9 D cA A n0 s0 QM dm ra jx rm X) {K26 : Sg → Int → Int → Int64 → Int64 → Int → Prop} (hK26 : ∀ (σ : Sg) (v1 : Int) (v2 : Int) (v3 : Int64) (v5 : Int64) (v7 : Int) (g1 : rng v1) (g2 : rng v2) (g7 : rng v7), K26 σ v1 v2 v3 v5 v7 → RG σ → Shp dm ra jx rm σ → JJ p l e R s m args below meth c 9 D cA A n0 s0 QM σ 26 [(0, .ref rm), (1, .int (i32 v1)), (2, .int (i32 v2)), (3, .long v3), (5, .long v5), (7, .int (i32 v7))] []) {K57 : Sg → Int → Int → Int64 → Int64 → Int → Int → Prop} (hK57 : ∀ (σ : Sg) (v1 : Int) (v2 : Int) (v3 : Int64) (v5 : Int64) (v7 : Int) (v8 : Int) (g1 : rng v1) (g2 : rng v2) (g7 : rng v7) (g8 : rng v8), K57 σ v1 v2 v3 v5 v7 v8 → RG σ → Shp dm ra jx rm σ → JJ p l e R s m args below meth c 9 D cA A n0 s0 QM σ 57 [(0, .ref rm), (1, .int (i32 v1)), (2, .int (i32 v2)), (3, .long v3), (5, .long v5), (7, .int (i32 v7)), (8, .int (i32 v8))] []) : ∀ (σ : Sg) (v1 : Int) (v2 : Int) (v3 : Int64) (v5 : Int64) (v7 : Int) (v8 : Int) (u0 : Int) (g1 : rng v1) (g2 : rng v2) (g7 : rng v7) (g8 : rng v8) (gu0 : rng u0), w_X16_passSource_84 ra jx rm K26 K57 Q X σ v1 v2 v3 v5 v7 v8 u0 → RG σ → Shp dm ra jx rm σ → JJ p l e R s m args below meth c 9 D cA A n0 s0 QM σ 84 [(0, .ref rm), (1, .int (i32 v1)), (2, .int (i32 v2)), (3, .long v3), (5, .long v5), (7, .int (i32 v7)), (8, .int (i32 v8))] [.int (i32 u0), .ref (ra 81)] := by
  intro σ v1 v2 v3 v5 v7 v8 u0 g1 g2 g7 g8 gu0 h hGσ hS H locs ls hH hl hc
  have B := K.1
  unfold w_X16_passSource_84 at h
  refine lv_aload_n B.1 B.2.1 dX16_passSource_84 rfl (lv_at hl 0 rfl) ?_
  refine r_arr B hH hS 24 (kd := 101) (n := 1024) (by decide) (by decide) wf_X16_772 rfl rfl dX16_passSource_85 ?_
  refine lv_iconst (v := i32 4) B.1 B.2.1 dX16_passSource_88 (by decide) ?_
  refine lv_iload B.1 B.2.1 dX16_passSource_89 (lv_at hl 5 rfl) ?_
  obtain ⟨q1, h⟩ := h
  refine lv_imul B.1 B.2.1 dX16_passSource_91 ?_
  rw [i32_mul]
  refine lv_iload B.1 B.2.1 dX16_passSource_92 (lv_at hl 6 rfl) ?_
  obtain ⟨q2, h⟩ := h
  refine lv_iadd B.1 B.2.1 dX16_passSource_94 ?_
  rw [i32_add]
  obtain ⟨q3, h⟩ := h
  refine x_lald B K.2.1 hH (hS.ar (k := 24) (kd := 101) (n := 1024) (by decide)) (by decide) q3 dX16_passSource_95 ?_
  refine lv_goto (tgt := 100) B.1 B.2.1 dX16_passSource_96 (by decide) ?_
  exact a_X16_passSource_100 K hQ hX hK26 hK57 _ _ _ _ _ _ _ _ _ g1 g2 g7 g8 gu0 h hGσ hS _ _ _ hH (lv_sub (l' := [(0, .ref rm), (1, .int (i32 v1)), (2, .int (i32 v2)), (3, .long v3), (5, .long v5), (7, .int (i32 v7)), (8, .int (i32 v8))]) hl [0, 1, 2, 3, 4, 5, 6] rfl) hc
set_option maxRecDepth 20000 in
theorem a_X16_passSource_64 {Q : Sg → Unit → Prop} {X : Sg → String → Prop} (K : MC R p s m args c cX16_passSource 9 RX16 D cA tys A n0 s0 1 25 []) (hQ : HQV p l e R s m args below meth c cX16_passSource D cA A n0 s0 QM dm ra jx rm Q) (hX : HX p l e R s m args below meth c 9 D cA A n0 s0 QM dm ra jx rm X) {K26 : Sg → Int → Int → Int64 → Int64 → Int → Prop} (hK26 : ∀ (σ : Sg) (v1 : Int) (v2 : Int) (v3 : Int64) (v5 : Int64) (v7 : Int) (g1 : rng v1) (g2 : rng v2) (g7 : rng v7), K26 σ v1 v2 v3 v5 v7 → RG σ → Shp dm ra jx rm σ → JJ p l e R s m args below meth c 9 D cA A n0 s0 QM σ 26 [(0, .ref rm), (1, .int (i32 v1)), (2, .int (i32 v2)), (3, .long v3), (5, .long v5), (7, .int (i32 v7))] []) {K57 : Sg → Int → Int → Int64 → Int64 → Int → Int → Prop} (hK57 : ∀ (σ : Sg) (v1 : Int) (v2 : Int) (v3 : Int64) (v5 : Int64) (v7 : Int) (v8 : Int) (g1 : rng v1) (g2 : rng v2) (g7 : rng v7) (g8 : rng v8), K57 σ v1 v2 v3 v5 v7 v8 → RG σ → Shp dm ra jx rm σ → JJ p l e R s m args below meth c 9 D cA A n0 s0 QM σ 57 [(0, .ref rm), (1, .int (i32 v1)), (2, .int (i32 v2)), (3, .long v3), (5, .long v5), (7, .int (i32 v7)), (8, .int (i32 v8))] []) : ∀ (σ : Sg) (v1 : Int) (v2 : Int) (v3 : Int64) (v5 : Int64) (v7 : Int) (v8 : Int) (g1 : rng v1) (g2 : rng v2) (g7 : rng v7) (g8 : rng v8), w_X16_passSource_64 ra jx rm K26 K57 Q X σ v1 v2 v3 v5 v7 v8 → RG σ → Shp dm ra jx rm σ → JJ p l e R s m args below meth c 9 D cA A n0 s0 QM σ 64 [(0, .ref rm), (1, .int (i32 v1)), (2, .int (i32 v2)), (3, .long v3), (5, .long v5), (7, .int (i32 v7)), (8, .int (i32 v8))] [] := by
  intro σ v1 v2 v3 v5 v7 v8 g1 g2 g7 g8 h hGσ hS H locs ls hH hl hc
  have B := K.1
  unfold w_X16_passSource_64 at h
  refine lv_aload_n B.1 B.2.1 dX16_passSource_64 rfl (lv_at hl 0 rfl) ?_
  refine r_arr B hH hS 81 (kd := 101) (n := 8) (by decide) (by decide) wf_X16_542 rfl rfl dX16_passSource_65 ?_
  refine lv_iload B.1 B.2.1 dX16_passSource_68 (lv_at hl 6 rfl) ?_
  refine lv_iload B.1 B.2.1 dX16_passSource_70 (lv_at hl 6 rfl) ?_
  refine lv_aload_n B.1 B.2.1 dX16_passSource_72 rfl (lv_at hl 0 rfl) ?_
  refine r_getp B hH hS 17 (by decide) wf_X16_356 rfl rfl dX16_passSource_73 ?_
  obtain ⟨a14, ea14, ja14, h⟩ := h
  refine W.eq (g2 := F0 m 76 ls [.ref a14, .int (i32 v8), .int (i32 v8), .ref (ra 81)]) (by rw [ea14]; rfl) ?_
  refine n_arr B hH hS ja14 6 (kd := 100) (n := 16) (by decide) (by decide) (List.mem_of_getElem? (i := 6) rfl) rfl dX16_passSource_76 ?_
  refine lv_iload_n B.1 B.2.1 dX16_passSource_79 rfl (lv_at hl 1 rfl) ?_
  obtain ⟨q2, h⟩ := h
  refine x_iald B K.2.1 hH (hS.ja ja14 (k := 6) (kd := 100) (n := 16) (by decide)) (by decide) q2 dX16_passSource_80 ?_
  refine lv_icmp_ge (tgt := 99) B.1 B.2.1 dX16_passSource_81 (by decide) (fun h9 => ?_) (fun h9 => ?_)
  · rw [if_pos ((i32_le (hGσ _ _) g8).mp h9)] at h
    exact a_X16_passSource_99 K hQ hX hK26 hK57 _ _ _ _ _ _ _ _ g1 g2 g7 g8 g8 h hGσ hS _ _ _ hH (lv_sub (l' := [(0, .ref rm), (1, .int (i32 v1)), (2, .int (i32 v2)), (3, .long v3), (5, .long v5), (7, .int (i32 v7)), (8, .int (i32 v8))]) hl [0, 1, 2, 3, 4, 5, 6] rfl) hc
  · rw [if_neg (fun q => h9 ((i32_le (hGσ _ _) g8).mpr q))] at h
    exact a_X16_passSource_84 K hQ hX hK26 hK57 _ _ _ _ _ _ _ _ g1 g2 g7 g8 g8 h hGσ hS _ _ _ hH (lv_sub (l' := [(0, .ref rm), (1, .int (i32 v1)), (2, .int (i32 v2)), (3, .long v3), (5, .long v5), (7, .int (i32 v7)), (8, .int (i32 v8))]) hl [0, 1, 2, 3, 4, 5, 6] rfl) hc
set_option maxRecDepth 20000 in
theorem a_X16_passSource_57 {Q : Sg → Unit → Prop} {X : Sg → String → Prop} (K : MC R p s m args c cX16_passSource 9 RX16 D cA tys A n0 s0 1 25 []) (hQ : HQV p l e R s m args below meth c cX16_passSource D cA A n0 s0 QM dm ra jx rm Q) (hX : HX p l e R s m args below meth c 9 D cA A n0 s0 QM dm ra jx rm X) {K26 : Sg → Int → Int → Int64 → Int64 → Int → Prop} (hK26 : ∀ (σ : Sg) (v1 : Int) (v2 : Int) (v3 : Int64) (v5 : Int64) (v7 : Int) (g1 : rng v1) (g2 : rng v2) (g7 : rng v7), K26 σ v1 v2 v3 v5 v7 → RG σ → Shp dm ra jx rm σ → JJ p l e R s m args below meth c 9 D cA A n0 s0 QM σ 26 [(0, .ref rm), (1, .int (i32 v1)), (2, .int (i32 v2)), (3, .long v3), (5, .long v5), (7, .int (i32 v7))] []) {K57 : Sg → Int → Int → Int64 → Int64 → Int → Int → Prop} (hK57 : ∀ (σ : Sg) (v1 : Int) (v2 : Int) (v3 : Int64) (v5 : Int64) (v7 : Int) (v8 : Int) (g1 : rng v1) (g2 : rng v2) (g7 : rng v7) (g8 : rng v8), K57 σ v1 v2 v3 v5 v7 v8 → RG σ → Shp dm ra jx rm σ → JJ p l e R s m args below meth c 9 D cA A n0 s0 QM σ 57 [(0, .ref rm), (1, .int (i32 v1)), (2, .int (i32 v2)), (3, .long v3), (5, .long v5), (7, .int (i32 v7)), (8, .int (i32 v8))] []) : ∀ (σ : Sg) (v1 : Int) (v2 : Int) (v3 : Int64) (v5 : Int64) (v7 : Int) (v8 : Int) (g1 : rng v1) (g2 : rng v2) (g7 : rng v7) (g8 : rng v8), w_X16_passSource_57 ra jx rm K26 K57 Q X σ v1 v2 v3 v5 v7 v8 → RG σ → Shp dm ra jx rm σ → JJ p l e R s m args below meth c 9 D cA A n0 s0 QM σ 57 [(0, .ref rm), (1, .int (i32 v1)), (2, .int (i32 v2)), (3, .long v3), (5, .long v5), (7, .int (i32 v7)), (8, .int (i32 v8))] [] := by
  intro σ v1 v2 v3 v5 v7 v8 g1 g2 g7 g8 h hGσ hS H locs ls hH hl hc
  have B := K.1
  unfold w_X16_passSource_57 at h
  refine lv_iload B.1 B.2.1 dX16_passSource_57 (lv_at hl 6 rfl) ?_
  refine lv_bipush (v := i32 8) B.1 B.2.1 dX16_passSource_59 (by decide) ?_
  refine lv_icmp_ge (tgt := 107) B.1 B.2.1 dX16_passSource_61 (by decide) (fun h9 => ?_) (fun h9 => ?_)
  · rw [if_pos ((i32_le (by unfold rng; omega) g8).mp h9)] at h
    exact a_X16_passSource_107 K hQ hX hK26 _ _ _ _ _ _ g1 g2 g7 h hGσ hS _ _ _ hH (lv_sub (l' := [(0, .ref rm), (1, .int (i32 v1)), (2, .int (i32 v2)), (3, .long v3), (5, .long v5), (7, .int (i32 v7))]) hl [0, 1, 2, 3, 4, 5] rfl) hc
  · rw [if_neg (fun q => h9 ((i32_le (by unfold rng; omega) g8).mpr q))] at h
    exact a_X16_passSource_64 K hQ hX hK26 hK57 _ _ _ _ _ _ _ g1 g2 g7 g8 h hGσ hS _ _ _ hH (lv_sub (l' := [(0, .ref rm), (1, .int (i32 v1)), (2, .int (i32 v2)), (3, .long v3), (5, .long v5), (7, .int (i32 v7)), (8, .int (i32 v8))]) hl [0, 1, 2, 3, 4, 5, 6] rfl) hc
theorem al_X16_passSource_57 {Q : Sg → Unit → Prop} {X : Sg → String → Prop} (K : MC R p s m args c cX16_passSource 9 RX16 D cA tys A n0 s0 1 25 []) (hQ : HQV p l e R s m args below meth c cX16_passSource D cA A n0 s0 QM dm ra jx rm Q) (hX : HX p l e R s m args below meth c 9 D cA A n0 s0 QM dm ra jx rm X) {K26 : Sg → Int → Int → Int64 → Int64 → Int → Prop} (hK26 : ∀ (σ : Sg) (v1 : Int) (v2 : Int) (v3 : Int64) (v5 : Int64) (v7 : Int) (g1 : rng v1) (g2 : rng v2) (g7 : rng v7), K26 σ v1 v2 v3 v5 v7 → RG σ → Shp dm ra jx rm σ → JJ p l e R s m args below meth c 9 D cA A n0 s0 QM σ 26 [(0, .ref rm), (1, .int (i32 v1)), (2, .int (i32 v2)), (3, .long v3), (5, .long v5), (7, .int (i32 v7))] []) : ∀ (n : Nat), ∀ (σ : Sg) (v1 : Int) (v2 : Int) (v3 : Int64) (v5 : Int64) (v7 : Int) (v8 : Int) (g1 : rng v1) (g2 : rng v2) (g7 : rng v7) (g8 : rng v8), wl_X16_passSource_57 ra jx rm K26 Q X n σ v1 v2 v3 v5 v7 v8 → RG σ → Shp dm ra jx rm σ → JJ p l e R s m args below meth c 9 D cA A n0 s0 QM σ 57 [(0, .ref rm), (1, .int (i32 v1)), (2, .int (i32 v2)), (3, .long v3), (5, .long v5), (7, .int (i32 v7)), (8, .int (i32 v8))] [] := by
  intro n
  induction n with
  | zero => intro σ v1 v2 v3 v5 v7 v8 g1 g2 g7 g8 h; exact h.elim
  | succ n ih => exact fun σ v1 v2 v3 v5 v7 v8 g1 g2 g7 g8 h => a_X16_passSource_57 K hQ hX hK26 ih σ v1 v2 v3 v5 v7 v8 g1 g2 g7 g8 h
set_option maxRecDepth 20000 in
theorem a_X16_passSource_54 {Q : Sg → Unit → Prop} {X : Sg → String → Prop} (K : MC R p s m args c cX16_passSource 9 RX16 D cA tys A n0 s0 1 25 []) (hQ : HQV p l e R s m args below meth c cX16_passSource D cA A n0 s0 QM dm ra jx rm Q) (hX : HX p l e R s m args below meth c 9 D cA A n0 s0 QM dm ra jx rm X) {K26 : Sg → Int → Int → Int64 → Int64 → Int → Prop} (hK26 : ∀ (σ : Sg) (v1 : Int) (v2 : Int) (v3 : Int64) (v5 : Int64) (v7 : Int) (g1 : rng v1) (g2 : rng v2) (g7 : rng v7), K26 σ v1 v2 v3 v5 v7 → RG σ → Shp dm ra jx rm σ → JJ p l e R s m args below meth c 9 D cA A n0 s0 QM σ 26 [(0, .ref rm), (1, .int (i32 v1)), (2, .int (i32 v2)), (3, .long v3), (5, .long v5), (7, .int (i32 v7))] []) : ∀ (σ : Sg) (v1 : Int) (v2 : Int) (v3 : Int64) (v5 : Int64) (v7 : Int) (g1 : rng v1) (g2 : rng v2) (g7 : rng v7), w_X16_passSource_54 ra jx rm K26 Q X σ v1 v2 v3 v5 v7 → RG σ → Shp dm ra jx rm σ → JJ p l e R s m args below meth c 9 D cA A n0 s0 QM σ 54 [(0, .ref rm), (1, .int (i32 v1)), (2, .int (i32 v2)), (3, .long v3), (5, .long v5), (7, .int (i32 v7))] [] := by
  intro σ v1 v2 v3 v5 v7 g1 g2 g7 h hGσ hS H locs ls hH hl hc
  have B := K.1
  unfold w_X16_passSource_54 at h
  refine lv_iconst (v := i32 0) B.1 B.2.1 dX16_passSource_54 (by decide) ?_
  refine lv_istore (lv' := [(8, .int (i32 0)), (0, .ref rm), (1, .int (i32 v1)), (2, .int (i32 v2)), (3, .long v3), (5, .long v5), (7, .int (i32 v7))]) B.1 B.2.1 dX16_passSource_55 hl (by decide) rfl (fun ls hl => ?_)
  obtain ⟨n9, h⟩ := h
  exact al_X16_passSource_57 K hQ hX hK26 n9 _ _ _ _ _ _ _ g1 g2 g7 (by unfold rng; omega) h hGσ hS _ _ _ hH (lv_sub (l' := [(0, .ref rm), (1, .int (i32 v1)), (2, .int (i32 v2)), (3, .long v3), (5, .long v5), (7, .int (i32 v7)), (8, .int (i32 0))]) hl [1, 2, 3, 4, 5, 6, 0] rfl) hc
set_option maxRecDepth 20000 in
theorem a_X16_passSource_42 {Q : Sg → Unit → Prop} {X : Sg → String → Prop} (K : MC R p s m args c cX16_passSource 9 RX16 D cA tys A n0 s0 1 25 []) (hQ : HQV p l e R s m args below meth c cX16_passSource D cA A n0 s0 QM dm ra jx rm Q) (hX : HX p l e R s m args below meth c 9 D cA A n0 s0 QM dm ra jx rm X) {K26 : Sg → Int → Int → Int64 → Int64 → Int → Prop} (hK26 : ∀ (σ : Sg) (v1 : Int) (v2 : Int) (v3 : Int64) (v5 : Int64) (v7 : Int) (g1 : rng v1) (g2 : rng v2) (g7 : rng v7), K26 σ v1 v2 v3 v5 v7 → RG σ → Shp dm ra jx rm σ → JJ p l e R s m args below meth c 9 D cA A n0 s0 QM σ 26 [(0, .ref rm), (1, .int (i32 v1)), (2, .int (i32 v2)), (3, .long v3), (5, .long v5), (7, .int (i32 v7))] []) : ∀ (σ : Sg) (v1 : Int) (v2 : Int) (v3 : Int64) (v5 : Int64) (v7 : Int) (g1 : rng v1) (g2 : rng v2) (g7 : rng v7), w_X16_passSource_42 ra jx rm K26 Q X σ v1 v2 v3 v5 v7 → RG σ → Shp dm ra jx rm σ → JJ p l e R s m args below meth c 9 D cA A n0 s0 QM σ 42 [(0, .ref rm), (1, .int (i32 v1)), (2, .int (i32 v2)), (3, .long v3), (5, .long v5), (7, .int (i32 v7))] [] := by
  intro σ v1 v2 v3 v5 v7 g1 g2 g7 h hGσ hS H locs ls hH hl hc
  have B := K.1
  unfold w_X16_passSource_42 at h
  refine lv_aload_n B.1 B.2.1 dX16_passSource_42 rfl (lv_at hl 0 rfl) ?_
  refine r_arr B hH hS 23 (kd := 101) (n := 256) (by decide) (by decide) wf_X16_754 rfl rfl dX16_passSource_43 ?_
  refine lv_iload B.1 B.2.1 dX16_passSource_46 (lv_at hl 5 rfl) ?_
  obtain ⟨q1, h⟩ := h
  refine x_lald B K.2.1 hH (hS.ar (k := 23) (kd := 101) (n := 256) (by decide)) (by decide) q1 dX16_passSource_48 ?_
  refine lv_lload_n B.1 B.2.1 dX16_passSource_49 rfl (lv_at hl 3 rfl) ?_
  refine W.lcmp B.1 B.2.1 dX16_passSource_50 ?_
  refine lv_if_le (tgt := 156) B.1 B.2.1 dX16_passSource_51 (by decide) (fun h9 => ?_) (fun h9 => ?_)
  · rw [if_pos ((lg_cmp_le _ _).mp h9)] at h
    exact a_X16_passSource_156 K hQ hX hK26 _ _ _ _ _ _ g1 g2 g7 h hGσ hS _ _ _ hH (lv_sub (l' := [(0, .ref rm), (1, .int (i32 v1)), (2, .int (i32 v2)), (3, .long v3), (5, .long v5), (7, .int (i32 v7))]) hl [0, 1, 2, 3, 4, 5] rfl) hc
  · rw [if_neg (fun q => h9 ((lg_cmp_le _ _).mpr q))] at h
    exact a_X16_passSource_54 K hQ hX hK26 _ _ _ _ _ _ g1 g2 g7 h hGσ hS _ _ _ hH (lv_sub (l' := [(0, .ref rm), (1, .int (i32 v1)), (2, .int (i32 v2)), (3, .long v3), (5, .long v5), (7, .int (i32 v7))]) hl [0, 1, 2, 3, 4, 5] rfl) hc
set_option maxRecDepth 20000 in
theorem a_X16_passSource_26 {Q : Sg → Unit → Prop} {X : Sg → String → Prop} (K : MC R p s m args c cX16_passSource 9 RX16 D cA tys A n0 s0 1 25 []) (hQ : HQV p l e R s m args below meth c cX16_passSource D cA A n0 s0 QM dm ra jx rm Q) (hX : HX p l e R s m args below meth c 9 D cA A n0 s0 QM dm ra jx rm X) {K26 : Sg → Int → Int → Int64 → Int64 → Int → Prop} (hK26 : ∀ (σ : Sg) (v1 : Int) (v2 : Int) (v3 : Int64) (v5 : Int64) (v7 : Int) (g1 : rng v1) (g2 : rng v2) (g7 : rng v7), K26 σ v1 v2 v3 v5 v7 → RG σ → Shp dm ra jx rm σ → JJ p l e R s m args below meth c 9 D cA A n0 s0 QM σ 26 [(0, .ref rm), (1, .int (i32 v1)), (2, .int (i32 v2)), (3, .long v3), (5, .long v5), (7, .int (i32 v7))] []) : ∀ (σ : Sg) (v1 : Int) (v2 : Int) (v3 : Int64) (v5 : Int64) (v7 : Int) (g1 : rng v1) (g2 : rng v2) (g7 : rng v7), w_X16_passSource_26 ra jx rm K26 Q X σ v1 v2 v3 v5 v7 → RG σ → Shp dm ra jx rm σ → JJ p l e R s m args below meth c 9 D cA A n0 s0 QM σ 26 [(0, .ref rm), (1, .int (i32 v1)), (2, .int (i32 v2)), (3, .long v3), (5, .long v5), (7, .int (i32 v7))] [] := by
  intro σ v1 v2 v3 v5 v7 g1 g2 g7 h hGσ hS H locs ls hH hl hc
  have B := K.1
  unfold w_X16_passSource_26 at h
  refine lv_iload B.1 B.2.1 dX16_passSource_26 (lv_at hl 5 rfl) ?_
  refine lv_bipush (v := i32 64) B.1 B.2.1 dX16_passSource_28 (by decide) ?_
  refine lv_iload_n B.1 B.2.1 dX16_passSource_30 rfl (lv_at hl 2 rfl) ?_
  obtain ⟨q1, h⟩ := h
  refine lv_imul B.1 B.2.1 dX16_passSource_31 ?_
  rw [i32_mul]
  refine lv_aload_n B.1 B.2.1 dX16_passSource_32 rfl (lv_at hl 0 rfl) ?_
  refine r_arr B hH hS 22 (kd := 100) (n := 4) (by decide) (by decide) wf_X16_763 rfl rfl dX16_passSource_33 ?_
  refine lv_iload_n B.1 B.2.1 dX16_passSource_36 rfl (lv_at hl 2 rfl) ?_
  obtain ⟨q2, h⟩ := h
  refine x_iald B K.2.1 hH (hS.ar (k := 22) (kd := 100) (n := 4) (by decide)) (by decide) q2 dX16_passSource_37 ?_
  obtain ⟨q3, h⟩ := h
  refine lv_iadd B.1 B.2.1 dX16_passSource_38 ?_
  rw [i32_add]
  refine lv_icmp_ge (tgt := 162) B.1 B.2.1 dX16_passSource_39 (by decide) (fun h9 => ?_) (fun h9 => ?_)
  · rw [if_pos ((i32_le q3 g7).mp h9)] at h
    exact a_X16_passSource_162 K hQ hX _ h hGσ hS _ _ _ hH (lv_sub (l' := [(0, .ref rm)]) hl [0] rfl) hc
  · rw [if_neg (fun q => h9 ((i32_le q3 g7).mpr q))] at h
    exact a_X16_passSource_42 K hQ hX hK26 _ _ _ _ _ _ g1 g2 g7 h hGσ hS _ _ _ hH (lv_sub (l' := [(0, .ref rm), (1, .int (i32 v1)), (2, .int (i32 v2)), (3, .long v3), (5, .long v5), (7, .int (i32 v7))]) hl [0, 1, 2, 3, 4, 5] rfl) hc
theorem al_X16_passSource_26 {Q : Sg → Unit → Prop} {X : Sg → String → Prop} (K : MC R p s m args c cX16_passSource 9 RX16 D cA tys A n0 s0 1 25 []) (hQ : HQV p l e R s m args below meth c cX16_passSource D cA A n0 s0 QM dm ra jx rm Q) (hX : HX p l e R s m args below meth c 9 D cA A n0 s0 QM dm ra jx rm X) : ∀ (n : Nat), ∀ (σ : Sg) (v1 : Int) (v2 : Int) (v3 : Int64) (v5 : Int64) (v7 : Int) (g1 : rng v1) (g2 : rng v2) (g7 : rng v7), wl_X16_passSource_26 ra jx rm Q X n σ v1 v2 v3 v5 v7 → RG σ → Shp dm ra jx rm σ → JJ p l e R s m args below meth c 9 D cA A n0 s0 QM σ 26 [(0, .ref rm), (1, .int (i32 v1)), (2, .int (i32 v2)), (3, .long v3), (5, .long v5), (7, .int (i32 v7))] [] := by
  intro n
  induction n with
  | zero => intro σ v1 v2 v3 v5 v7 g1 g2 g7 h; exact h.elim
  | succ n ih => exact fun σ v1 v2 v3 v5 v7 g1 g2 g7 h => a_X16_passSource_26 K hQ hX ih σ v1 v2 v3 v5 v7 g1 g2 g7 h
set_option maxRecDepth 20000 in
theorem a_X16_passSource_0 {Q : Sg → Unit → Prop} {X : Sg → String → Prop} (K : MC R p s m args c cX16_passSource 9 RX16 D cA tys A n0 s0 1 25 []) (hQ : HQV p l e R s m args below meth c cX16_passSource D cA A n0 s0 QM dm ra jx rm Q) (hX : HX p l e R s m args below meth c 9 D cA A n0 s0 QM dm ra jx rm X) : ∀ (σ : Sg) (v1 : Int) (g1 : rng v1), w_X16_passSource_0 ra jx rm Q X σ v1 → RG σ → Shp dm ra jx rm σ → JJ p l e R s m args below meth c 9 D cA A n0 s0 QM σ 0 [(0, .ref rm), (1, .int (i32 v1))] [] := by
  intro σ v1 g1 h hGσ hS H locs ls hH hl hc
  have B := K.1
  unfold w_X16_passSource_0 at h
  refine lv_aload_n B.1 B.2.1 dX16_passSource_0 rfl (lv_at hl 0 rfl) ?_
  refine r_getp B hH hS 17 (by decide) wf_X16_356 rfl rfl dX16_passSource_1 ?_
  obtain ⟨a15, ea15, ja15, h⟩ := h
  refine W.eq (g2 := F0 m 4 ls [.ref a15]) (by rw [ea15]; rfl) ?_
  refine n_arr B hH hS ja15 8 (kd := 101) (n := 16) (by decide) (by decide) (List.mem_of_getElem? (i := 8) rfl) rfl dX16_passSource_4 ?_
  refine lv_iload_n B.1 B.2.1 dX16_passSource_7 rfl (lv_at hl 1 rfl) ?_
  obtain ⟨q2, h⟩ := h
  refine x_lald B K.2.1 hH (hS.ja ja15 (k := 8) (kd := 101) (n := 16) (by decide)) (by decide) q2 dX16_passSource_8 ?_
  refine lv_l2i B.1 B.2.1 dX16_passSource_9 rfl ?_
  refine W.eq (g2 := F0 m 10 ls [.int (i32 (((gJ σ (jx a15 8) v1.toNat)).toInt32.toInt))]) (by simp only [i32_self]) ?_
  refine lv_istore_n (lv' := [(2, .int (i32 (((gJ σ (jx a15 8) v1.toNat)).toInt32.toInt))), (0, .ref rm), (1, .int (i32 v1))]) B.1 B.2.1 dX16_passSource_10 rfl hl (by decide) rfl (fun ls hl => ?_)
  refine lv_ldc2 B.1 B.2.1 B.2.2.1 (B.2.2.2.1 _ (wk_X16_417)) dX16_passSource_11 ?_
  refine lv_lstore_n (lv' := [(3, .long (-1)), (2, .int (i32 (((gJ σ (jx a15 8) v1.toNat)).toInt32.toInt))), (0, .ref rm), (1, .int (i32 v1))]) B.1 B.2.1 dX16_passSource_14 rfl hl (by decide) rfl (fun ls hl => ?_)
  refine lv_ldc2 B.1 B.2.1 B.2.2.1 (B.2.2.2.1 _ (wk_X16_417)) dX16_passSource_15 ?_
  refine lv_lstore (lv' := [(5, .long (-1)), (3, .long (-1)), (2, .int (i32 (((gJ σ (jx a15 8) v1.toNat)).toInt32.toInt))), (0, .ref rm), (1, .int (i32 v1))]) B.1 B.2.1 dX16_passSource_18 hl (by decide) rfl (fun ls hl => ?_)
  refine lv_bipush (v := i32 64) B.1 B.2.1 dX16_passSource_20 (by decide) ?_
  refine lv_iload_n B.1 B.2.1 dX16_passSource_22 rfl (lv_at hl 2 rfl) ?_
  obtain ⟨q3, h⟩ := h
  refine lv_imul B.1 B.2.1 dX16_passSource_23 ?_
  rw [i32_mul]
  refine lv_istore (lv' := [(7, .int (i32 (64 * ((gJ σ (jx a15 8) v1.toNat)).toInt32.toInt))), (5, .long (-1)), (3, .long (-1)), (2, .int (i32 (((gJ σ (jx a15 8) v1.toNat)).toInt32.toInt))), (0, .ref rm), (1, .int (i32 v1))]) B.1 B.2.1 dX16_passSource_24 hl (by decide) rfl (fun ls hl => ?_)
  obtain ⟨n9, h⟩ := h
  exact al_X16_passSource_26 K hQ hX n9 _ _ _ _ _ _ g1 (rng_toInt _) q3 h hGσ hS _ _ _ hH (lv_sub (l' := [(0, .ref rm), (1, .int (i32 v1)), (2, .int (i32 (((gJ σ (jx a15 8) v1.toNat)).toInt32.toInt))), (3, .long (-1)), (5, .long (-1)), (7, .int (i32 (64 * ((gJ σ (jx a15 8) v1.toNat)).toInt32.toInt)))]) hl [4, 5, 3, 2, 1, 0] rfl) hc
theorem ok_X16_passSource (hT : Tys cA tys) {Q : Sg → Unit → Prop} {X : Sg → String → Prop} (σ : Sg) (v1 : Int) (g1 : rng v1) (hG : RG σ) (hS : Shp dm ra jx rm σ) (h : wp_X16_passSource ra jx rm v1 σ Q X) : Ok l D cA tys A yX16_passSource (.code yX16_passSource cX16_passSource 9 none) 1 25 [.ref rm, .int (i32 v1)] σ (QnV dm ra jx rm Q) (QxR dm ra jx rm X) := by
  unfold wp_X16_passSource at h
  exact ok_V (plainFor_of_name (by decide)) (by exact Nat.le_of_ble_eq_true rfl) hT (fun p e R s m args below meth c K hQ hX H locs ls hH hl hc => a_X16_passSource_0 K hQ hX σ v1 g1 h hG hS H locs ls hH (lv_sub (l' := [(0, .ref rm), (1, .int (i32 v1))]) hl [0, 1] rfl) hc)
end M61

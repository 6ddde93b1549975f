section C85
variable {p : Program} {l : Launch} {e : Env} {R : Room} {s : State} {m : MethodId} {args : Array Value} {below : List Frame} {meth : Method} {c : Code} {D : va_G} {cA : Nat → ClassId} {tys : List (ClassId × FieldType)} {A : Nat → Prop} {n0 s0 : Nat} {QM : State → Prop} {σi : Sg}
theorem dX9_ofTask_0 : decode cX9_ofTask 0 = .ok (.aload_n 0, 1) := by decide +kernel
theorem dX9_ofTask_1 : decode cX9_ofTask 1 = .ok (.getfield 100, 3) := by decide +kernel
theorem dX9_ofTask_4 : decode cX9_ofTask 4 = .ok (.getfield 160, 3) := by decide +kernel
theorem dX9_ofTask_7 : decode cX9_ofTask 7 = .ok (.aload_n 1, 1) := by decide +kernel
theorem dX9_ofTask_8 : decode cX9_ofTask 8 = .ok (.getfield 181, 3) := by decide +kernel
theorem dX9_ofTask_11 : decode cX9_ofTask 11 = .ok (.aaload, 1) := by decide +kernel
theorem dX9_ofTask_12 : decode cX9_ofTask 12 = .ok (.astore_n 3, 1) := by decide +kernel
theorem dX9_ofTask_13 : decode cX9_ofTask 13 = .ok (.iload_n 2, 1) := by decide +kernel
theorem dX9_ofTask_14 : decode cX9_ofTask 14 = .ok (.tableswitch 134 0 7 #[46, 52, 58, 63, 72, 103, 109, 115], 46) := by decide +kernel
theorem dX9_ofTask_60 : decode cX9_ofTask 60 = .ok (.aload_n 1, 1) := by decide +kernel
theorem dX9_ofTask_61 : decode cX9_ofTask 61 = .ok (.getfield 181, 3) := by decide +kernel
theorem dX9_ofTask_64 : decode cX9_ofTask 64 = .ok (.i2l, 1) := by decide +kernel
theorem dX9_ofTask_65 : decode cX9_ofTask 65 = .ok (.lreturn, 1) := by decide +kernel
theorem dX9_ofTask_66 : decode cX9_ofTask 66 = .ok (.aload_n 1, 1) := by decide +kernel
theorem dX9_ofTask_67 : decode cX9_ofTask 67 = .ok (.getfield 202, 3) := by decide +kernel
theorem dX9_ofTask_70 : decode cX9_ofTask 70 = .ok (.i2l, 1) := by decide +kernel
theorem dX9_ofTask_71 : decode cX9_ofTask 71 = .ok (.lreturn, 1) := by decide +kernel
theorem dX9_ofTask_72 : decode cX9_ofTask 72 = .ok (.aload_n 1, 1) := by decide +kernel
theorem dX9_ofTask_73 : decode cX9_ofTask 73 = .ok (.getfield 127, 3) := by decide +kernel
theorem dX9_ofTask_76 : decode cX9_ofTask 76 = .ok (.lreturn, 1) := by decide +kernel
theorem dX9_ofTask_77 : decode cX9_ofTask 77 = .ok (.aload_n 1, 1) := by decide +kernel
theorem dX9_ofTask_78 : decode cX9_ofTask 78 = .ok (.getfield 145, 3) := by decide +kernel
theorem dX9_ofTask_81 : decode cX9_ofTask 81 = .ok (.getfield 338, 3) := by decide +kernel
theorem dX9_ofTask_84 : decode cX9_ofTask 84 = .ok (.i2l, 1) := by decide +kernel
theorem dX9_ofTask_85 : decode cX9_ofTask 85 = .ok (.lreturn, 1) := by decide +kernel
theorem dX9_ofTask_86 : decode cX9_ofTask 86 = .ok (.aload_n 3, 1) := by decide +kernel
theorem dX9_ofTask_87 : decode cX9_ofTask 87 = .ok (.getfield 164, 3) := by decide +kernel
theorem dX9_ofTask_90 : decode cX9_ofTask 90 = .ok (.bipush 11, 2) := by decide +kernel
theorem dX9_ofTask_92 : decode cX9_ofTask 92 = .ok (.if_icmp .ne 19, 3) := by decide +kernel
theorem dX9_ofTask_95 : decode cX9_ofTask 95 = .ok (.aload_n 0, 1) := by decide +kernel
theorem dX9_ofTask_96 : decode cX9_ofTask 96 = .ok (.getfield 38, 3) := by decide +kernel
theorem dX9_ofTask_99 : decode cX9_ofTask 99 = .ok (.aload_n 3, 1) := by decide +kernel
theorem dX9_ofTask_100 : decode cX9_ofTask 100 = .ok (.getfield 359, 3) := by decide +kernel
theorem dX9_ofTask_103 : decode cX9_ofTask 103 = .ok (.aaload, 1) := by decide +kernel
theorem dX9_ofTask_104 : decode cX9_ofTask 104 = .ok (.getfield 338, 3) := by decide +kernel
theorem dX9_ofTask_107 : decode cX9_ofTask 107 = .ok (.i2l, 1) := by decide +kernel
theorem dX9_ofTask_108 : decode cX9_ofTask 108 = .ok (.goto 8, 3) := by decide +kernel
theorem dX9_ofTask_111 : decode cX9_ofTask 111 = .ok (.aload_n 1, 1) := by decide +kernel
theorem dX9_ofTask_112 : decode cX9_ofTask 112 = .ok (.invokevirtual 410, 3) := by decide +kernel
theorem dX9_ofTask_115 : decode cX9_ofTask 115 = .ok (.i2l, 1) := by decide +kernel
theorem dX9_ofTask_116 : decode cX9_ofTask 116 = .ok (.lreturn, 1) := by decide +kernel
theorem dX9_ofTask_117 : decode cX9_ofTask 117 = .ok (.aload_n 1, 1) := by decide +kernel
theorem dX9_ofTask_118 : decode cX9_ofTask 118 = .ok (.getfield 261, 3) := by decide +kernel
theorem dX9_ofTask_121 : decode cX9_ofTask 121 = .ok (.i2l, 1) := by decide +kernel
theorem dX9_ofTask_122 : decode cX9_ofTask 122 = .ok (.lreturn, 1) := by decide +kernel
theorem dX9_ofTask_123 : decode cX9_ofTask 123 = .ok (.aload_n 1, 1) := by decide +kernel
theorem dX9_ofTask_124 : decode cX9_ofTask 124 = .ok (.getfield 224, 3) := by decide +kernel
theorem dX9_ofTask_127 : decode cX9_ofTask 127 = .ok (.i2l, 1) := by decide +kernel
theorem dX9_ofTask_128 : decode cX9_ofTask 128 = .ok (.lreturn, 1) := by decide +kernel
theorem dX9_ofTask_129 : decode cX9_ofTask 129 = .ok (.aload_n 3, 1) := by decide +kernel
theorem dX9_ofTask_130 : decode cX9_ofTask 130 = .ok (.getfield 164, 3) := by decide +kernel
theorem dX9_ofTask_133 : decode cX9_ofTask 133 = .ok (.ifCond .ne 11, 3) := by decide +kernel
theorem dX9_ofTask_136 : decode cX9_ofTask 136 = .ok (.aload_n 1, 1) := by decide +kernel
theorem dX9_ofTask_137 : decode cX9_ofTask 137 = .ok (.getfield 227, 3) := by decide +kernel
theorem dX9_ofTask_140 : decode cX9_ofTask 140 = .ok (.i2l, 1) := by decide +kernel
theorem dX9_ofTask_141 : decode cX9_ofTask 141 = .ok (.goto 6, 3) := by decide +kernel
theorem dX9_ofTask_144 : decode cX9_ofTask 144 = .ok (.ldc2_w 130, 3) := by decide +kernel
theorem dX9_ofTask_147 : decode cX9_ofTask 147 = .ok (.lreturn, 1) := by decide +kernel
theorem dX9_ofTask_148 : decode cX9_ofTask 148 = .ok (.aload_n 1, 1) := by decide +kernel
theorem dX9_ofTask_149 : decode cX9_ofTask 149 = .ok (.getfield 353, 3) := by decide +kernel
theorem dX9_ofTask_152 : decode cX9_ofTask 152 = .ok (.ifCond .eq 7, 3) := by decide +kernel
theorem dX9_ofTask_155 : decode cX9_ofTask 155 = .ok (.lconst 1, 1) := by decide +kernel
theorem dX9_ofTask_156 : decode cX9_ofTask 156 = .ok (.goto 4, 3) := by decide +kernel
theorem dX9_ofTask_159 : decode cX9_ofTask 159 = .ok (.lconst 0, 1) := by decide +kernel
theorem dX9_ofTask_160 : decode cX9_ofTask 160 = .ok (.lreturn, 1) := by decide +kernel
set_option maxRecDepth 20000 in
theorem a_X9_ofTask_60 {Q : Sg → Int64 → Prop} {X : Sg → String → Prop} {th : Nat} (K : MD l R p s m args c cX9_ofTask 4 RX9 D cA tys A n0 s0 1 20 []) (hQ : CQJ p l e R s m args below meth c cX9_ofTask D cA A n0 s0 QM σi Q) (hX : CX p l e R s m args below meth c 4 D cA A n0 s0 QM σi X) (hTh : CT p l e R s m args below meth c cX9_ofTask 4 D cA A n0 s0 QM σi RX9 X) : ∀ (σ : Sg) (v1 : Option Nat) (g1 : tyV σ 10 v1), w_X9_ofTask_60 th Q X σ v1 → RG σ → TY σ → Ext σi σ → kO σ th 9 → JJ p l e R s m args below meth c 4 D cA A n0 s0 QM σ 60 [(0, .ref th), (1, va_rf v1)] [] := by
  intro σ v1 g1 h hGσ hYσ hE hth H locs ls hH hl hc
  have B := K.1
  have hl9 := K.2.2.2.2.2.2
  unfold w_X9_ofTask_60 at h
  refine lv_aload_nQ B.1 B.2.1 dX9_ofTask_60 rfl (lv_at hl 1 rfl) ?_
  obtain ⟨a41, ea41, h⟩ := h
  have ka41 : kO σ a41 10 := g1 a41 ea41
  have h := h ka41
  refine W.eq (g2 := F0 m 61 ls [.ref a41]) (by rw [ea41]; rfl) ?_
  refine f_geti B hH ka41 (by decide) rfl wu_X10 0 (by decide) wf_X9_181 rfl rfl dX9_ofTask_61 ?_
  refine lv_i2l B.1 B.2.1 dX9_ofTask_64 (i32_i64 (hGσ _ _)) ?_
  exact hQ _ _ _ _ _ _ dX9_ofTask_65 hH hc h hGσ hYσ hE
set_option maxRecDepth 20000 in
theorem a_X9_ofTask_66 {Q : Sg → Int64 → Prop} {X : Sg → String → Prop} {th : Nat} (K : MD l R p s m args c cX9_ofTask 4 RX9 D cA tys A n0 s0 1 20 []) (hQ : CQJ p l e R s m args below meth c cX9_ofTask D cA A n0 s0 QM σi Q) (hX : CX p l e R s m args below meth c 4 D cA A n0 s0 QM σi X) (hTh : CT p l e R s m args below meth c cX9_ofTask 4 D cA A n0 s0 QM σi RX9 X) : ∀ (σ : Sg) (v1 : Option Nat) (g1 : tyV σ 10 v1), w_X9_ofTask_66 th Q X σ v1 → RG σ → TY σ → Ext σi σ → kO σ th 9 → JJ p l e R s m args below meth c 4 D cA A n0 s0 QM σ 66 [(0, .ref th), (1, va_rf v1)] [] := by
  intro σ v1 g1 h hGσ hYσ hE hth H locs ls hH hl hc
  have B := K.1
  have hl9 := K.2.2.2.2.2.2
  unfold w_X9_ofTask_66 at h
  refine lv_aload_nQ B.1 B.2.1 dX9_ofTask_66 rfl (lv_at hl 1 rfl) ?_
  obtain ⟨a42, ea42, h⟩ := h
  have ka42 : kO σ a42 10 := g1 a42 ea42
  have h := h ka42
  refine W.eq (g2 := F0 m 67 ls [.ref a42]) (by rw [ea42]; rfl) ?_
  refine f_geti B hH ka42 (by decide) rfl wu_X10 1 (by decide) wf_X9_202 rfl rfl dX9_ofTask_67 ?_
  refine lv_i2l B.1 B.2.1 dX9_ofTask_70 (i32_i64 (hGσ _ _)) ?_
  exact hQ _ _ _ _ _ _ dX9_ofTask_71 hH hc h hGσ hYσ hE
set_option maxRecDepth 20000 in
theorem a_X9_ofTask_72 {Q : Sg → Int64 → Prop} {X : Sg → String → Prop} {th : Nat} (K : MD l R p s m args c cX9_ofTask 4 RX9 D cA tys A n0 s0 1 20 []) (hQ : CQJ p l e R s m args below meth c cX9_ofTask D cA A n0 s0 QM σi Q) (hX : CX p l e R s m args below meth c 4 D cA A n0 s0 QM σi X) (hTh : CT p l e R s m args below meth c cX9_ofTask 4 D cA A n0 s0 QM σi RX9 X) : ∀ (σ : Sg) (v1 : Option Nat) (g1 : tyV σ 10 v1), w_X9_ofTask_72 th Q X σ v1 → RG σ → TY σ → Ext σi σ → kO σ th 9 → JJ p l e R s m args below meth c 4 D cA A n0 s0 QM σ 72 [(0, .ref th), (1, va_rf v1)] [] := by
  intro σ v1 g1 h hGσ hYσ hE hth H locs ls hH hl hc
  have B := K.1
  have hl9 := K.2.2.2.2.2.2
  unfold w_X9_ofTask_72 at h
  refine lv_aload_nQ B.1 B.2.1 dX9_ofTask_72 rfl (lv_at hl 1 rfl) ?_
  obtain ⟨a43, ea43, h⟩ := h
  have ka43 : kO σ a43 10 := g1 a43 ea43
  have h := h ka43
  refine W.eq (g2 := F0 m 73 ls [.ref a43]) (by rw [ea43]; rfl) ?_
  refine f_getl B hH ka43 (by decide) rfl wu_X10 7 (by decide) wf_X9_127 rfl rfl dX9_ofTask_73 ?_
  exact hQ _ _ _ _ _ _ dX9_ofTask_76 hH hc h hGσ hYσ hE
set_option maxRecDepth 20000 in
theorem a_X9_ofTask_77 {Q : Sg → Int64 → Prop} {X : Sg → String → Prop} {th : Nat} (K : MD l R p s m args c cX9_ofTask 4 RX9 D cA tys A n0 s0 1 20 []) (hQ : CQJ p l e R s m args below meth c cX9_ofTask D cA A n0 s0 QM σi Q) (hX : CX p l e R s m args below meth c 4 D cA A n0 s0 QM σi X) (hTh : CT p l e R s m args below meth c cX9_ofTask 4 D cA A n0 s0 QM σi RX9 X) : ∀ (σ : Sg) (v1 : Option Nat) (g1 : tyV σ 10 v1), w_X9_ofTask_77 th Q X σ v1 → RG σ → TY σ → Ext σi σ → kO σ th 9 → JJ p l e R s m args below meth c 4 D cA A n0 s0 QM σ 77 [(0, .ref th), (1, va_rf v1)] [] := by
  intro σ v1 g1 h hGσ hYσ hE hth H locs ls hH hl hc
  have B := K.1
  have hl9 := K.2.2.2.2.2.2
  unfold w_X9_ofTask_77 at h
  refine lv_aload_nQ B.1 B.2.1 dX9_ofTask_77 rfl (lv_at hl 1 rfl) ?_
  obtain ⟨a44, ea44, h⟩ := h
  have ka44 : kO σ a44 10 := g1 a44 ea44
  have h := h ka44
  refine W.eq (g2 := F0 m 78 ls [.ref a44]) (by rw [ea44]; rfl) ?_
  refine f_getp B hH ka44 (by decide) rfl wu_X10 4 (by decide) wf_X9_145 rfl rfl dX9_ofTask_78 ?_
  obtain ⟨a45, ea45, h⟩ := h
  have ka45 : kO σ a45 1 := (hYσ.get ka44 (by decide)) a45 ea45
  have h := h ka45
  refine W.eq (g2 := F0 m 81 ls [.ref a45]) (by rw [ea45]; rfl) ?_
  refine f_geti B hH ka45 (by decide) rfl wu_X1 2 (by decide) wf_X9_338 rfl rfl dX9_ofTask_81 ?_
  refine lv_i2l B.1 B.2.1 dX9_ofTask_84 (i32_i64 (hGσ _ _)) ?_
  exact hQ _ _ _ _ _ _ dX9_ofTask_85 hH hc h hGσ hYσ hE
set_option maxRecDepth 20000 in
theorem a_X9_ofTask_116 {Q : Sg → Int64 → Prop} {X : Sg → String → Prop} {th : Nat} (K : MD l R p s m args c cX9_ofTask 4 RX9 D cA tys A n0 s0 1 20 []) (hQ : CQJ p l e R s m args below meth c cX9_ofTask D cA A n0 s0 QM σi Q) (hX : CX p l e R s m args below meth c 4 D cA A n0 s0 QM σi X) (hTh : CT p l e R s m args below meth c cX9_ofTask 4 D cA A n0 s0 QM σi RX9 X) : ∀ (σ : Sg) (u0 : Int64), w_X9_ofTask_116 th Q X σ u0 → RG σ → TY σ → Ext σi σ → kO σ th 9 → JJ p l e R s m args below meth c 4 D cA A n0 s0 QM σ 116 [(0, .ref th)] [.long u0] := by
  intro σ u0 h hGσ hYσ hE hth H locs ls hH hl hc
  have B := K.1
  have hl9 := K.2.2.2.2.2.2
  unfold w_X9_ofTask_116 at h
  exact hQ _ _ _ _ _ _ dX9_ofTask_116 hH hc h hGσ hYσ hE
set_option maxRecDepth 20000 in
theorem a_X9_ofTask_111 {Q : Sg → Int64 → Prop} {X : Sg → String → Prop} {th : Nat} (K : MD l R p s m args c cX9_ofTask 4 RX9 D cA tys A n0 s0 1 20 []) (hQ : CQJ p l e R s m args below meth c cX9_ofTask D cA A n0 s0 QM σi Q) (hX : CX p l e R s m args below meth c 4 D cA A n0 s0 QM σi X) (hTh : CT p l e R s m args below meth c cX9_ofTask 4 D cA A n0 s0 QM σi RX9 X) : ∀ (σ : Sg) (v1 : Option Nat) (g1 : tyV σ 10 v1), w_X9_ofTask_111 th Q X σ v1 → RG σ → TY σ → Ext σi σ → kO σ th 9 → JJ p l e R s m args below meth c 4 D cA A n0 s0 QM σ 111 [(0, .ref th), (1, va_rf v1)] [] := by
  intro σ v1 g1 h hGσ hYσ hE hth H locs ls hH hl hc
  have B := K.1
  have hl9 := K.2.2.2.2.2.2
  unfold w_X9_ofTask_111 at h
  refine lv_aload_nQ B.1 B.2.1 dX9_ofTask_111 rfl (lv_at hl 1 rfl) ?_
  obtain ⟨a48, ea48, h⟩ := h
  have ka48 : kO σ a48 10 := g1 a48 ea48
  have h := h ka48
  refine W.eq (g2 := F0 m 112 ls [.ref a48]) (by rw [ea48]; rfl) ?_
  refine c_V B hH hl hc K.2.2.1 (C := RX10) (T := TX10) (N := 16) (ci := 10) (As := []) (ok_X10_held hl9 K.2.1 σ a48 ka48 hGσ hYσ h) wc_X9_410 0 hd_X10_held ⟨Nat.le_trans (Nat.le_of_ble_eq_true rfl) K.2.2.2.1, Nat.le_trans (Nat.le_of_ble_eq_true rfl) K.2.2.2.2.1⟩ ka48.1 ka48.2 (by decide) rfl rfl (rest := []) rfl (Nat.le_of_ble_eq_true rfl) dX9_ofTask_112 (fun σ46 w hq => ?_) (fun σ9 E9 hx9 => hX σ9 E9 _ _ _ (tb_out K.2.2.2.2.2.1 rfl) hx9.1 hx9.2.1 hx9.2.2.1 (hE.trans hx9.2.2.2))
  obtain ⟨r47, rfl, gr47, h, hGσ46, hYσ46, xσ46⟩ := hq
  have h := h xσ46
  intro H locs ls hH hl hc
  refine W.eq (g2 := F0 m 115 ls [.int (i32 r47)]) (rfl) ?_
  try dsimp only at h
  refine lv_i2l B.1 B.2.1 dX9_ofTask_115 (i32_i64 gr47) ?_
  exact a_X9_ofTask_116 K hQ hX hTh _ _ h hGσ46 hYσ46 (hE.trans xσ46) (hth.up xσ46) _ _ _ hH (lv_sub (l' := [(0, .ref th)]) hl [0] rfl) hc
set_option maxRecDepth 20000 in
theorem a_X9_ofTask_95 {Q : Sg → Int64 → Prop} {X : Sg → String → Prop} {th : Nat} (K : MD l R p s m args c cX9_ofTask 4 RX9 D cA tys A n0 s0 1 20 []) (hQ : CQJ p l e R s m args below meth c cX9_ofTask D cA A n0 s0 QM σi Q) (hX : CX p l e R s m args below meth c 4 D cA A n0 s0 QM σi X) (hTh : CT p l e R s m args below meth c cX9_ofTask 4 D cA A n0 s0 QM σi RX9 X) : ∀ (σ : Sg) (v3 : Option Nat) (g3 : tyV σ 5 v3), w_X9_ofTask_95 th Q X σ v3 → RG σ → TY σ → Ext σi σ → kO σ th 9 → JJ p l e R s m args below meth c 4 D cA A n0 s0 QM σ 95 [(0, .ref th), (3, va_rf v3)] [] := by
  intro σ v3 g3 h hGσ hYσ hE hth H locs ls hH hl hc
  have B := K.1
  have hl9 := K.2.2.2.2.2.2
  unfold w_X9_ofTask_95 at h
  refine lv_aload_n B.1 B.2.1 dX9_ofTask_95 rfl (lv_at hl 0 rfl) ?_
  refine f_getp B hH hth (by decide) rfl wu_X9 6 (by decide) wf_X9_38 rfl rfl dX9_ofTask_96 ?_
  refine lv_aload_nQ B.1 B.2.1 dX9_ofTask_99 rfl (lv_at hl 1 rfl) ?_
  obtain ⟨a49, ea49, h⟩ := h
  have ka49 : kO σ a49 5 := g3 a49 ea49
  have h := h ka49
  refine W.eq (g2 := F0 m 100 ls [.ref a49, va_rf (gP σ th 6)]) (by rw [ea49]; rfl) ?_
  refine f_geti B hH ka49 (by decide) rfl wu_X5 9 (by decide) wf_X9_359 rfl rfl dX9_ofTask_100 ?_
  obtain ⟨a50, ea50, h⟩ := h
  have ka50 : kO σ a50 111 := (hYσ.get hth (by decide)) a50 ea50
  have h := h ka50
  obtain ⟨q1, h⟩ := h
  refine W.eq (g2 := F0 m 103 ls [.int (i32 (gI σ a49 9)), .ref a50]) (by rw [ea50]; rfl) ?_
  refine y_aald B hH (t0 := 4) ka50 (by decide) K.2.1.2.1 q1 (hYσ.2 _) dX9_ofTask_103 ?_
  obtain ⟨a51, ea51, h⟩ := h
  have ka51 : kO σ a51 1 := (hYσ.get ka50 rfl) a51 ea51
  have h := h ka51
  refine W.eq (g2 := F0 m 104 ls [.ref a51]) (by rw [ea51]; rfl) ?_
  refine f_geti B hH ka51 (by decide) rfl wu_X1 2 (by decide) wf_X9_338 rfl rfl dX9_ofTask_104 ?_
  refine lv_i2l B.1 B.2.1 dX9_ofTask_107 (i32_i64 (hGσ _ _)) ?_
  refine lv_goto (tgt := 116) B.1 B.2.1 dX9_ofTask_108 (by decide) ?_
  exact a_X9_ofTask_116 K hQ hX hTh _ _ h hGσ hYσ hE hth _ _ _ hH (lv_sub (l' := [(0, .ref th)]) hl [0] rfl) hc
set_option maxRecDepth 20000 in
theorem a_X9_ofTask_86 {Q : Sg → Int64 → Prop} {X : Sg → String → Prop} {th : Nat} (K : MD l R p s m args c cX9_ofTask 4 RX9 D cA tys A n0 s0 1 20 []) (hQ : CQJ p l e R s m args below meth c cX9_ofTask D cA A n0 s0 QM σi Q) (hX : CX p l e R s m args below meth c 4 D cA A n0 s0 QM σi X) (hTh : CT p l e R s m args below meth c cX9_ofTask 4 D cA A n0 s0 QM σi RX9 X) : ∀ (σ : Sg) (v1 : Option Nat) (v3 : Option Nat) (g1 : tyV σ 10 v1) (g3 : tyV σ 5 v3), w_X9_ofTask_86 th Q X σ v1 v3 → RG σ → TY σ → Ext σi σ → kO σ th 9 → JJ p l e R s m args below meth c 4 D cA A n0 s0 QM σ 86 [(0, .ref th), (1, va_rf v1), (3, va_rf v3)] [] := by
  intro σ v1 v3 g1 g3 h hGσ hYσ hE hth H locs ls hH hl hc
  have B := K.1
  have hl9 := K.2.2.2.2.2.2
  unfold w_X9_ofTask_86 at h
  refine lv_aload_nQ B.1 B.2.1 dX9_ofTask_86 rfl (lv_at hl 2 rfl) ?_
  obtain ⟨a52, ea52, h⟩ := h
  have ka52 : kO σ a52 5 := g3 a52 ea52
  have h := h ka52
  refine W.eq (g2 := F0 m 87 ls [.ref a52]) (by rw [ea52]; rfl) ?_
  refine f_geti B hH ka52 (by decide) rfl wu_X5 6 (by decide) wf_X9_164 rfl rfl dX9_ofTask_87 ?_
  refine lv_bipush (v := i32 11) B.1 B.2.1 dX9_ofTask_90 (by decide) ?_
  refine lv_icmp_ne (tgt := 111) B.1 B.2.1 dX9_ofTask_92 (by decide) (fun h9 => ?_) (fun h9 => ?_)
  · rw [if_pos (fun q => h9 ((i32_eq (hGσ _ _) (by unfold rng; omega)).mpr q))] at h
    exact a_X9_ofTask_111 K hQ hX hTh _ _ g1 h hGσ hYσ hE hth _ _ _ hH (lv_sub (l' := [(0, .ref th), (1, va_rf v1)]) hl [0, 1] rfl) hc
  · rw [if_neg (fun q => q ((i32_eq (hGσ _ _) (by unfold rng; omega)).mp h9))] at h
    exact a_X9_ofTask_95 K hQ hX hTh _ _ g3 h hGσ hYσ hE hth _ _ _ hH (lv_sub (l' := [(0, .ref th), (3, va_rf v3)]) hl [0, 2] rfl) hc
set_option maxRecDepth 20000 in
theorem a_X9_ofTask_117 {Q : Sg → Int64 → Prop} {X : Sg → String → Prop} {th : Nat} (K : MD l R p s m args c cX9_ofTask 4 RX9 D cA tys A n0 s0 1 20 []) (hQ : CQJ p l e R s m args below meth c cX9_ofTask D cA A n0 s0 QM σi Q) (hX : CX p l e R s m args below meth c 4 D cA A n0 s0 QM σi X) (hTh : CT p l e R s m args below meth c cX9_ofTask 4 D cA A n0 s0 QM σi RX9 X) : ∀ (σ : Sg) (v1 : Option Nat) (g1 : tyV σ 10 v1), w_X9_ofTask_117 th Q X σ v1 → RG σ → TY σ → Ext σi σ → kO σ th 9 → JJ p l e R s m args below meth c 4 D cA A n0 s0 QM σ 117 [(0, .ref th), (1, va_rf v1)] [] := by
  intro σ v1 g1 h hGσ hYσ hE hth H locs ls hH hl hc
  have B := K.1
  have hl9 := K.2.2.2.2.2.2
  unfold w_X9_ofTask_117 at h
  refine lv_aload_nQ B.1 B.2.1 dX9_ofTask_117 rfl (lv_at hl 1 rfl) ?_
  obtain ⟨a53, ea53, h⟩ := h
  have ka53 : kO σ a53 10 := g1 a53 ea53
  have h := h ka53
  refine W.eq (g2 := F0 m 118 ls [.ref a53]) (by rw [ea53]; rfl) ?_
  refine f_geti B hH ka53 (by decide) rfl wu_X10 8 (by decide) wf_X9_261 rfl rfl dX9_ofTask_118 ?_
  refine lv_i2l B.1 B.2.1 dX9_ofTask_121 (i32_i64 (hGσ _ _)) ?_
  exact hQ _ _ _ _ _ _ dX9_ofTask_122 hH hc h hGσ hYσ hE
set_option maxRecDepth 20000 in
theorem a_X9_ofTask_123 {Q : Sg → Int64 → Prop} {X : Sg → String → Prop} {th : Nat} (K : MD l R p s m args c cX9_ofTask 4 RX9 D cA tys A n0 s0 1 20 []) (hQ : CQJ p l e R s m args below meth c cX9_ofTask D cA A n0 s0 QM σi Q) (hX : CX p l e R s m args below meth c 4 D cA A n0 s0 QM σi X) (hTh : CT p l e R s m args below meth c cX9_ofTask 4 D cA A n0 s0 QM σi RX9 X) : ∀ (σ : Sg) (v1 : Option Nat) (g1 : tyV σ 10 v1), w_X9_ofTask_123 th Q X σ v1 → RG σ → TY σ → Ext σi σ → kO σ th 9 → JJ p l e R s m args below meth c 4 D cA A n0 s0 QM σ 123 [(0, .ref th), (1, va_rf v1)] [] := by
  intro σ v1 g1 h hGσ hYσ hE hth H locs ls hH hl hc
  have B := K.1
  have hl9 := K.2.2.2.2.2.2
  unfold w_X9_ofTask_123 at h
  refine lv_aload_nQ B.1 B.2.1 dX9_ofTask_123 rfl (lv_at hl 1 rfl) ?_
  obtain ⟨a54, ea54, h⟩ := h
  have ka54 : kO σ a54 10 := g1 a54 ea54
  have h := h ka54
  refine W.eq (g2 := F0 m 124 ls [.ref a54]) (by rw [ea54]; rfl) ?_
  refine f_geti B hH ka54 (by decide) rfl wu_X10 5 (by decide) wf_X9_224 rfl rfl dX9_ofTask_124 ?_
  refine lv_i2l B.1 B.2.1 dX9_ofTask_127 (i32_i64 (hGσ _ _)) ?_
  exact hQ _ _ _ _ _ _ dX9_ofTask_128 hH hc h hGσ hYσ hE
set_option maxRecDepth 20000 in
theorem a_X9_ofTask_147 {Q : Sg → Int64 → Prop} {X : Sg → String → Prop} {th : Nat} (K : MD l R p s m args c cX9_ofTask 4 RX9 D cA tys A n0 s0 1 20 []) (hQ : CQJ p l e R s m args below meth c cX9_ofTask D cA A n0 s0 QM σi Q) (hX : CX p l e R s m args below meth c 4 D cA A n0 s0 QM σi X) (hTh : CT p l e R s m args below meth c cX9_ofTask 4 D cA A n0 s0 QM σi RX9 X) : ∀ (σ : Sg) (u0 : Int64), w_X9_ofTask_147 th Q X σ u0 → RG σ → TY σ → Ext σi σ → kO σ th 9 → JJ p l e R s m args below meth c 4 D cA A n0 s0 QM σ 147 [(0, .ref th)] [.long u0] := by
  intro σ u0 h hGσ hYσ hE hth H locs ls hH hl hc
  have B := K.1
  have hl9 := K.2.2.2.2.2.2
  unfold w_X9_ofTask_147 at h
  exact hQ _ _ _ _ _ _ dX9_ofTask_147 hH hc h hGσ hYσ hE
set_option maxRecDepth 20000 in
theorem a_X9_ofTask_144 {Q : Sg → Int64 → Prop} {X : Sg → String → Prop} {th : Nat} (K : MD l R p s m args c cX9_ofTask 4 RX9 D cA tys A n0 s0 1 20 []) (hQ : CQJ p l e R s m args below meth c cX9_ofTask D cA A n0 s0 QM σi Q) (hX : CX p l e R s m args below meth c 4 D cA A n0 s0 QM σi X) (hTh : CT p l e R s m args below meth c cX9_ofTask 4 D cA A n0 s0 QM σi RX9 X) : ∀ (σ : Sg), w_X9_ofTask_144 th Q X σ → RG σ → TY σ → Ext σi σ → kO σ th 9 → JJ p l e R s m args below meth c 4 D cA A n0 s0 QM σ 144 [(0, .ref th)] [] := by
  intro σ h hGσ hYσ hE hth H locs ls hH hl hc
  have B := K.1
  have hl9 := K.2.2.2.2.2.2
  unfold w_X9_ofTask_144 at h
  refine lv_ldc2 B.1 B.2.1 B.2.2.1 (B.2.2.2.1 _ (wk_X9_130)) dX9_ofTask_144 ?_
  exact a_X9_ofTask_147 K hQ hX hTh _ _ h hGσ hYσ hE hth _ _ _ hH (lv_sub (l' := [(0, .ref th)]) hl [0] rfl) hc
set_option maxRecDepth 20000 in
theorem a_X9_ofTask_136 {Q : Sg → Int64 → Prop} {X : Sg → String → Prop} {th : Nat} (K : MD l R p s m args c cX9_ofTask 4 RX9 D cA tys A n0 s0 1 20 []) (hQ : CQJ p l e R s m args below meth c cX9_ofTask D cA A n0 s0 QM σi Q) (hX : CX p l e R s m args below meth c 4 D cA A n0 s0 QM σi X) (hTh : CT p l e R s m args below meth c cX9_ofTask 4 D cA A n0 s0 QM σi RX9 X) : ∀ (σ : Sg) (v1 : Option Nat) (g1 : tyV σ 10 v1), w_X9_ofTask_136 th Q X σ v1 → RG σ → TY σ → Ext σi σ → kO σ th 9 → JJ p l e R s m args below meth c 4 D cA A n0 s0 QM σ 136 [(0, .ref th), (1, va_rf v1)] [] := by
  intro σ v1 g1 h hGσ hYσ hE hth H locs ls hH hl hc
  have B := K.1
  have hl9 := K.2.2.2.2.2.2
  unfold w_X9_ofTask_136 at h
  refine lv_aload_nQ B.1 B.2.1 dX9_ofTask_136 rfl (lv_at hl 1 rfl) ?_
  obtain ⟨a55, ea55, h⟩ := h
  have ka55 : kO σ a55 10 := g1 a55 ea55
  have h := h ka55
  refine W.eq (g2 := F0 m 137 ls [.ref a55]) (by rw [ea55]; rfl) ?_
  refine f_geti B hH ka55 (by decide) rfl wu_X10 6 (by decide) wf_X9_227 rfl rfl dX9_ofTask_137 ?_
  refine lv_i2l B.1 B.2.1 dX9_ofTask_140 (i32_i64 (hGσ _ _)) ?_
  refine lv_goto (tgt := 147) B.1 B.2.1 dX9_ofTask_141 (by decide) ?_
  exact a_X9_ofTask_147 K hQ hX hTh _ _ h hGσ hYσ hE hth _ _ _ hH (lv_sub (l' := [(0, .ref th)]) hl [0] rfl) hc
set_option maxRecDepth 20000 in
theorem a_X9_ofTask_129 {Q : Sg → Int64 → Prop} {X : Sg → String → Prop} {th : Nat} (K : MD l R p s m args c cX9_ofTask 4 RX9 D cA tys A n0 s0 1 20 []) (hQ : CQJ p l e R s m args below meth c cX9_ofTask D cA A n0 s0 QM σi Q) (hX : CX p l e R s m args below meth c 4 D cA A n0 s0 QM σi X) (hTh : CT p l e R s m args below meth c cX9_ofTask 4 D cA A n0 s0 QM σi RX9 X) : ∀ (σ : Sg) (v1 : Option Nat) (v3 : Option Nat) (g1 : tyV σ 10 v1) (g3 : tyV σ 5 v3), w_X9_ofTask_129 th Q X σ v1 v3 → RG σ → TY σ → Ext σi σ → kO σ th 9 → JJ p l e R s m args below meth c 4 D cA A n0 s0 QM σ 129 [(0, .ref th), (1, va_rf v1), (3, va_rf v3)] [] := by
  intro σ v1 v3 g1 g3 h hGσ hYσ hE hth H locs ls hH hl hc
  have B := K.1
  have hl9 := K.2.2.2.2.2.2
  unfold w_X9_ofTask_129 at h
  refine lv_aload_nQ B.1 B.2.1 dX9_ofTask_129 rfl (lv_at hl 2 rfl) ?_
  obtain ⟨a56, ea56, h⟩ := h
  have ka56 : kO σ a56 5 := g3 a56 ea56
  have h := h ka56
  refine W.eq (g2 := F0 m 130 ls [.ref a56]) (by rw [ea56]; rfl) ?_
  refine f_geti B hH ka56 (by decide) rfl wu_X5 6 (by decide) wf_X9_164 rfl rfl dX9_ofTask_130 ?_
  refine lv_if_ne (tgt := 144) B.1 B.2.1 dX9_ofTask_133 (by decide) (fun h9 => ?_) (fun h9 => ?_)
  · rw [if_pos (fun q => h9 ((z_eq (hGσ _ _)).mpr q))] at h
    exact a_X9_ofTask_144 K hQ hX hTh _ h hGσ hYσ hE hth _ _ _ hH (lv_sub (l' := [(0, .ref th)]) hl [0] rfl) hc
  · rw [if_neg (fun q => q ((z_eq (hGσ _ _)).mp h9))] at h
    exact a_X9_ofTask_136 K hQ hX hTh _ _ g1 h hGσ hYσ hE hth _ _ _ hH (lv_sub (l' := [(0, .ref th), (1, va_rf v1)]) hl [0, 1] rfl) hc
set_option maxRecDepth 20000 in
theorem a_X9_ofTask_160 {Q : Sg → Int64 → Prop} {X : Sg → String → Prop} {th : Nat} (K : MD l R p s m args c cX9_ofTask 4 RX9 D cA tys A n0 s0 1 20 []) (hQ : CQJ p l e R s m args below meth c cX9_ofTask D cA A n0 s0 QM σi Q) (hX : CX p l e R s m args below meth c 4 D cA A n0 s0 QM σi X) (hTh : CT p l e R s m args below meth c cX9_ofTask 4 D cA A n0 s0 QM σi RX9 X) : ∀ (σ : Sg) (u0 : Int64), w_X9_ofTask_160 th Q X σ u0 → RG σ → TY σ → Ext σi σ → kO σ th 9 → JJ p l e R s m args below meth c 4 D cA A n0 s0 QM σ 160 [(0, .ref th)] [.long u0] := by
  intro σ u0 h hGσ hYσ hE hth H locs ls hH hl hc
  have B := K.1
  have hl9 := K.2.2.2.2.2.2
  unfold w_X9_ofTask_160 at h
  exact hQ _ _ _ _ _ _ dX9_ofTask_160 hH hc h hGσ hYσ hE
set_option maxRecDepth 20000 in
theorem a_X9_ofTask_159 {Q : Sg → Int64 → Prop} {X : Sg → String → Prop} {th : Nat} (K : MD l R p s m args c cX9_ofTask 4 RX9 D cA tys A n0 s0 1 20 []) (hQ : CQJ p l e R s m args below meth c cX9_ofTask D cA A n0 s0 QM σi Q) (hX : CX p l e R s m args below meth c 4 D cA A n0 s0 QM σi X) (hTh : CT p l e R s m args below meth c cX9_ofTask 4 D cA A n0 s0 QM σi RX9 X) : ∀ (σ : Sg), w_X9_ofTask_159 th Q X σ → RG σ → TY σ → Ext σi σ → kO σ th 9 → JJ p l e R s m args below meth c 4 D cA A n0 s0 QM σ 159 [(0, .ref th)] [] := by
  intro σ h hGσ hYσ hE hth H locs ls hH hl hc
  have B := K.1
  have hl9 := K.2.2.2.2.2.2
  unfold w_X9_ofTask_159 at h
  refine lv_lconst (v := 0) B.1 B.2.1 dX9_ofTask_159 (by decide) ?_
  exact a_X9_ofTask_160 K hQ hX hTh _ _ h hGσ hYσ hE hth _ _ _ hH (lv_sub (l' := [(0, .ref th)]) hl [0] rfl) hc
set_option maxRecDepth 20000 in
theorem a_X9_ofTask_155 {Q : Sg → Int64 → Prop} {X : Sg → String → Prop} {th : Nat} (K : MD l R p s m args c cX9_ofTask 4 RX9 D cA tys A n0 s0 1 20 []) (hQ : CQJ p l e R s m args below meth c cX9_ofTask D cA A n0 s0 QM σi Q) (hX : CX p l e R s m args below meth c 4 D cA A n0 s0 QM σi X) (hTh : CT p l e R s m args below meth c cX9_ofTask 4 D cA A n0 s0 QM σi RX9 X) : ∀ (σ : Sg), w_X9_ofTask_155 th Q X σ → RG σ → TY σ → Ext σi σ → kO σ th 9 → JJ p l e R s m args below meth c 4 D cA A n0 s0 QM σ 155 [(0, .ref th)] [] := by
  intro σ h hGσ hYσ hE hth H locs ls hH hl hc
  have B := K.1
  have hl9 := K.2.2.2.2.2.2
  unfold w_X9_ofTask_155 at h
  refine lv_lconst (v := 1) B.1 B.2.1 dX9_ofTask_155 (by decide) ?_
  refine lv_goto (tgt := 160) B.1 B.2.1 dX9_ofTask_156 (by decide) ?_
  exact a_X9_ofTask_160 K hQ hX hTh _ _ h hGσ hYσ hE hth _ _ _ hH (lv_sub (l' := [(0, .ref th)]) hl [0] rfl) hc
set_option maxRecDepth 20000 in
theorem a_X9_ofTask_148 {Q : Sg → Int64 → Prop} {X : Sg → String → Prop} {th : Nat} (K : MD l R p s m args c cX9_ofTask 4 RX9 D cA tys A n0 s0 1 20 []) (hQ : CQJ p l e R s m args below meth c cX9_ofTask D cA A n0 s0 QM σi Q) (hX : CX p l e R s m args below meth c 4 D cA A n0 s0 QM σi X) (hTh : CT p l e R s m args below meth c cX9_ofTask 4 D cA A n0 s0 QM σi RX9 X) : ∀ (σ : Sg) (v1 : Option Nat) (g1 : tyV σ 10 v1), w_X9_ofTask_148 th Q X σ v1 → RG σ → TY σ → Ext σi σ → kO σ th 9 → JJ p l e R s m args below meth c 4 D cA A n0 s0 QM σ 148 [(0, .ref th), (1, va_rf v1)] [] := by
  intro σ v1 g1 h hGσ hYσ hE hth H locs ls hH hl hc
  have B := K.1
  have hl9 := K.2.2.2.2.2.2
  unfold w_X9_ofTask_148 at h
  refine lv_aload_nQ B.1 B.2.1 dX9_ofTask_148 rfl (lv_at hl 1 rfl) ?_
  obtain ⟨a57, ea57, h⟩ := h
  have ka57 : kO σ a57 10 := g1 a57 ea57
  have h := h ka57
  refine W.eq (g2 := F0 m 149 ls [.ref a57]) (by rw [ea57]; rfl) ?_
  refine f_geti B hH ka57 (by decide) rfl wu_X10 10 (by decide) wf_X9_353 rfl rfl dX9_ofTask_149 ?_
  refine lv_if_eq (tgt := 159) B.1 B.2.1 dX9_ofTask_152 (by decide) (fun h9 => ?_) (fun h9 => ?_)
  · rw [if_pos ((z_eq (hGσ _ _)).mp h9)] at h
    exact a_X9_ofTask_159 K hQ hX hTh _ h hGσ hYσ hE hth _ _ _ hH (lv_sub (l' := [(0, .ref th)]) hl [0] rfl) hc
  · rw [if_neg (fun q => h9 ((z_eq (hGσ _ _)).mpr q))] at h
    exact a_X9_ofTask_155 K hQ hX hTh _ h hGσ hYσ hE hth _ _ _ hH (lv_sub (l' := [(0, .ref th)]) hl [0] rfl) hc
set_option maxRecDepth 20000 in
theorem a_X9_ofTask_0 {Q : Sg → Int64 → Prop} {X : Sg → String → Prop} {th : Nat} (K : MD l R p s m args c cX9_ofTask 4 RX9 D cA tys A n0 s0 1 20 []) (hQ : CQJ p l e R s m args below meth c cX9_ofTask D cA A n0 s0 QM σi Q) (hX : CX p l e R s m args below meth c 4 D cA A n0 s0 QM σi X) (hTh : CT p l e R s m args below meth c cX9_ofTask 4 D cA A n0 s0 QM σi RX9 X) : ∀ (σ : Sg) (v1 : Option Nat) (v2 : Int) (g1 : tyV σ 10 v1) (g2 : rng v2), w_X9_ofTask_0 th Q X σ v1 v2 → RG σ → TY σ → Ext σi σ → kO σ th 9 → JJ p l e R s m args below meth c 4 D cA A n0 s0 QM σ 0 [(0, .ref th), (1, va_rf v1), (2, .int (i32 v2))] [] := by
  intro σ v1 v2 g1 g2 h hGσ hYσ hE hth H locs ls hH hl hc
  have B := K.1
  have hl9 := K.2.2.2.2.2.2
  unfold w_X9_ofTask_0 at h
  refine lv_aload_n B.1 B.2.1 dX9_ofTask_0 rfl (lv_at hl 0 rfl) ?_
  refine f_getp B hH hth (by decide) rfl wu_X9 9 (by decide) wf_X9_100 rfl rfl dX9_ofTask_1 ?_
  obtain ⟨a58, ea58, h⟩ := h
  have ka58 : kO σ a58 4 := (hYσ.get hth (by decide)) a58 ea58
  have h := h ka58
  refine W.eq (g2 := F0 m 4 ls [.ref a58]) (by rw [ea58]; rfl) ?_
  refine f_getp B hH ka58 (by decide) rfl wu_X4 0 (by decide) wf_X9_160 rfl rfl dX9_ofTask_4 ?_
  refine lv_aload_nQ B.1 B.2.1 dX9_ofTask_7 rfl (lv_at hl 1 rfl) ?_
  obtain ⟨a59, ea59, h⟩ := h
  have ka59 : kO σ a59 10 := g1 a59 ea59
  have h := h ka59
  refine W.eq (g2 := F0 m 8 ls [.ref a59, va_rf (gP σ a58 0)]) (by rw [ea59]; rfl) ?_
  refine f_geti B hH ka59 (by decide) rfl wu_X10 0 (by decide) wf_X9_181 rfl rfl dX9_ofTask_8 ?_
  obtain ⟨a60, ea60, h⟩ := h
  have ka60 : kO σ a60 115 := (hYσ.get ka58 (by decide)) a60 ea60
  have h := h ka60
  obtain ⟨q1, h⟩ := h
  refine W.eq (g2 := F0 m 11 ls [.int (i32 (gI σ a59 0)), .ref a60]) (by rw [ea60]; rfl) ?_
  refine y_aald B hH (t0 := 6) ka60 (by decide) K.2.1.2.2.2.1 q1 (hYσ.2 _) dX9_ofTask_11 ?_
  refine lv_astore_nQ (lv' := [(3, va_rf (gP σ a60 (gI σ a59 0).toNat)), (0, .ref th), (1, va_rf v1), (2, .int (i32 v2))]) B.1 B.2.1 dX9_ofTask_12 rfl hl (by decide) rfl (fun ls hl => ?_)
  refine lv_iload_n B.1 B.2.1 dX9_ofTask_13 rfl (lv_at hl 3 rfl) ?_
  rcases Classical.em (v2 = 0) with e9 | e9
  · rw [if_pos e9] at h
    refine lv_tableIn (off := 46) (tgt := 60) B.1 B.2.1 dX9_ofTask_14 (by rw [i32_toInt g2, e9]; decide) (by rw [i32_toInt g2, e9]; decide) (by rw [i32_toInt g2, e9]; rfl) (by decide) ?_
    exact a_X9_ofTask_60 K hQ hX hTh _ _ g1 h hGσ hYσ hE hth _ _ _ hH (lv_sub (l' := [(0, .ref th), (1, va_rf v1)]) hl [1, 2] rfl) hc
  rw [if_neg e9] at h
  have k2 := e9
  rcases Classical.em (v2 = 1) with e9 | e9
  · rw [if_pos e9] at h
    refine lv_tableIn (off := 52) (tgt := 66) B.1 B.2.1 dX9_ofTask_14 (by rw [i32_toInt g2, e9]; decide) (by rw [i32_toInt g2, e9]; decide) (by rw [i32_toInt g2, e9]; rfl) (by decide) ?_
    exact a_X9_ofTask_66 K hQ hX hTh _ _ g1 h hGσ hYσ hE hth _ _ _ hH (lv_sub (l' := [(0, .ref th), (1, va_rf v1)]) hl [1, 2] rfl) hc
  rw [if_neg e9] at h
  have k3 := e9
  rcases Classical.em (v2 = 2) with e9 | e9
  · rw [if_pos e9] at h
    refine lv_tableIn (off := 58) (tgt := 72) B.1 B.2.1 dX9_ofTask_14 (by rw [i32_toInt g2, e9]; decide) (by rw [i32_toInt g2, e9]; decide) (by rw [i32_toInt g2, e9]; rfl) (by decide) ?_
    exact a_X9_ofTask_72 K hQ hX hTh _ _ g1 h hGσ hYσ hE hth _ _ _ hH (lv_sub (l' := [(0, .ref th), (1, va_rf v1)]) hl [1, 2] rfl) hc
  rw [if_neg e9] at h
  have k4 := e9
  rcases Classical.em (v2 = 3) with e9 | e9
  · rw [if_pos e9] at h
    refine lv_tableIn (off := 63) (tgt := 77) B.1 B.2.1 dX9_ofTask_14 (by rw [i32_toInt g2, e9]; decide) (by rw [i32_toInt g2, e9]; decide) (by rw [i32_toInt g2, e9]; rfl) (by decide) ?_
    exact a_X9_ofTask_77 K hQ hX hTh _ _ g1 h hGσ hYσ hE hth _ _ _ hH (lv_sub (l' := [(0, .ref th), (1, va_rf v1)]) hl [1, 2] rfl) hc
  rw [if_neg e9] at h
  have k5 := e9
  rcases Classical.em (v2 = 4) with e9 | e9
  · rw [if_pos e9] at h
    refine lv_tableIn (off := 72) (tgt := 86) B.1 B.2.1 dX9_ofTask_14 (by rw [i32_toInt g2, e9]; decide) (by rw [i32_toInt g2, e9]; decide) (by rw [i32_toInt g2, e9]; rfl) (by decide) ?_
    exact a_X9_ofTask_86 K hQ hX hTh _ _ _ g1 (hYσ.get ka60 rfl) h hGσ hYσ hE hth _ _ _ hH (lv_sub (l' := [(0, .ref th), (1, va_rf v1), (3, va_rf (gP σ a60 (gI σ a59 0).toNat))]) hl [1, 2, 0] rfl) hc
  rw [if_neg e9] at h
  have k6 := e9
  rcases Classical.em (v2 = 5) with e9 | e9
  · rw [if_pos e9] at h
    refine lv_tableIn (off := 103) (tgt := 117) B.1 B.2.1 dX9_ofTask_14 (by rw [i32_toInt g2, e9]; decide) (by rw [i32_toInt g2, e9]; decide) (by rw [i32_toInt g2, e9]; rfl) (by decide) ?_
    exact a_X9_ofTask_117 K hQ hX hTh _ _ g1 h hGσ hYσ hE hth _ _ _ hH (lv_sub (l' := [(0, .ref th), (1, va_rf v1)]) hl [1, 2] rfl) hc
  rw [if_neg e9] at h
  have k7 := e9
  rcases Classical.em (v2 = 6) with e9 | e9
  · rw [if_pos e9] at h
    refine lv_tableIn (off := 109) (tgt := 123) B.1 B.2.1 dX9_ofTask_14 (by rw [i32_toInt g2, e9]; decide) (by rw [i32_toInt g2, e9]; decide) (by rw [i32_toInt g2, e9]; rfl) (by decide) ?_
    exact a_X9_ofTask_123 K hQ hX hTh _ _ g1 h hGσ hYσ hE hth _ _ _ hH (lv_sub (l' := [(0, .ref th), (1, va_rf v1)]) hl [1, 2] rfl) hc
  rw [if_neg e9] at h
  have k8 := e9
  rcases Classical.em (v2 = 7) with e9 | e9
  · rw [if_pos e9] at h
    refine lv_tableIn (off := 115) (tgt := 129) B.1 B.2.1 dX9_ofTask_14 (by rw [i32_toInt g2, e9]; decide) (by rw [i32_toInt g2, e9]; decide) (by rw [i32_toInt g2, e9]; rfl) (by decide) ?_
    exact a_X9_ofTask_129 K hQ hX hTh _ _ _ g1 (hYσ.get ka60 rfl) h hGσ hYσ hE hth _ _ _ hH (lv_sub (l' := [(0, .ref th), (1, va_rf v1), (3, va_rf (gP σ a60 (gI σ a59 0).toNat))]) hl [1, 2, 0] rfl) hc
  rw [if_neg e9] at h
  have k9 := e9
  rcases (show (v2 < 0 ∨ 7 < v2) ∨ False by omega) with e9 | e9
  · refine lv_tableOut (tgt := 148) B.1 B.2.1 dX9_ofTask_14 (by rw [i32_toInt g2]; exact e9) (by decide) ?_
    exact a_X9_ofTask_148 K hQ hX hTh _ _ g1 h hGσ hYσ hE hth _ _ _ hH (lv_sub (l' := [(0, .ref th), (1, va_rf v1)]) hl [1, 2] rfl) hc
  exact e9.elim
theorem ok_X9_ofTask (hl0 : l.stackTraces = false) (hT : TyC cA tys) {Q : Sg → Int64 → Prop} {X : Sg → String → Prop} (σ : Sg) (th : Nat) (v1 : Option Nat) (v2 : Int) (g1 : tyV σ 10 v1) (g2 : rng v2) (hth : kO σ th 9) (hG : RG σ) (hY : TY σ) (h : wp_X9_ofTask th v1 v2 σ Q X) : Ok l D cA tys A yX9_ofTask (.code yX9_ofTask cX9_ofTask 4 (some .long)) 1 20 [.ref th, va_rf v1, .int (i32 v2)] σ (QcJ σ Q) (QxC σ X) := by
  unfold wp_X9_ofTask at h
  exact oc_J hl0 (by decide) (by cases v1 <;> exact Nat.le_of_ble_eq_true rfl) hT (fun p e R s m args below meth c K hQ hX hTh H locs ls hH hl hc => a_X9_ofTask_0 K hQ hX hTh σ v1 v2 g1 g2 h hG hY (Ext.rfl' σ) hth H locs ls hH (lv_sub (l' := [(0, .ref th), (1, va_rf v1), (2, .int (i32 v2))]) hl [0, 1, 2] (by cases v1 <;> rfl)) hc)
theorem dX12_task_0 : decode cX12_task 0 = .ok (.iload_n 1, 1) := by decide +kernel
theorem dX12_task_1 : decode cX12_task 1 = .ok (.ifCond .lt 14, 3) := by decide +kernel
theorem dX12_task_4 : decode cX12_task 4 = .ok (.iload_n 1, 1) := by decide +kernel
theorem dX12_task_5 : decode cX12_task 5 = .ok (.aload_n 0, 1) := by decide +kernel
theorem dX12_task_6 : decode cX12_task 6 = .ok (.getfield 49, 3) := by decide +kernel
theorem dX12_task_9 : decode cX12_task 9 = .ok (.getfield 137, 3) := by decide +kernel
theorem dX12_task_12 : decode cX12_task 12 = .ok (.if_icmp .lt 11, 3) := by decide +kernel
theorem dX12_task_15 : decode cX12_task 15 = .ok (.new 92, 3) := by decide +kernel
theorem dX12_task_18 : decode cX12_task 18 = .ok (.dup, 1) := by decide +kernel
theorem dX12_task_19 : decode cX12_task 19 = .ok (.invokespecial 94, 3) := by decide +kernel
theorem dX12_task_22 : decode cX12_task 22 = .ok (.athrow, 1) := by decide +kernel
theorem dX12_task_23 : decode cX12_task 23 = .ok (.aload_n 0, 1) := by decide +kernel
theorem dX12_task_24 : decode cX12_task 24 = .ok (.invokevirtual 219, 3) := by decide +kernel
theorem dX12_task_27 : decode cX12_task 27 = .ok (.iload_n 2, 1) := by decide +kernel
theorem dX12_task_28 : decode cX12_task 28 = .ok (.ifCond .lt 9, 3) := by decide +kernel
theorem dX12_task_31 : decode cX12_task 31 = .ok (.iload_n 2, 1) := by decide +kernel
theorem dX12_task_32 : decode cX12_task 32 = .ok (.bipush 8, 2) := by decide +kernel
theorem dX12_task_34 : decode cX12_task 34 = .ok (.if_icmp .le 11, 3) := by decide +kernel
theorem dX12_task_37 : decode cX12_task 37 = .ok (.new 60, 3) := by decide +kernel
theorem dX12_task_40 : decode cX12_task 40 = .ok (.dup, 1) := by decide +kernel
theorem dX12_task_41 : decode cX12_task 41 = .ok (.invokespecial 62, 3) := by decide +kernel
theorem dX12_task_44 : decode cX12_task 44 = .ok (.athrow, 1) := by decide +kernel
theorem dX12_task_45 : decode cX12_task 45 = .ok (.aload_n 0, 1) := by decide +kernel
theorem dX12_task_46 : decode cX12_task 46 = .ok (.getfield 49, 3) := by decide +kernel
theorem dX12_task_49 : decode cX12_task 49 = .ok (.aload_n 0, 1) := by decide +kernel
theorem dX12_task_50 : decode cX12_task 50 = .ok (.getfield 49, 3) := by decide +kernel
theorem dX12_task_53 : decode cX12_task 53 = .ok (.getfield 222, 3) := by decide +kernel
theorem dX12_task_56 : decode cX12_task 56 = .ok (.iload_n 1, 1) := by decide +kernel
theorem dX12_task_57 : decode cX12_task 57 = .ok (.aaload, 1) := by decide +kernel
theorem dX12_task_58 : decode cX12_task 58 = .ok (.iload_n 2, 1) := by decide +kernel
theorem dX12_task_59 : decode cX12_task 59 = .ok (.invokevirtual 226, 3) := by decide +kernel
theorem dX12_task_62 : decode cX12_task 62 = .ok (.lreturn, 1) := by decide +kernel
set_option maxRecDepth 20000 in
theorem a_X12_task_15 {Q : Sg → Int64 → Prop} {X : Sg → String → Prop} {th : Nat} (K : MD l R p s m args c cX12_task 3 RX12 D cA tys A n0 s0 7 110 []) (hQ : CQJ p l e R s m args below meth c cX12_task D cA A n0 s0 QM σi Q) (hX : CX p l e R s m args below meth c 3 D cA A n0 s0 QM σi X) (hTh : CT p l e R s m args below meth c cX12_task 3 D cA A n0 s0 QM σi RX12 X) : ∀ (σ : Sg), w_X12_task_15 th Q X σ → RG σ → TY σ → Ext σi σ → kO σ th 12 → JJ p l e R s m args below meth c 3 D cA A n0 s0 QM σ 15 [(0, .ref th)] [] := by
  intro σ h hGσ hYσ hE hth H locs ls hH hl hc
  have B := K.1
  have hl9 := K.2.2.2.2.2.2
  unfold w_X12_task_15 at h
  obtain ⟨q9, h⟩ := h
  exact hTh _ _ _ _ _ _ _ _ _ tw_X12_92_94 dX12_task_15 dX12_task_18 dX12_task_19 dX12_task_22 hH hl hc q9 h hGσ hYσ hE (by have := K.2.2.2.1; omega) (by have := K.2.2.2.2.1; omega)
set_option maxRecDepth 20000 in
theorem a_X12_task_37 {Q : Sg → Int64 → Prop} {X : Sg → String → Prop} {th : Nat} (K : MD l R p s m args c cX12_task 3 RX12 D cA tys A n0 s0 7 110 []) (hQ : CQJ p l e R s m args below meth c cX12_task D cA A n0 s0 QM σi Q) (hX : CX p l e R s m args below meth c 3 D cA A n0 s0 QM σi X) (hTh : CT p l e R s m args below meth c cX12_task 3 D cA A n0 s0 QM σi RX12 X) : ∀ (σ : Sg), w_X12_task_37 th Q X σ → RG σ → TY σ → Ext σi σ → kO σ th 12 → JJ p l e R s m args below meth c 3 D cA A n0 s0 QM σ 37 [(0, .ref th)] [] := by
  intro σ h hGσ hYσ hE hth H locs ls hH hl hc
  have B := K.1
  have hl9 := K.2.2.2.2.2.2
  unfold w_X12_task_37 at h
  obtain ⟨q9, h⟩ := h
  exact hTh _ _ _ _ _ _ _ _ _ tw_X12_60_62 dX12_task_37 dX12_task_40 dX12_task_41 dX12_task_44 hH hl hc q9 h hGσ hYσ hE (by have := K.2.2.2.1; omega) (by have := K.2.2.2.2.1; omega)
set_option maxRecDepth 20000 in
theorem a_X12_task_45 {Q : Sg → Int64 → Prop} {X : Sg → String → Prop} {th : Nat} (K : MD l R p s m args c cX12_task 3 RX12 D cA tys A n0 s0 7 110 []) (hQ : CQJ p l e R s m args below meth c cX12_task D cA A n0 s0 QM σi Q) (hX : CX p l e R s m args below meth c 3 D cA A n0 s0 QM σi X) (hTh : CT p l e R s m args below meth c cX12_task 3 D cA A n0 s0 QM σi RX12 X) : ∀ (σ : Sg) (v1 : Int) (v2 : Int) (g1 : rng v1) (g2 : rng v2), w_X12_task_45 th Q X σ v1 v2 → RG σ → TY σ → Ext σi σ → kO σ th 12 → JJ p l e R s m args below meth c 3 D cA A n0 s0 QM σ 45 [(0, .ref th), (1, .int (i32 v1)), (2, .int (i32 v2))] [] := by
  intro σ v1 v2 g1 g2 h hGσ hYσ hE hth H locs ls hH hl hc
  have B := K.1
  have hl9 := K.2.2.2.2.2.2
  unfold w_X12_task_45 at h
  refine lv_aload_n B.1 B.2.1 dX12_task_45 rfl (lv_at hl 0 rfl) ?_
  refine f_getp B hH hth (by decide) rfl wu_X12 7 (by decide) wf_X12_49 rfl rfl dX12_task_46 ?_
  refine lv_aload_n B.1 B.2.1 dX12_task_49 rfl (lv_at hl 0 rfl) ?_
  refine f_getp B hH hth (by decide) rfl wu_X12 7 (by decide) wf_X12_49 rfl rfl dX12_task_50 ?_
  obtain ⟨a13, ea13, h⟩ := h
  have ka13 : kO σ a13 9 := (hYσ.get hth (by decide)) a13 ea13
  have h := h ka13
  refine W.eq (g2 := F0 m 53 ls [.ref a13, va_rf (gP σ th 7)]) (by rw [ea13]; rfl) ?_
  refine f_getp B hH ka13 (by decide) rfl wu_X9 3 (by decide) wf_X12_222 rfl rfl dX12_task_53 ?_
  refine lv_iload_n B.1 B.2.1 dX12_task_56 rfl (lv_at hl 1 rfl) ?_
  obtain ⟨a14, ea14, h⟩ := h
  have ka14 : kO σ a14 120 := (hYσ.get ka13 (by decide)) a14 ea14
  have h := h ka14
  obtain ⟨q1, h⟩ := h
  refine W.eq (g2 := F0 m 57 ls [.int (i32 v1), .ref a14, va_rf (gP σ th 7)]) (by rw [ea14]; rfl) ?_
  refine y_aald B hH (t0 := 7) ka14 (by decide) K.2.1.2.2.2.2.1 q1 (hYσ.2 _) dX12_task_57 ?_
  refine lv_iload_n B.1 B.2.1 dX12_task_58 rfl (lv_at hl 2 rfl) ?_
  refine W.eq (g2 := F0 m 59 ls [.int (i32 v2), va_rf (gP σ a14 v1.toNat), .ref a13]) (by rw [ea13]; rfl) ?_
  refine c_V B hH hl hc K.2.2.1 (C := RX9) (T := TX9) (N := 20) (ci := 9) (As := [va_rf (gP σ a14 v1.toNat), .int (i32 v2)]) (ok_X9_ofTask hl9 K.2.1 σ a13 (gP σ a14 v1.toNat) v2 (hYσ.get ka14 rfl) g2 ka13 hGσ hYσ h) wc_X12_226 2 hd_X9_ofTask ⟨Nat.le_trans (Nat.le_of_ble_eq_true rfl) K.2.2.2.1, Nat.le_trans (Nat.le_of_ble_eq_true rfl) K.2.2.2.2.1⟩ ka13.1 ka13.2 (by decide) rfl rfl (rest := []) rfl (Nat.le_of_ble_eq_true rfl) dX12_task_59 (fun σ15 w hq => ?_) (fun σ9 E9 hx9 => hX σ9 E9 _ _ _ (tb_out K.2.2.2.2.2.1 rfl) hx9.1 hx9.2.1 hx9.2.2.1 (hE.trans hx9.2.2.2))
  obtain ⟨r16, rfl, h, hGσ15, hYσ15, xσ15⟩ := hq
  have h := h xσ15
  intro H locs ls hH hl hc
  refine W.eq (g2 := F0 m 62 ls [.long r16]) (rfl) ?_
  try dsimp only at h
  exact hQ _ _ _ _ _ _ dX12_task_62 hH hc h hGσ15 hYσ15 (hE.trans xσ15)
set_option maxRecDepth 20000 in
theorem a_X12_task_31 {Q : Sg → Int64 → Prop} {X : Sg → String → Prop} {th : Nat} (K : MD l R p s m args c cX12_task 3 RX12 D cA tys A n0 s0 7 110 []) (hQ : CQJ p l e R s m args below meth c cX12_task D cA A n0 s0 QM σi Q) (hX : CX p l e R s m args below meth c 3 D cA A n0 s0 QM σi X) (hTh : CT p l e R s m args below meth c cX12_task 3 D cA A n0 s0 QM σi RX12 X) : ∀ (σ : Sg) (v1 : Int) (v2 : Int) (g1 : rng v1) (g2 : rng v2), w_X12_task_31 th Q X σ v1 v2 → RG σ → TY σ → Ext σi σ → kO σ th 12 → JJ p l e R s m args below meth c 3 D cA A n0 s0 QM σ 31 [(0, .ref th), (1, .int (i32 v1)), (2, .int (i32 v2))] [] := by
  intro σ v1 v2 g1 g2 h hGσ hYσ hE hth H locs ls hH hl hc
  have B := K.1
  have hl9 := K.2.2.2.2.2.2
  unfold w_X12_task_31 at h
  refine lv_iload_n B.1 B.2.1 dX12_task_31 rfl (lv_at hl 2 rfl) ?_
  refine lv_bipush (v := i32 8) B.1 B.2.1 dX12_task_32 (by decide) ?_
  refine lv_icmp_le (tgt := 45) B.1 B.2.1 dX12_task_34 (by decide) (fun h9 => ?_) (fun h9 => ?_)
  · rw [if_pos ((i32_le g2 (by unfold rng; omega)).mp h9)] at h
    exact a_X12_task_45 K hQ hX hTh _ _ _ g1 g2 h hGσ hYσ hE hth _ _ _ hH (lv_sub (l' := [(0, .ref th), (1, .int (i32 v1)), (2, .int (i32 v2))]) hl [0, 1, 2] rfl) hc
  · rw [if_neg (fun q => h9 ((i32_le g2 (by unfold rng; omega)).mpr q))] at h
    exact a_X12_task_37 K hQ hX hTh _ h hGσ hYσ hE hth _ _ _ hH (lv_sub (l' := [(0, .ref th)]) hl [0] rfl) hc
set_option maxRecDepth 20000 in
theorem a_X12_task_23 {Q : Sg → Int64 → Prop} {X : Sg → String → Prop} {th : Nat} (K : MD l R p s m args c cX12_task 3 RX12 D cA tys A n0 s0 7 110 []) (hQ : CQJ p l e R s m args below meth c cX12_task D cA A n0 s0 QM σi Q) (hX : CX p l e R s m args below meth c 3 D cA A n0 s0 QM σi X) (hTh : CT p l e R s m args below meth c cX12_task 3 D cA A n0 s0 QM σi RX12 X) : ∀ (σ : Sg) (v1 : Int) (v2 : Int) (g1 : rng v1) (g2 : rng v2), w_X12_task_23 th Q X σ v1 v2 → RG σ → TY σ → Ext σi σ → kO σ th 12 → JJ p l e R s m args below meth c 3 D cA A n0 s0 QM σ 23 [(0, .ref th), (1, .int (i32 v1)), (2, .int (i32 v2))] [] := by
  intro σ v1 v2 g1 g2 h hGσ hYσ hE hth H locs ls hH hl hc
  have B := K.1
  have hl9 := K.2.2.2.2.2.2
  unfold w_X12_task_23 at h
  refine lv_aload_n B.1 B.2.1 dX12_task_23 rfl (lv_at hl 0 rfl) ?_
  refine W.eq (g2 := F0 m 24 ls [.ref th]) (rfl) ?_
  refine c_V B hH hl hc K.2.2.1 (C := RX12) (T := TX12) (N := 9) (ci := 12) (As := []) (ok_X12_needWholeRun hl9 K.2.1 σ th hth hGσ hYσ h) wc_X12_219 0 hd_X12_needWholeRun ⟨Nat.le_trans (Nat.le_of_ble_eq_true rfl) K.2.2.2.1, Nat.le_trans (Nat.le_of_ble_eq_true rfl) K.2.2.2.2.1⟩ hth.1 hth.2 (by decide) rfl rfl (rest := []) rfl (Nat.le_of_ble_eq_true rfl) dX12_task_24 (fun σ17 w hq => ?_) (fun σ9 E9 hx9 => hX σ9 E9 _ _ _ (tb_out K.2.2.2.2.2.1 rfl) hx9.1 hx9.2.1 hx9.2.2.1 (hE.trans hx9.2.2.2))
  obtain ⟨rfl, h, hGσ17, hYσ17, xσ17⟩ := hq
  have h := h xσ17
  intro H locs ls hH hl hc
  refine W.eq (g2 := F0 m 27 ls []) (rfl) ?_
  try dsimp only at h
  refine lv_iload_n B.1 B.2.1 dX12_task_27 rfl (lv_at hl 2 rfl) ?_
  refine lv_if_lt (tgt := 37) B.1 B.2.1 dX12_task_28 (by decide) (fun h9 => ?_) (fun h9 => ?_)
  · rw [if_pos ((z_lt g2).mp h9)] at h
    exact a_X12_task_37 K hQ hX hTh _ h hGσ17 hYσ17 (hE.trans xσ17) (hth.up xσ17) _ _ _ hH (lv_sub (l' := [(0, .ref th)]) hl [0] rfl) hc
  · rw [if_neg (fun q => h9 ((z_lt g2).mpr q))] at h
    exact a_X12_task_31 K hQ hX hTh _ _ _ g1 g2 h hGσ17 hYσ17 (hE.trans xσ17) (hth.up xσ17) _ _ _ hH (lv_sub (l' := [(0, .ref th), (1, .int (i32 v1)), (2, .int (i32 v2))]) hl [0, 1, 2] rfl) hc
set_option maxRecDepth 20000 in
theorem a_X12_task_4 {Q : Sg → Int64 → Prop} {X : Sg → String → Prop} {th : Nat} (K : MD l R p s m args c cX12_task 3 RX12 D cA tys A n0 s0 7 110 []) (hQ : CQJ p l e R s m args below meth c cX12_task D cA A n0 s0 QM σi Q) (hX : CX p l e R s m args below meth c 3 D cA A n0 s0 QM σi X) (hTh : CT p l e R s m args below meth c cX12_task 3 D cA A n0 s0 QM σi RX12 X) : ∀ (σ : Sg) (v1 : Int) (v2 : Int) (g1 : rng v1) (g2 : rng v2), w_X12_task_4 th Q X σ v1 v2 → RG σ → TY σ → Ext σi σ → kO σ th 12 → JJ p l e R s m args below meth c 3 D cA A n0 s0 QM σ 4 [(0, .ref th), (1, .int (i32 v1)), (2, .int (i32 v2))] [] := by
  intro σ v1 v2 g1 g2 h hGσ hYσ hE hth H locs ls hH hl hc
  have B := K.1
  have hl9 := K.2.2.2.2.2.2
  unfold w_X12_task_4 at h
  refine lv_iload_n B.1 B.2.1 dX12_task_4 rfl (lv_at hl 1 rfl) ?_
  refine lv_aload_n B.1 B.2.1 dX12_task_5 rfl (lv_at hl 0 rfl) ?_
  refine f_getp B hH hth (by decide) rfl wu_X12 7 (by decide) wf_X12_49 rfl rfl dX12_task_6 ?_
  obtain ⟨a18, ea18, h⟩ := h
  have ka18 : kO σ a18 9 := (hYσ.get hth (by decide)) a18 ea18
  have h := h ka18
  refine W.eq (g2 := F0 m 9 ls [.ref a18, .int (i32 v1)]) (by rw [ea18]; rfl) ?_
  refine f_geti B hH ka18 (by decide) rfl wu_X9 10 (by decide) wf_X12_137 rfl rfl dX12_task_9 ?_
  refine lv_icmp_lt (tgt := 23) B.1 B.2.1 dX12_task_12 (by decide) (fun h9 => ?_) (fun h9 => ?_)
  · rw [if_pos ((i32_lt g1 (hGσ _ _)).mp h9)] at h
    exact a_X12_task_23 K hQ hX hTh _ _ _ g1 g2 h hGσ hYσ hE hth _ _ _ hH (lv_sub (l' := [(0, .ref th), (1, .int (i32 v1)), (2, .int (i32 v2))]) hl [0, 1, 2] rfl) hc
  · rw [if_neg (fun q => h9 ((i32_lt g1 (hGσ _ _)).mpr q))] at h
    exact a_X12_task_15 K hQ hX hTh _ h hGσ hYσ hE hth _ _ _ hH (lv_sub (l' := [(0, .ref th)]) hl [0] rfl) hc
set_option maxRecDepth 20000 in
theorem a_X12_task_0 {Q : Sg → Int64 → Prop} {X : Sg → String → Prop} {th : Nat} (K : MD l R p s m args c cX12_task 3 RX12 D cA tys A n0 s0 7 110 []) (hQ : CQJ p l e R s m args below meth c cX12_task D cA A n0 s0 QM σi Q) (hX : CX p l e R s m args below meth c 3 D cA A n0 s0 QM σi X) (hTh : CT p l e R s m args below meth c cX12_task 3 D cA A n0 s0 QM σi RX12 X) : ∀ (σ : Sg) (v1 : Int) (v2 : Int) (g1 : rng v1) (g2 : rng v2), w_X12_task_0 th Q X σ v1 v2 → RG σ → TY σ → Ext σi σ → kO σ th 12 → JJ p l e R s m args below meth c 3 D cA A n0 s0 QM σ 0 [(0, .ref th), (1, .int (i32 v1)), (2, .int (i32 v2))] [] := by
  intro σ v1 v2 g1 g2 h hGσ hYσ hE hth H locs ls hH hl hc
  have B := K.1
  have hl9 := K.2.2.2.2.2.2
  unfold w_X12_task_0 at h
  refine lv_iload_n B.1 B.2.1 dX12_task_0 rfl (lv_at hl 1 rfl) ?_
  refine lv_if_lt (tgt := 15) B.1 B.2.1 dX12_task_1 (by decide) (fun h9 => ?_) (fun h9 => ?_)
  · rw [if_pos ((z_lt g1).mp h9)] at h
    exact a_X12_task_15 K hQ hX hTh _ h hGσ hYσ hE hth _ _ _ hH (lv_sub (l' := [(0, .ref th)]) hl [0] rfl) hc
  · rw [if_neg (fun q => h9 ((z_lt g1).mpr q))] at h
    exact a_X12_task_4 K hQ hX hTh _ _ _ g1 g2 h hGσ hYσ hE hth _ _ _ hH (lv_sub (l' := [(0, .ref th), (1, .int (i32 v1)), (2, .int (i32 v2))]) hl [0, 1, 2] rfl) hc
theorem ok_X12_task (hl0 : l.stackTraces = false) (hT : TyC cA tys) {Q : Sg → Int64 → Prop} {X : Sg → String → Prop} (σ : Sg) (th : Nat) (v1 : Int) (v2 : Int) (g1 : rng v1) (g2 : rng v2) (hth : kO σ th 12) (hG : RG σ) (hY : TY σ) (h : wp_X12_task th v1 v2 σ Q X) : Ok l D cA tys A yX12_task (.code yX12_task cX12_task 3 (some .long)) 7 110 [.ref th, .int (i32 v1), .int (i32 v2)] σ (QcJ σ Q) (QxC σ X) := by
  unfold wp_X12_task at h
  exact oc_J hl0 (by decide) (by exact Nat.le_of_ble_eq_true rfl) hT (fun p e R s m args below meth c K hQ hX hTh H locs ls hH hl hc => a_X12_task_0 K hQ hX hTh σ v1 v2 g1 g2 h hG hY (Ext.rfl' σ) hth H locs ls hH (lv_sub (l' := [(0, .ref th), (1, .int (i32 v1)), (2, .int (i32 v2))]) hl [0, 1, 2] rfl) hc)
theorem dX9_toldOfRun_0 : decode cX9_toldOfRun 0 = .ok (.iconst 0, 1) := by decide +kernel
theorem dX9_toldOfRun_1 : decode cX9_toldOfRun 1 = .ok (.istore_n 2, 1) := by decide +kernel
theorem dX9_toldOfRun_2 : decode cX9_toldOfRun 2 = .ok (.iload_n 1, 1) := by decide +kernel
theorem dX9_toldOfRun_3 : decode cX9_toldOfRun 3 = .ok (.tableswitch 135 1 11 #[57, 62, 67, 72, 135, 135, 77, 82, 135, 95, 95], 57) := by decide +kernel
theorem dX9_toldOfRun_60 : decode cX9_toldOfRun 60 = .ok (.aload_n 0, 1) := by decide +kernel
theorem dX9_toldOfRun_61 : decode cX9_toldOfRun 61 = .ok (.getfield 78, 3) := by decide +kernel
theorem dX9_toldOfRun_64 : decode cX9_toldOfRun 64 = .ok (.ireturn, 1) := by decide +kernel
theorem dX9_toldOfRun_65 : decode cX9_toldOfRun 65 = .ok (.aload_n 0, 1) := by decide +kernel
theorem dX9_toldOfRun_66 : decode cX9_toldOfRun 66 = .ok (.getfield 81, 3) := by decide +kernel
theorem dX9_toldOfRun_69 : decode cX9_toldOfRun 69 = .ok (.ireturn, 1) := by decide +kernel
theorem dX9_toldOfRun_70 : decode cX9_toldOfRun 70 = .ok (.aload_n 0, 1) := by decide +kernel
theorem dX9_toldOfRun_71 : decode cX9_toldOfRun 71 = .ok (.getfield 88, 3) := by decide +kernel
theorem dX9_toldOfRun_74 : decode cX9_toldOfRun 74 = .ok (.ireturn, 1) := by decide +kernel
theorem dX9_toldOfRun_75 : decode cX9_toldOfRun 75 = .ok (.aload_n 0, 1) := by decide +kernel
theorem dX9_toldOfRun_76 : decode cX9_toldOfRun 76 = .ok (.getfield 91, 3) := by decide +kernel
theorem dX9_toldOfRun_79 : decode cX9_toldOfRun 79 = .ok (.ireturn, 1) := by decide +kernel
theorem dX9_toldOfRun_80 : decode cX9_toldOfRun 80 = .ok (.aload_n 0, 1) := by decide +kernel
theorem dX9_toldOfRun_81 : decode cX9_toldOfRun 81 = .ok (.getfield 94, 3) := by decide +kernel
theorem dX9_toldOfRun_84 : decode cX9_toldOfRun 84 = .ok (.ireturn, 1) := by decide +kernel
theorem dX9_toldOfRun_85 : decode cX9_toldOfRun 85 = .ok (.aload_n 0, 1) := by decide +kernel
theorem dX9_toldOfRun_86 : decode cX9_toldOfRun 86 = .ok (.getfield 84, 3) := by decide +kernel
theorem dX9_toldOfRun_89 : decode cX9_toldOfRun 89 = .ok (.ifCond .eq 7, 3) := by decide +kernel
theorem dX9_toldOfRun_92 : decode cX9_toldOfRun 92 = .ok (.iconst 1, 1) := by decide +kernel
theorem dX9_toldOfRun_93 : decode cX9_toldOfRun 93 = .ok (.goto 4, 3) := by decide +kernel
theorem dX9_toldOfRun_96 : decode cX9_toldOfRun 96 = .ok (.iconst 0, 1) := by decide +kernel
theorem dX9_toldOfRun_97 : decode cX9_toldOfRun 97 = .ok (.ireturn, 1) := by decide +kernel
theorem dX9_toldOfRun_98 : decode cX9_toldOfRun 98 = .ok (.iconst 0, 1) := by decide +kernel
theorem dX9_toldOfRun_99 : decode cX9_toldOfRun 99 = .ok (.istore_n 3, 1) := by decide +kernel
theorem dX9_toldOfRun_100 : decode cX9_toldOfRun 100 = .ok (.iload_n 3, 1) := by decide +kernel
theorem dX9_toldOfRun_101 : decode cX9_toldOfRun 101 = .ok (.iconst 4, 1) := by decide +kernel
theorem dX9_toldOfRun_102 : decode cX9_toldOfRun 102 = .ok (.if_icmp .ge 34, 3) := by decide +kernel
theorem dX9_toldOfRun_105 : decode cX9_toldOfRun 105 = .ok (.iload_n 2, 1) := by decide +kernel
theorem dX9_toldOfRun_106 : decode cX9_toldOfRun 106 = .ok (.iload_n 1, 1) := by decide +kernel
theorem dX9_toldOfRun_107 : decode cX9_toldOfRun 107 = .ok (.bipush 10, 2) := by decide +kernel
theorem dX9_toldOfRun_109 : decode cX9_toldOfRun 109 = .ok (.if_icmp .ne 10, 3) := by decide +kernel
theorem dX9_toldOfRun_112 : decode cX9_toldOfRun 112 = .ok (.aload_n 0, 1) := by decide +kernel
theorem dX9_toldOfRun_113 : decode cX9_toldOfRun 113 = .ok (.getfield 42, 3) := by decide +kernel
theorem dX9_toldOfRun_116 : decode cX9_toldOfRun 116 = .ok (.goto 7, 3) := by decide +kernel
theorem dX9_toldOfRun_119 : decode cX9_toldOfRun 119 = .ok (.aload_n 0, 1) := by decide +kernel
theorem dX9_toldOfRun_120 : decode cX9_toldOfRun 120 = .ok (.getfield 38, 3) := by decide +kernel
theorem dX9_toldOfRun_123 : decode cX9_toldOfRun 123 = .ok (.iload_n 3, 1) := by decide +kernel
theorem dX9_toldOfRun_124 : decode cX9_toldOfRun 124 = .ok (.aaload, 1) := by decide +kernel
theorem dX9_toldOfRun_125 : decode cX9_toldOfRun 125 = .ok (.getfield 338, 3) := by decide +kernel
theorem dX9_toldOfRun_128 : decode cX9_toldOfRun 128 = .ok (.iadd, 1) := by decide +kernel
theorem dX9_toldOfRun_129 : decode cX9_toldOfRun 129 = .ok (.istore_n 2, 1) := by decide +kernel
theorem dX9_toldOfRun_130 : decode cX9_toldOfRun 130 = .ok (.iinc 3 1, 3) := by decide +kernel
theorem dX9_toldOfRun_133 : decode cX9_toldOfRun 133 = .ok (.goto (-33), 3) := by decide +kernel
theorem dX9_toldOfRun_136 : decode cX9_toldOfRun 136 = .ok (.iload_n 2, 1) := by decide +kernel
theorem dX9_toldOfRun_137 : decode cX9_toldOfRun 137 = .ok (.ireturn, 1) := by decide +kernel
theorem dX9_toldOfRun_138 : decode cX9_toldOfRun 138 = .ok (.iconst (-1), 1) := by decide +kernel
theorem dX9_toldOfRun_139 : decode cX9_toldOfRun 139 = .ok (.ireturn, 1) := by decide +kernel
set_option maxRecDepth 20000 in
theorem a_X9_toldOfRun_60 {Q : Sg → Int → Prop} {X : Sg → String → Prop} {th : Nat} (K : MD l R p s m args c cX9_toldOfRun 4 RX9 D cA tys A n0 s0 0 0 []) (hQ : CQI p l e R s m args below meth c cX9_toldOfRun D cA A n0 s0 QM σi Q) (hX : CX p l e R s m args below meth c 4 D cA A n0 s0 QM σi X) (hTh : CT p l e R s m args below meth c cX9_toldOfRun 4 D cA A n0 s0 QM σi RX9 X) : ∀ (σ : Sg), w_X9_toldOfRun_60 th Q X σ → RG σ → TY σ → Ext σi σ → kO σ th 9 → JJ p l e R s m args below meth c 4 D cA A n0 s0 QM σ 60 [(0, .ref th)] [] := by
  intro σ h hGσ hYσ hE hth H locs ls hH hl hc
  have B := K.1
  have hl9 := K.2.2.2.2.2.2
  unfold w_X9_toldOfRun_60 at h
  refine lv_aload_n B.1 B.2.1 dX9_toldOfRun_60 rfl (lv_at hl 0 rfl) ?_
  refine f_geti B hH hth (by decide) rfl wu_X9 10 (by decide) wf_X9_78 rfl rfl dX9_toldOfRun_61 ?_
  exact hQ _ _ _ _ _ _ (hGσ _ _) dX9_toldOfRun_64 hH hc h hGσ hYσ hE
set_option maxRecDepth 20000 in
theorem a_X9_toldOfRun_65 {Q : Sg → Int → Prop} {X : Sg → String → Prop} {th : Nat} (K : MD l R p s m args c cX9_toldOfRun 4 RX9 D cA tys A n0 s0 0 0 []) (hQ : CQI p l e R s m args below meth c cX9_toldOfRun D cA A n0 s0 QM σi Q) (hX : CX p l e R s m args below meth c 4 D cA A n0 s0 QM σi X) (hTh : CT p l e R s m args below meth c cX9_toldOfRun 4 D cA A n0 s0 QM σi RX9 X) : ∀ (σ : Sg), w_X9_toldOfRun_65 th Q X σ → RG σ → TY σ → Ext σi σ → kO σ th 9 → JJ p l e R s m args below meth c 4 D cA A n0 s0 QM σ 65 [(0, .ref th)] [] := by
  intro σ h hGσ hYσ hE hth H locs ls hH hl hc
  have B := K.1
  have hl9 := K.2.2.2.2.2.2
  unfold w_X9_toldOfRun_65 at h
  refine lv_aload_n B.1 B.2.1 dX9_toldOfRun_65 rfl (lv_at hl 0 rfl) ?_
  refine f_geti B hH hth (by decide) rfl wu_X9 11 (by decide) wf_X9_81 rfl rfl dX9_toldOfRun_66 ?_
  exact hQ _ _ _ _ _ _ (hGσ _ _) dX9_toldOfRun_69 hH hc h hGσ hYσ hE
set_option maxRecDepth 20000 in
theorem a_X9_toldOfRun_70 {Q : Sg → Int → Prop} {X : Sg → String → Prop} {th : Nat} (K : MD l R p s m args c cX9_toldOfRun 4 RX9 D cA tys A n0 s0 0 0 []) (hQ : CQI p l e R s m args below meth c cX9_toldOfRun D cA A n0 s0 QM σi Q) (hX : CX p l e R s m args below meth c 4 D cA A n0 s0 QM σi X) (hTh : CT p l e R s m args below meth c cX9_toldOfRun 4 D cA A n0 s0 QM σi RX9 X) : ∀ (σ : Sg), w_X9_toldOfRun_70 th Q X σ → RG σ → TY σ → Ext σi σ → kO σ th 9 → JJ p l e R s m args below meth c 4 D cA A n0 s0 QM σ 70 [(0, .ref th)] [] := by
  intro σ h hGσ hYσ hE hth H locs ls hH hl hc
  have B := K.1
  have hl9 := K.2.2.2.2.2.2
  unfold w_X9_toldOfRun_70 at h
  refine lv_aload_n B.1 B.2.1 dX9_toldOfRun_70 rfl (lv_at hl 0 rfl) ?_
  refine f_geti B hH hth (by decide) rfl wu_X9 17 (by decide) wf_X9_88 rfl rfl dX9_toldOfRun_71 ?_
  exact hQ _ _ _ _ _ _ (hGσ _ _) dX9_toldOfRun_74 hH hc h hGσ hYσ hE
set_option maxRecDepth 20000 in
theorem a_X9_toldOfRun_75 {Q : Sg → Int → Prop} {X : Sg → String → Prop} {th : Nat} (K : MD l R p s m args c cX9_toldOfRun 4 RX9 D cA tys A n0 s0 0 0 []) (hQ : CQI p l e R s m args below meth c cX9_toldOfRun D cA A n0 s0 QM σi Q) (hX : CX p l e R s m args below meth c 4 D cA A n0 s0 QM σi X) (hTh : CT p l e R s m args below meth c cX9_toldOfRun 4 D cA A n0 s0 QM σi RX9 X) : ∀ (σ : Sg), w_X9_toldOfRun_75 th Q X σ → RG σ → TY σ → Ext σi σ → kO σ th 9 → JJ p l e R s m args below meth c 4 D cA A n0 s0 QM σ 75 [(0, .ref th)] [] := by
  intro σ h hGσ hYσ hE hth H locs ls hH hl hc
  have B := K.1
  have hl9 := K.2.2.2.2.2.2
  unfold w_X9_toldOfRun_75 at h
  refine lv_aload_n B.1 B.2.1 dX9_toldOfRun_75 rfl (lv_at hl 0 rfl) ?_
  refine f_geti B hH hth (by decide) rfl wu_X9 18 (by decide) wf_X9_91 rfl rfl dX9_toldOfRun_76 ?_
  exact hQ _ _ _ _ _ _ (hGσ _ _) dX9_toldOfRun_79 hH hc h hGσ hYσ hE
set_option maxRecDepth 20000 in
theorem a_X9_toldOfRun_80 {Q : Sg → Int → Prop} {X : Sg → String → Prop} {th : Nat} (K : MD l R p s m args c cX9_toldOfRun 4 RX9 D cA tys A n0 s0 0 0 []) (hQ : CQI p l e R s m args below meth c cX9_toldOfRun D cA A n0 s0 QM σi Q) (hX : CX p l e R s m args below meth c 4 D cA A n0 s0 QM σi X) (hTh : CT p l e R s m args below meth c cX9_toldOfRun 4 D cA A n0 s0 QM σi RX9 X) : ∀ (σ : Sg), w_X9_toldOfRun_80 th Q X σ → RG σ → TY σ → Ext σi σ → kO σ th 9 → JJ p l e R s m args below meth c 4 D cA A n0 s0 QM σ 80 [(0, .ref th)] [] := by
  intro σ h hGσ hYσ hE hth H locs ls hH hl hc
  have B := K.1
  have hl9 := K.2.2.2.2.2.2
  unfold w_X9_toldOfRun_80 at h
  refine lv_aload_n B.1 B.2.1 dX9_toldOfRun_80 rfl (lv_at hl 0 rfl) ?_
  refine f_geti B hH hth (by decide) rfl wu_X9 19 (by decide) wf_X9_94 rfl rfl dX9_toldOfRun_81 ?_
  exact hQ _ _ _ _ _ _ (hGσ _ _) dX9_toldOfRun_84 hH hc h hGσ hYσ hE
set_option maxRecDepth 20000 in
theorem a_X9_toldOfRun_97 {Q : Sg → Int → Prop} {X : Sg → String → Prop} {th : Nat} (K : MD l R p s m args c cX9_toldOfRun 4 RX9 D cA tys A n0 s0 0 0 []) (hQ : CQI p l e R s m args below meth c cX9_toldOfRun D cA A n0 s0 QM σi Q) (hX : CX p l e R s m args below meth c 4 D cA A n0 s0 QM σi X) (hTh : CT p l e R s m args below meth c cX9_toldOfRun 4 D cA A n0 s0 QM σi RX9 X) : ∀ (σ : Sg) (u0 : Int) (gu0 : rng u0), w_X9_toldOfRun_97 th Q X σ u0 → RG σ → TY σ → Ext σi σ → kO σ th 9 → JJ p l e R s m args below meth c 4 D cA A n0 s0 QM σ 97 [(0, .ref th)] [.int (i32 u0)] := by
  intro σ u0 gu0 h hGσ hYσ hE hth H locs ls hH hl hc
  have B := K.1
  have hl9 := K.2.2.2.2.2.2
  unfold w_X9_toldOfRun_97 at h
  exact hQ _ _ _ _ _ _ gu0 dX9_toldOfRun_97 hH hc h hGσ hYσ hE
set_option maxRecDepth 20000 in
theorem a_X9_toldOfRun_96 {Q : Sg → Int → Prop} {X : Sg → String → Prop} {th : Nat} (K : MD l R p s m args c cX9_toldOfRun 4 RX9 D cA tys A n0 s0 0 0 []) (hQ : CQI p l e R s m args below meth c cX9_toldOfRun D cA A n0 s0 QM σi Q) (hX : CX p l e R s m args below meth c 4 D cA A n0 s0 QM σi X) (hTh : CT p l e R s m args below meth c cX9_toldOfRun 4 D cA A n0 s0 QM σi RX9 X) : ∀ (σ : Sg), w_X9_toldOfRun_96 th Q X σ → RG σ → TY σ → Ext σi σ → kO σ th 9 → JJ p l e R s m args below meth c 4 D cA A n0 s0 QM σ 96 [(0, .ref th)] [] := by
  intro σ h hGσ hYσ hE hth H locs ls hH hl hc
  have B := K.1
  have hl9 := K.2.2.2.2.2.2
  unfold w_X9_toldOfRun_96 at h
  refine lv_iconst (v := i32 0) B.1 B.2.1 dX9_toldOfRun_96 (by decide) ?_
  exact a_X9_toldOfRun_97 K hQ hX hTh _ _ (by unfold rng; omega) h hGσ hYσ hE hth _ _ _ hH (lv_sub (l' := [(0, .ref th)]) hl [0] rfl) hc
set_option maxRecDepth 20000 in
theorem a_X9_toldOfRun_92 {Q : Sg → Int → Prop} {X : Sg → String → Prop} {th : Nat} (K : MD l R p s m args c cX9_toldOfRun 4 RX9 D cA tys A n0 s0 0 0 []) (hQ : CQI p l e R s m args below meth c cX9_toldOfRun D cA A n0 s0 QM σi Q) (hX : CX p l e R s m args below meth c 4 D cA A n0 s0 QM σi X) (hTh : CT p l e R s m args below meth c cX9_toldOfRun 4 D cA A n0 s0 QM σi RX9 X) : ∀ (σ : Sg), w_X9_toldOfRun_92 th Q X σ → RG σ → TY σ → Ext σi σ → kO σ th 9 → JJ p l e R s m args below meth c 4 D cA A n0 s0 QM σ 92 [(0, .ref th)] [] := by
  intro σ h hGσ hYσ hE hth H locs ls hH hl hc
  have B := K.1
  have hl9 := K.2.2.2.2.2.2
  unfold w_X9_toldOfRun_92 at h
  refine lv_iconst (v := i32 1) B.1 B.2.1 dX9_toldOfRun_92 (by decide) ?_
  refine lv_goto (tgt := 97) B.1 B.2.1 dX9_toldOfRun_93 (by decide) ?_
  exact a_X9_toldOfRun_97 K hQ hX hTh _ _ (by unfold rng; omega) h hGσ hYσ hE hth _ _ _ hH (lv_sub (l' := [(0, .ref th)]) hl [0] rfl) hc
set_option maxRecDepth 20000 in
theorem a_X9_toldOfRun_85 {Q : Sg → Int → Prop} {X : Sg → String → Prop} {th : Nat} (K : MD l R p s m args c cX9_toldOfRun 4 RX9 D cA tys A n0 s0 0 0 []) (hQ : CQI p l e R s m args below meth c cX9_toldOfRun D cA A n0 s0 QM σi Q) (hX : CX p l e R s m args below meth c 4 D cA A n0 s0 QM σi X) (hTh : CT p l e R s m args below meth c cX9_toldOfRun 4 D cA A n0 s0 QM σi RX9 X) : ∀ (σ : Sg), w_X9_toldOfRun_85 th Q X σ → RG σ → TY σ → Ext σi σ → kO σ th 9 → JJ p l e R s m args below meth c 4 D cA A n0 s0 QM σ 85 [(0, .ref th)] [] := by
  intro σ h hGσ hYσ hE hth H locs ls hH hl hc
  have B := K.1
  have hl9 := K.2.2.2.2.2.2
  unfold w_X9_toldOfRun_85 at h
  refine lv_aload_n B.1 B.2.1 dX9_toldOfRun_85 rfl (lv_at hl 0 rfl) ?_
  refine f_geti B hH hth (by decide) rfl wu_X9 16 (by decide) wf_X9_84 rfl rfl dX9_toldOfRun_86 ?_
  refine lv_if_eq (tgt := 96) B.1 B.2.1 dX9_toldOfRun_89 (by decide) (fun h9 => ?_) (fun h9 => ?_)
  · rw [if_pos ((z_eq (hGσ _ _)).mp h9)] at h
    exact a_X9_toldOfRun_96 K hQ hX hTh _ h hGσ hYσ hE hth _ _ _ hH (lv_sub (l' := [(0, .ref th)]) hl [0] rfl) hc
  · rw [if_neg (fun q => h9 ((z_eq (hGσ _ _)).mpr q))] at h
    exact a_X9_toldOfRun_92 K hQ hX hTh _ h hGσ hYσ hE hth _ _ _ hH (lv_sub (l' := [(0, .ref th)]) hl [0] rfl) hc
set_option maxRecDepth 20000 in
theorem a_X9_toldOfRun_136 {Q : Sg → Int → Prop} {X : Sg → String → Prop} {th : Nat} (K : MD l R p s m args c cX9_toldOfRun 4 RX9 D cA tys A n0 s0 0 0 []) (hQ : CQI p l e R s m args below meth c cX9_toldOfRun D cA A n0 s0 QM σi Q) (hX : CX p l e R s m args below meth c 4 D cA A n0 s0 QM σi X) (hTh : CT p l e R s m args below meth c cX9_toldOfRun 4 D cA A n0 s0 QM σi RX9 X) : ∀ (σ : Sg) (v2 : Int) (g2 : rng v2), w_X9_toldOfRun_136 th Q X σ v2 → RG σ → TY σ → Ext σi σ → kO σ th 9 → JJ p l e R s m args below meth c 4 D cA A n0 s0 QM σ 136 [(0, .ref th), (2, .int (i32 v2))] [] := by
  intro σ v2 g2 h hGσ hYσ hE hth H locs ls hH hl hc
  have B := K.1
  have hl9 := K.2.2.2.2.2.2
  unfold w_X9_toldOfRun_136 at h
  refine lv_iload_n B.1 B.2.1 dX9_toldOfRun_136 rfl (lv_at hl 1 rfl) ?_
  exact hQ _ _ _ _ _ _ g2 dX9_toldOfRun_137 hH hc h hGσ hYσ hE
set_option maxRecDepth 20000 in
theorem a_X9_toldOfRun_123 {Q : Sg → Int → Prop} {X : Sg → String → Prop} {th : Nat} (K : MD l R p s m args c cX9_toldOfRun 4 RX9 D cA tys A n0 s0 0 0 []) (hQ : CQI p l e R s m args below meth c cX9_toldOfRun D cA A n0 s0 QM σi Q) (hX : CX p l e R s m args below meth c 4 D cA A n0 s0 QM σi X) (hTh : CT p l e R s m args below meth c cX9_toldOfRun 4 D cA A n0 s0 QM σi RX9 X) {K100 : Sg → Int → Int → Int → Prop} (hK100 : ∀ (σ : Sg) (v1 : Int) (v2 : Int) (v3 : Int) (g1 : rng v1) (g2 : rng v2) (g3 : rng v3), K100 σ v1 v2 v3 → RG σ → TY σ → Ext σi σ → kO σ th 9 → JJ p l e R s m args below meth c 4 D cA A n0 s0 QM σ 100 [(0, .ref th), (1, .int (i32 v1)), (2, .int (i32 v2)), (3, .int (i32 v3))] []) : ∀ (σ : Sg) (v1 : Int) (v3 : Int) (u0 : Option Nat) (u1 : Int) (g1 : rng v1) (g3 : rng v3) (gu0 : tyV σ 111 u0) (gu1 : rng u1), w_X9_toldOfRun_123 th K100 Q X σ v1 v3 u0 u1 → RG σ → TY σ → Ext σi σ → kO σ th 9 → JJ p l e R s m args below meth c 4 D cA A n0 s0 QM σ 123 [(0, .ref th), (1, .int (i32 v1)), (3, .int (i32 v3))] [va_rf u0, .int (i32 u1)] := by
  intro σ v1 v3 u0 u1 g1 g3 gu0 gu1 h hGσ hYσ hE hth H locs ls hH hl hc
  have B := K.1
  have hl9 := K.2.2.2.2.2.2
  unfold w_X9_toldOfRun_123 at h
  refine lv_iload_n B.1 B.2.1 dX9_toldOfRun_123 rfl (lv_at hl 2 rfl) ?_
  obtain ⟨a5, ea5, h⟩ := h
  have ka5 : kO σ a5 111 := gu0 a5 ea5
  have h := h ka5
  obtain ⟨q1, h⟩ := h
  refine W.eq (g2 := F0 m 124 ls [.int (i32 v3), .ref a5, .int (i32 u1)]) (by rw [ea5]; rfl) ?_
  refine y_aald B hH (t0 := 4) ka5 (by decide) K.2.1.2.1 q1 (hYσ.2 _) dX9_toldOfRun_124 ?_
  obtain ⟨a6, ea6, h⟩ := h
  have ka6 : kO σ a6 1 := (hYσ.get ka5 rfl) a6 ea6
  have h := h ka6
  refine W.eq (g2 := F0 m 125 ls [.ref a6, .int (i32 u1)]) (by rw [ea6]; rfl) ?_
  refine f_geti B hH ka6 (by decide) rfl wu_X1 2 (by decide) wf_X9_338 rfl rfl dX9_toldOfRun_125 ?_
  refine lv_iadd B.1 B.2.1 dX9_toldOfRun_128 ?_
  rw [i32_add]
  refine W.eq (g2 := F0 m 129 ls [.int (i32 (wr (u1 + gI σ a6 2)))]) (by rw [i32_wr]) ?_
  refine lv_istore_n (lv' := [(2, .int (i32 (wr (u1 + gI σ a6 2)))), (0, .ref th), (1, .int (i32 v1)), (3, .int (i32 v3))]) B.1 B.2.1 dX9_toldOfRun_129 rfl hl (by decide) rfl (fun ls hl => ?_)
  obtain ⟨q2, h⟩ := h
  refine lv_iinc (k := 3) (v := i32 (v3 + 1)) (lv' := [(3, .int (i32 (v3 + 1))), (2, .int (i32 (wr (u1 + gI σ a6 2)))), (0, .ref th), (1, .int (i32 v1))]) B.1 B.2.1 dX9_toldOfRun_130 hl rfl (i32_add _ _) (by decide) rfl (fun ls hl => ?_)
  refine lv_goto (tgt := 100) B.1 B.2.1 dX9_toldOfRun_133 (by decide) ?_
  exact hK100 _ _ _ _ g1 (rng_wr _) q2 h hGσ hYσ hE hth _ _ _ hH (lv_sub (l' := [(0, .ref th), (1, .int (i32 v1)), (2, .int (i32 (wr (u1 + gI σ a6 2)))), (3, .int (i32 (v3 + 1)))]) hl [2, 3, 1, 0] rfl) hc
set_option maxRecDepth 20000 in
theorem a_X9_toldOfRun_119 {Q : Sg → Int → Prop} {X : Sg → String → Prop} {th : Nat} (K : MD l R p s m args c cX9_toldOfRun 4 RX9 D cA tys A n0 s0 0 0 []) (hQ : CQI p l e R s m args below meth c cX9_toldOfRun D cA A n0 s0 QM σi Q) (hX : CX p l e R s m args below meth c 4 D cA A n0 s0 QM σi X) (hTh : CT p l e R s m args below meth c cX9_toldOfRun 4 D cA A n0 s0 QM σi RX9 X) {K100 : Sg → Int → Int → Int → Prop} (hK100 : ∀ (σ : Sg) (v1 : Int) (v2 : Int) (v3 : Int) (g1 : rng v1) (g2 : rng v2) (g3 : rng v3), K100 σ v1 v2 v3 → RG σ → TY σ → Ext σi σ → kO σ th 9 → JJ p l e R s m args below meth c 4 D cA A n0 s0 QM σ 100 [(0, .ref th), (1, .int (i32 v1)), (2, .int (i32 v2)), (3, .int (i32 v3))] []) : ∀ (σ : Sg) (v1 : Int) (v3 : Int) (u0 : Int) (g1 : rng v1) (g3 : rng v3) (gu0 : rng u0), w_X9_toldOfRun_119 th K100 Q X σ v1 v3 u0 → RG σ → TY σ → Ext σi σ → kO σ th 9 → JJ p l e R s m args below meth c 4 D cA A n0 s0 QM σ 119 [(0, .ref th), (1, .int (i32 v1)), (3, .int (i32 v3))] [.int (i32 u0)] := by
  intro σ v1 v3 u0 g1 g3 gu0 h hGσ hYσ hE hth H locs ls hH hl hc
  have B := K.1
  have hl9 := K.2.2.2.2.2.2
  unfold w_X9_toldOfRun_119 at h
  refine lv_aload_n B.1 B.2.1 dX9_toldOfRun_119 rfl (lv_at hl 0 rfl) ?_
  refine f_getp B hH hth (by decide) rfl wu_X9 6 (by decide) wf_X9_38 rfl rfl dX9_toldOfRun_120 ?_
  exact a_X9_toldOfRun_123 K hQ hX hTh hK100 _ _ _ _ _ g1 g3 (hYσ.get hth (by decide)) gu0 h hGσ hYσ hE hth _ _ _ hH (lv_sub (l' := [(0, .ref th), (1, .int (i32 v1)), (3, .int (i32 v3))]) hl [0, 1, 2] rfl) hc
set_option maxRecDepth 20000 in
theorem a_X9_toldOfRun_112 {Q : Sg → Int → Prop} {X : Sg → String → Prop} {th : Nat} (K : MD l R p s m args c cX9_toldOfRun 4 RX9 D cA tys A n0 s0 0 0 []) (hQ : CQI p l e R s m args below meth c cX9_toldOfRun D cA A n0 s0 QM σi Q) (hX : CX p l e R s m args below meth c 4 D cA A n0 s0 QM σi X) (hTh : CT p l e R s m args below meth c cX9_toldOfRun 4 D cA A n0 s0 QM σi RX9 X) {K100 : Sg → Int → Int → Int → Prop} (hK100 : ∀ (σ : Sg) (v1 : Int) (v2 : Int) (v3 : Int) (g1 : rng v1) (g2 : rng v2) (g3 : rng v3), K100 σ v1 v2 v3 → RG σ → TY σ → Ext σi σ → kO σ th 9 → JJ p l e R s m args below meth c 4 D cA A n0 s0 QM σ 100 [(0, .ref th), (1, .int (i32 v1)), (2, .int (i32 v2)), (3, .int (i32 v3))] []) : ∀ (σ : Sg) (v1 : Int) (v3 : Int) (u0 : Int) (g1 : rng v1) (g3 : rng v3) (gu0 : rng u0), w_X9_toldOfRun_112 th K100 Q X σ v1 v3 u0 → RG σ → TY σ → Ext σi σ → kO σ th 9 → JJ p l e R s m args below meth c 4 D cA A n0 s0 QM σ 112 [(0, .ref th), (1, .int (i32 v1)), (3, .int (i32 v3))] [.int (i32 u0)] := by
  intro σ v1 v3 u0 g1 g3 gu0 h hGσ hYσ hE hth H locs ls hH hl hc
  have B := K.1
  have hl9 := K.2.2.2.2.2.2
  unfold w_X9_toldOfRun_112 at h
  refine lv_aload_n B.1 B.2.1 dX9_toldOfRun_112 rfl (lv_at hl 0 rfl) ?_
  refine f_getp B hH hth (by decide) rfl wu_X9 7 (by decide) wf_X9_42 rfl rfl dX9_toldOfRun_113 ?_
  refine lv_goto (tgt := 123) B.1 B.2.1 dX9_toldOfRun_116 (by decide) ?_
  exact a_X9_toldOfRun_123 K hQ hX hTh hK100 _ _ _ _ _ g1 g3 (hYσ.get hth (by decide)) gu0 h hGσ hYσ hE hth _ _ _ hH (lv_sub (l' := [(0, .ref th), (1, .int (i32 v1)), (3, .int (i32 v3))]) hl [0, 1, 2] rfl) hc
set_option maxRecDepth 20000 in
theorem a_X9_toldOfRun_105 {Q : Sg → Int → Prop} {X : Sg → String → Prop} {th : Nat} (K : MD l R p s m args c cX9_toldOfRun 4 RX9 D cA tys A n0 s0 0 0 []) (hQ : CQI p l e R s m args below meth c cX9_toldOfRun D cA A n0 s0 QM σi Q) (hX : CX p l e R s m args below meth c 4 D cA A n0 s0 QM σi X) (hTh : CT p l e R s m args below meth c cX9_toldOfRun 4 D cA A n0 s0 QM σi RX9 X) {K100 : Sg → Int → Int → Int → Prop} (hK100 : ∀ (σ : Sg) (v1 : Int) (v2 : Int) (v3 : Int) (g1 : rng v1) (g2 : rng v2) (g3 : rng v3), K100 σ v1 v2 v3 → RG σ → TY σ → Ext σi σ → kO σ th 9 → JJ p l e R s m args below meth c 4 D cA A n0 s0 QM σ 100 [(0, .ref th), (1, .int (i32 v1)), (2, .int (i32 v2)), (3, .int (i32 v3))] []) : ∀ (σ : Sg) (v1 : Int) (v2 : Int) (v3 : Int) (g1 : rng v1) (g2 : rng v2) (g3 : rng v3), w_X9_toldOfRun_105 th K100 Q X σ v1 v2 v3 → RG σ → TY σ → Ext σi σ → kO σ th 9 → JJ p l e R s m args below meth c 4 D cA A n0 s0 QM σ 105 [(0, .ref th), (1, .int (i32 v1)), (2, .int (i32 v2)), (3, .int (i32 v3))] [] := by
  intro σ v1 v2 v3 g1 g2 g3 h hGσ hYσ hE hth H locs ls hH hl hc
  have B := K.1
  have hl9 := K.2.2.2.2.2.2
  unfold w_X9_toldOfRun_105 at h
  refine lv_iload_n B.1 B.2.1 dX9_toldOfRun_105 rfl (lv_at hl 2 rfl) ?_
  refine lv_iload_n B.1 B.2.1 dX9_toldOfRun_106 rfl (lv_at hl 1 rfl) ?_
  refine lv_bipush (v := i32 10) B.1 B.2.1 dX9_toldOfRun_107 (by decide) ?_
  refine lv_icmp_ne (tgt := 119) B.1 B.2.1 dX9_toldOfRun_109 (by decide) (fun h9 => ?_) (fun h9 => ?_)
  · rw [if_pos (fun q => h9 ((i32_eq g1 (by unfold rng; omega)).mpr q))] at h
    exact a_X9_toldOfRun_119 K hQ hX hTh hK100 _ _ _ _ g1 g3 g2 h hGσ hYσ hE hth _ _ _ hH (lv_sub (l' := [(0, .ref th), (1, .int (i32 v1)), (3, .int (i32 v3))]) hl [0, 1, 3] rfl) hc
  · rw [if_neg (fun q => q ((i32_eq g1 (by unfold rng; omega)).mp h9))] at h
    exact a_X9_toldOfRun_112 K hQ hX hTh hK100 _ _ _ _ g1 g3 g2 h hGσ hYσ hE hth _ _ _ hH (lv_sub (l' := [(0, .ref th), (1, .int (i32 v1)), (3, .int (i32 v3))]) hl [0, 1, 3] rfl) hc
set_option maxRecDepth 20000 in
theorem a_X9_toldOfRun_100 {Q : Sg → Int → Prop} {X : Sg → String → Prop} {th : Nat} (K : MD l R p s m args c cX9_toldOfRun 4 RX9 D cA tys A n0 s0 0 0 []) (hQ : CQI p l e R s m args below meth c cX9_toldOfRun D cA A n0 s0 QM σi Q) (hX : CX p l e R s m args below meth c 4 D cA A n0 s0 QM σi X) (hTh : CT p l e R s m args below meth c cX9_toldOfRun 4 D cA A n0 s0 QM σi RX9 X) {K100 : Sg → Int → Int → Int → Prop} (hK100 : ∀ (σ : Sg) (v1 : Int) (v2 : Int) (v3 : Int) (g1 : rng v1) (g2 : rng v2) (g3 : rng v3), K100 σ v1 v2 v3 → RG σ → TY σ → Ext σi σ → kO σ th 9 → JJ p l e R s m args below meth c 4 D cA A n0 s0 QM σ 100 [(0, .ref th), (1, .int (i32 v1)), (2, .int (i32 v2)), (3, .int (i32 v3))] []) : ∀ (σ : Sg) (v1 : Int) (v2 : Int) (v3 : Int) (g1 : rng v1) (g2 : rng v2) (g3 : rng v3), w_X9_toldOfRun_100 th K100 Q X σ v1 v2 v3 → RG σ → TY σ → Ext σi σ → kO σ th 9 → JJ p l e R s m args below meth c 4 D cA A n0 s0 QM σ 100 [(0, .ref th), (1, .int (i32 v1)), (2, .int (i32 v2)), (3, .int (i32 v3))] [] := by
  intro σ v1 v2 v3 g1 g2 g3 h hGσ hYσ hE hth H locs ls hH hl hc
  have B := K.1
  have hl9 := K.2.2.2.2.2.2
  unfold w_X9_toldOfRun_100 at h
  refine lv_iload_n B.1 B.2.1 dX9_toldOfRun_100 rfl (lv_at hl 3 rfl) ?_
  refine lv_iconst (v := i32 4) B.1 B.2.1 dX9_toldOfRun_101 (by decide) ?_
  refine lv_icmp_ge (tgt := 136) B.1 B.2.1 dX9_toldOfRun_102 (by decide) (fun h9 => ?_) (fun h9 => ?_)
  · rw [if_pos ((i32_le (by unfold rng; omega) g3).mp h9)] at h
    exact a_X9_toldOfRun_136 K hQ hX hTh _ _ g2 h hGσ hYσ hE hth _ _ _ hH (lv_sub (l' := [(0, .ref th), (2, .int (i32 v2))]) hl [0, 2] rfl) hc
  · rw [if_neg (fun q => h9 ((i32_le (by unfold rng; omega) g3).mpr q))] at h
    exact a_X9_toldOfRun_105 K hQ hX hTh hK100 _ _ _ _ g1 g2 g3 h hGσ hYσ hE hth _ _ _ hH (lv_sub (l' := [(0, .ref th), (1, .int (i32 v1)), (2, .int (i32 v2)), (3, .int (i32 v3))]) hl [0, 1, 2, 3] rfl) hc
theorem al_X9_toldOfRun_100 {Q : Sg → Int → Prop} {X : Sg → String → Prop} {th : Nat} (K : MD l R p s m args c cX9_toldOfRun 4 RX9 D cA tys A n0 s0 0 0 []) (hQ : CQI p l e R s m args below meth c cX9_toldOfRun D cA A n0 s0 QM σi Q) (hX : CX p l e R s m args below meth c 4 D cA A n0 s0 QM σi X) (hTh : CT p l e R s m args below meth c cX9_toldOfRun 4 D cA A n0 s0 QM σi RX9 X) : ∀ (n : Nat), ∀ (σ : Sg) (v1 : Int) (v2 : Int) (v3 : Int) (g1 : rng v1) (g2 : rng v2) (g3 : rng v3), wl_X9_toldOfRun_100 th Q X n σ v1 v2 v3 → RG σ → TY σ → Ext σi σ → kO σ th 9 → JJ p l e R s m args below meth c 4 D cA A n0 s0 QM σ 100 [(0, .ref th), (1, .int (i32 v1)), (2, .int (i32 v2)), (3, .int (i32 v3))] [] := by
  intro n
  induction n with
  | zero => intro σ v1 v2 v3 g1 g2 g3 h; exact h.elim
  | succ n ih => exact fun σ v1 v2 v3 g1 g2 g3 h => a_X9_toldOfRun_100 K hQ hX hTh ih σ v1 v2 v3 g1 g2 g3 h
set_option maxRecDepth 20000 in
theorem a_X9_toldOfRun_98 {Q : Sg → Int → Prop} {X : Sg → String → Prop} {th : Nat} (K : MD l R p s m args c cX9_toldOfRun 4 RX9 D cA tys A n0 s0 0 0 []) (hQ : CQI p l e R s m args below meth c cX9_toldOfRun D cA A n0 s0 QM σi Q) (hX : CX p l e R s m args below meth c 4 D cA A n0 s0 QM σi X) (hTh : CT p l e R s m args below meth c cX9_toldOfRun 4 D cA A n0 s0 QM σi RX9 X) : ∀ (σ : Sg) (v1 : Int) (v2 : Int) (g1 : rng v1) (g2 : rng v2), w_X9_toldOfRun_98 th Q X σ v1 v2 → RG σ → TY σ → Ext σi σ → kO σ th 9 → JJ p l e R s m args below meth c 4 D cA A n0 s0 QM σ 98 [(0, .ref th), (1, .int (i32 v1)), (2, .int (i32 v2))] [] := by
  intro σ v1 v2 g1 g2 h hGσ hYσ hE hth H locs ls hH hl hc
  have B := K.1
  have hl9 := K.2.2.2.2.2.2
  unfold w_X9_toldOfRun_98 at h
  refine lv_iconst (v := i32 0) B.1 B.2.1 dX9_toldOfRun_98 (by decide) ?_
  refine lv_istore_n (lv' := [(3, .int (i32 0)), (0, .ref th), (1, .int (i32 v1)), (2, .int (i32 v2))]) B.1 B.2.1 dX9_toldOfRun_99 rfl hl (by decide) rfl (fun ls hl => ?_)
  obtain ⟨n9, h⟩ := h
  exact al_X9_toldOfRun_100 K hQ hX hTh n9 _ _ _ _ g1 g2 (by unfold rng; omega) h hGσ hYσ hE hth _ _ _ hH (lv_sub (l' := [(0, .ref th), (1, .int (i32 v1)), (2, .int (i32 v2)), (3, .int (i32 0))]) hl [1, 2, 3, 0] rfl) hc
set_option maxRecDepth 20000 in
theorem a_X9_toldOfRun_138 {Q : Sg → Int → Prop} {X : Sg → String → Prop} {th : Nat} (K : MD l R p s m args c cX9_toldOfRun 4 RX9 D cA tys A n0 s0 0 0 []) (hQ : CQI p l e R s m args below meth c cX9_toldOfRun D cA A n0 s0 QM σi Q) (hX : CX p l e R s m args below meth c 4 D cA A n0 s0 QM σi X) (hTh : CT p l e R s m args below meth c cX9_toldOfRun 4 D cA A n0 s0 QM σi RX9 X) : ∀ (σ : Sg), w_X9_toldOfRun_138 th Q X σ → RG σ → TY σ → Ext σi σ → kO σ th 9 → JJ p l e R s m args below meth c 4 D cA A n0 s0 QM σ 138 [(0, .ref th)] [] := by
  intro σ h hGσ hYσ hE hth H locs ls hH hl hc
  have B := K.1
  have hl9 := K.2.2.2.2.2.2
  unfold w_X9_toldOfRun_138 at h
  refine lv_iconst (v := i32 (-1)) B.1 B.2.1 dX9_toldOfRun_138 (by decide) ?_
  exact hQ _ _ _ _ _ _ (by unfold rng; omega) dX9_toldOfRun_139 hH hc h hGσ hYσ hE
set_option maxRecDepth 20000 in
theorem a_X9_toldOfRun_0 {Q : Sg → Int → Prop} {X : Sg → String → Prop} {th : Nat} (K : MD l R p s m args c cX9_toldOfRun 4 RX9 D cA tys A n0 s0 0 0 []) (hQ : CQI p l e R s m args below meth c cX9_toldOfRun D cA A n0 s0 QM σi Q) (hX : CX p l e R s m args below meth c 4 D cA A n0 s0 QM σi X) (hTh : CT p l e R s m args below meth c cX9_toldOfRun 4 D cA A n0 s0 QM σi RX9 X) : ∀ (σ : Sg) (v1 : Int) (g1 : rng v1), w_X9_toldOfRun_0 th Q X σ v1 → RG σ → TY σ → Ext σi σ → kO σ th 9 → JJ p l e R s m args below meth c 4 D cA A n0 s0 QM σ 0 [(0, .ref th), (1, .int (i32 v1))] [] := by
  intro σ v1 g1 h hGσ hYσ hE hth H locs ls hH hl hc
  have B := K.1
  have hl9 := K.2.2.2.2.2.2
  unfold w_X9_toldOfRun_0 at h
  refine lv_iconst (v := i32 0) B.1 B.2.1 dX9_toldOfRun_0 (by decide) ?_
  refine lv_istore_n (lv' := [(2, .int (i32 0)), (0, .ref th), (1, .int (i32 v1))]) B.1 B.2.1 dX9_toldOfRun_1 rfl hl (by decide) rfl (fun ls hl => ?_)
  refine lv_iload_n B.1 B.2.1 dX9_toldOfRun_2 rfl (lv_at hl 2 rfl) ?_
  rcases Classical.em (v1 = 1) with e9 | e9
  · rw [if_pos e9] at h
    refine lv_tableIn (off := 57) (tgt := 60) B.1 B.2.1 dX9_toldOfRun_3 (by rw [i32_toInt g1, e9]; decide) (by rw [i32_toInt g1, e9]; decide) (by rw [i32_toInt g1, e9]; rfl) (by decide) ?_
    exact a_X9_toldOfRun_60 K hQ hX hTh _ h hGσ hYσ hE hth _ _ _ hH (lv_sub (l' := [(0, .ref th)]) hl [1] rfl) hc
  rw [if_neg e9] at h
  have k1 := e9
  rcases Classical.em (v1 = 2) with e9 | e9
  · rw [if_pos e9] at h
    refine lv_tableIn (off := 62) (tgt := 65) B.1 B.2.1 dX9_toldOfRun_3 (by rw [i32_toInt g1, e9]; decide) (by rw [i32_toInt g1, e9]; decide) (by rw [i32_toInt g1, e9]; rfl) (by decide) ?_
    exact a_X9_toldOfRun_65 K hQ hX hTh _ h hGσ hYσ hE hth _ _ _ hH (lv_sub (l' := [(0, .ref th)]) hl [1] rfl) hc
  rw [if_neg e9] at h
  have k2 := e9
  rcases Classical.em (v1 = 3) with e9 | e9
  · rw [if_pos e9] at h
    refine lv_tableIn (off := 67) (tgt := 70) B.1 B.2.1 dX9_toldOfRun_3 (by rw [i32_toInt g1, e9]; decide) (by rw [i32_toInt g1, e9]; decide) (by rw [i32_toInt g1, e9]; rfl) (by decide) ?_
    exact a_X9_toldOfRun_70 K hQ hX hTh _ h hGσ hYσ hE hth _ _ _ hH (lv_sub (l' := [(0, .ref th)]) hl [1] rfl) hc
  rw [if_neg e9] at h
  have k3 := e9
  rcases Classical.em (v1 = 4) with e9 | e9
  · rw [if_pos e9] at h
    refine lv_tableIn (off := 72) (tgt := 75) B.1 B.2.1 dX9_toldOfRun_3 (by rw [i32_toInt g1, e9]; decide) (by rw [i32_toInt g1, e9]; decide) (by rw [i32_toInt g1, e9]; rfl) (by decide) ?_
    exact a_X9_toldOfRun_75 K hQ hX hTh _ h hGσ hYσ hE hth _ _ _ hH (lv_sub (l' := [(0, .ref th)]) hl [1] rfl) hc
  rw [if_neg e9] at h
  have k4 := e9
  rcases Classical.em (v1 = 7) with e9 | e9
  · rw [if_pos e9] at h
    refine lv_tableIn (off := 77) (tgt := 80) B.1 B.2.1 dX9_toldOfRun_3 (by rw [i32_toInt g1, e9]; decide) (by rw [i32_toInt g1, e9]; decide) (by rw [i32_toInt g1, e9]; rfl) (by decide) ?_
    exact a_X9_toldOfRun_80 K hQ hX hTh _ h hGσ hYσ hE hth _ _ _ hH (lv_sub (l' := [(0, .ref th)]) hl [1] rfl) hc
  rw [if_neg e9] at h
  have k5 := e9
  rcases Classical.em (v1 = 8) with e9 | e9
  · rw [if_pos e9] at h
    refine lv_tableIn (off := 82) (tgt := 85) B.1 B.2.1 dX9_toldOfRun_3 (by rw [i32_toInt g1, e9]; decide) (by rw [i32_toInt g1, e9]; decide) (by rw [i32_toInt g1, e9]; rfl) (by decide) ?_
    exact a_X9_toldOfRun_85 K hQ hX hTh _ h hGσ hYσ hE hth _ _ _ hH (lv_sub (l' := [(0, .ref th)]) hl [1] rfl) hc
  rw [if_neg e9] at h
  have k6 := e9
  rcases Classical.em (v1 = 10) with e9 | e9
  · rw [if_pos e9] at h
    refine lv_tableIn (off := 95) (tgt := 98) B.1 B.2.1 dX9_toldOfRun_3 (by rw [i32_toInt g1, e9]; decide) (by rw [i32_toInt g1, e9]; decide) (by rw [i32_toInt g1, e9]; rfl) (by decide) ?_
    exact a_X9_toldOfRun_98 K hQ hX hTh _ _ _ g1 (by unfold rng; omega) h hGσ hYσ hE hth _ _ _ hH (lv_sub (l' := [(0, .ref th), (1, .int (i32 v1)), (2, .int (i32 0))]) hl [1, 2, 0] rfl) hc
  rw [if_neg e9] at h
  have k7 := e9
  rcases Classical.em (v1 = 11) with e9 | e9
  · rw [if_pos e9] at h
    refine lv_tableIn (off := 95) (tgt := 98) B.1 B.2.1 dX9_toldOfRun_3 (by rw [i32_toInt g1, e9]; decide) (by rw [i32_toInt g1, e9]; decide) (by rw [i32_toInt g1, e9]; rfl) (by decide) ?_
    exact a_X9_toldOfRun_98 K hQ hX hTh _ _ _ g1 (by unfold rng; omega) h hGσ hYσ hE hth _ _ _ hH (lv_sub (l' := [(0, .ref th), (1, .int (i32 v1)), (2, .int (i32 0))]) hl [1, 2, 0] rfl) hc
  rw [if_neg e9] at h
  have k8 := e9
  rcases (show (v1 < 1 ∨ 11 < v1) ∨ v1 = 5 ∨ v1 = 6 ∨ v1 = 9 by omega) with e9 | e9 | e9 | e9
  · refine lv_tableOut (tgt := 138) B.1 B.2.1 dX9_toldOfRun_3 (by rw [i32_toInt g1]; exact e9) (by decide) ?_
    exact a_X9_toldOfRun_138 K hQ hX hTh _ h hGσ hYσ hE hth _ _ _ hH (lv_sub (l' := [(0, .ref th)]) hl [1] rfl) hc
  · refine lv_tableIn (off := 135) (tgt := 138) B.1 B.2.1 dX9_toldOfRun_3 (by rw [i32_toInt g1, e9]; decide) (by rw [i32_toInt g1, e9]; decide) (by rw [i32_toInt g1, e9]; rfl) (by decide) ?_
    exact a_X9_toldOfRun_138 K hQ hX hTh _ h hGσ hYσ hE hth _ _ _ hH (lv_sub (l' := [(0, .ref th)]) hl [1] rfl) hc
  · refine lv_tableIn (off := 135) (tgt := 138) B.1 B.2.1 dX9_toldOfRun_3 (by rw [i32_toInt g1, e9]; decide) (by rw [i32_toInt g1, e9]; decide) (by rw [i32_toInt g1, e9]; rfl) (by decide) ?_
    exact a_X9_toldOfRun_138 K hQ hX hTh _ h hGσ hYσ hE hth _ _ _ hH (lv_sub (l' := [(0, .ref th)]) hl [1] rfl) hc
  · refine lv_tableIn (off := 135) (tgt := 138) B.1 B.2.1 dX9_toldOfRun_3 (by rw [i32_toInt g1, e9]; decide) (by rw [i32_toInt g1, e9]; decide) (by rw [i32_toInt g1, e9]; rfl) (by decide) ?_
    exact a_X9_toldOfRun_138 K hQ hX hTh _ h hGσ hYσ hE hth _ _ _ hH (lv_sub (l' := [(0, .ref th)]) hl [1] rfl) hc
theorem ok_X9_toldOfRun (hl0 : l.stackTraces = false) (hT : TyC cA tys) {Q : Sg → Int → Prop} {X : Sg → String → Prop} (σ : Sg) (th : Nat) (v1 : Int) (g1 : rng v1) (hth : kO σ th 9) (hG : RG σ) (hY : TY σ) (h : wp_X9_toldOfRun th v1 σ Q X) : Ok l D cA tys A yX9_toldOfRun (.code yX9_toldOfRun cX9_toldOfRun 4 (some .int)) 0 0 [.ref th, .int (i32 v1)] σ (QcI σ Q) (QxC σ X) := by
  unfold wp_X9_toldOfRun at h
  exact oc_I hl0 (by decide) (by exact Nat.le_of_ble_eq_true rfl) hT (fun p e R s m args below meth c K hQ hX hTh H locs ls hH hl hc => a_X9_toldOfRun_0 K hQ hX hTh σ v1 g1 h hG hY (Ext.rfl' σ) hth H locs ls hH (lv_sub (l' := [(0, .ref th), (1, .int (i32 v1))]) hl [0, 1] rfl) hc)
theorem dX12_told_0 : decode cX12_told 0 = .ok (.iload_n 1, 1) := by decide +kernel
theorem dX12_told_1 : decode cX12_told 1 = .ok (.tableswitch 145 0 14 #[75, 145, 145, 145, 145, 83, 94, 145, 145, 105, 145, 145, 124, 132, 140], 75) := by decide +kernel
theorem dX12_told_76 : decode cX12_told 76 = .ok (.aload_n 0, 1) := by decide +kernel
theorem dX12_told_77 : decode cX12_told 77 = .ok (.getfield 30, 3) := by decide +kernel
theorem dX12_told_80 : decode cX12_told 80 = .ok (.getfield 89, 3) := by decide +kernel
theorem dX12_told_83 : decode cX12_told 83 = .ok (.ireturn, 1) := by decide +kernel
theorem dX12_told_84 : decode cX12_told 84 = .ok (.aload_n 0, 1) := by decide +kernel
theorem dX12_told_85 : decode cX12_told 85 = .ok (.getfield 49, 3) := by decide +kernel
theorem dX12_told_88 : decode cX12_told 88 = .ok (.getfield 66, 3) := by decide +kernel
theorem dX12_told_91 : decode cX12_told 91 = .ok (.getfield 163, 3) := by decide +kernel
theorem dX12_told_94 : decode cX12_told 94 = .ok (.ireturn, 1) := by decide +kernel
theorem dX12_told_95 : decode cX12_told 95 = .ok (.aload_n 0, 1) := by decide +kernel
theorem dX12_told_96 : decode cX12_told 96 = .ok (.getfield 49, 3) := by decide +kernel
theorem dX12_told_99 : decode cX12_told 99 = .ok (.getfield 66, 3) := by decide +kernel
theorem dX12_told_102 : decode cX12_told 102 = .ok (.getfield 150, 3) := by decide +kernel
theorem dX12_told_105 : decode cX12_told 105 = .ok (.ireturn, 1) := by decide +kernel
theorem dX12_told_106 : decode cX12_told 106 = .ok (.aload_n 0, 1) := by decide +kernel
theorem dX12_told_107 : decode cX12_told 107 = .ok (.getfield 49, 3) := by decide +kernel
theorem dX12_told_110 : decode cX12_told 110 = .ok (.getfield 66, 3) := by decide +kernel
theorem dX12_told_113 : decode cX12_told 113 = .ok (.getfield 70, 3) := by decide +kernel
theorem dX12_told_116 : decode cX12_told 116 = .ok (.ifCond .eq 7, 3) := by decide +kernel
theorem dX12_told_119 : decode cX12_told 119 = .ok (.iconst 1, 1) := by decide +kernel
theorem dX12_told_120 : decode cX12_told 120 = .ok (.goto 4, 3) := by decide +kernel
theorem dX12_told_123 : decode cX12_told 123 = .ok (.iconst 0, 1) := by decide +kernel
theorem dX12_told_124 : decode cX12_told 124 = .ok (.ireturn, 1) := by decide +kernel
theorem dX12_told_125 : decode cX12_told 125 = .ok (.aload_n 0, 1) := by decide +kernel
theorem dX12_told_126 : decode cX12_told 126 = .ok (.getfield 40, 3) := by decide +kernel
theorem dX12_told_129 : decode cX12_told 129 = .ok (.getfield 251, 3) := by decide +kernel
theorem dX12_told_132 : decode cX12_told 132 = .ok (.ireturn, 1) := by decide +kernel
theorem dX12_told_133 : decode cX12_told 133 = .ok (.aload_n 0, 1) := by decide +kernel
theorem dX12_told_134 : decode cX12_told 134 = .ok (.getfield 30, 3) := by decide +kernel
theorem dX12_told_137 : decode cX12_told 137 = .ok (.getfield 254, 3) := by decide +kernel
theorem dX12_told_140 : decode cX12_told 140 = .ok (.ireturn, 1) := by decide +kernel
theorem dX12_told_141 : decode cX12_told 141 = .ok (.aload_n 0, 1) := by decide +kernel
theorem dX12_told_142 : decode cX12_told 142 = .ok (.getfield 13, 3) := by decide +kernel
theorem dX12_told_145 : decode cX12_told 145 = .ok (.ireturn, 1) := by decide +kernel
theorem dX12_told_146 : decode cX12_told 146 = .ok (.aload_n 0, 1) := by decide +kernel
theorem dX12_told_147 : decode cX12_told 147 = .ok (.getfield 49, 3) := by decide +kernel
theorem dX12_told_150 : decode cX12_told 150 = .ok (.iload_n 1, 1) := by decide +kernel
theorem dX12_told_151 : decode cX12_told 151 = .ok (.invokevirtual 257, 3) := by decide +kernel
theorem dX12_told_154 : decode cX12_told 154 = .ok (.ireturn, 1) := by decide +kernel
set_option maxRecDepth 20000 in
theorem a_X12_told_76 {Q : Sg → Int → Prop} {X : Sg → String → Prop} {th : Nat} (K : MD l R p s m args c cX12_told 2 RX12 D cA tys A n0 s0 1 23 []) (hQ : CQI p l e R s m args below meth c cX12_told D cA A n0 s0 QM σi Q) (hX : CX p l e R s m args below meth c 2 D cA A n0 s0 QM σi X) (hTh : CT p l e R s m args below meth c cX12_told 2 D cA A n0 s0 QM σi RX12 X) : ∀ (σ : Sg), w_X12_told_76 th Q X σ → RG σ → TY σ → Ext σi σ → kO σ th 12 → JJ p l e R s m args below meth c 2 D cA A n0 s0 QM σ 76 [(0, .ref th)] [] := by
  intro σ h hGσ hYσ hE hth H locs ls hH hl hc
  have B := K.1
  have hl9 := K.2.2.2.2.2.2
  unfold w_X12_told_76 at h
  refine lv_aload_n B.1 B.2.1 dX12_told_76 rfl (lv_at hl 0 rfl) ?_
  refine f_getp B hH hth (by decide) rfl wu_X12 4 (by decide) wf_X12_30 rfl rfl dX12_told_77 ?_
  obtain ⟨a25, ea25, h⟩ := h
  have ka25 : kO σ a25 4 := (hYσ.get hth (by decide)) a25 ea25
  have h := h ka25
  refine W.eq (g2 := F0 m 80 ls [.ref a25]) (by rw [ea25]; rfl) ?_
  refine f_geti B hH ka25 (by decide) rfl wu_X4 1 (by decide) wf_X12_89 rfl rfl dX12_told_80 ?_
  exact hQ _ _ _ _ _ _ (hGσ _ _) dX12_told_83 hH hc h hGσ hYσ hE
set_option maxRecDepth 20000 in
theorem a_X12_told_84 {Q : Sg → Int → Prop} {X : Sg → String → Prop} {th : Nat} (K : MD l R p s m args c cX12_told 2 RX12 D cA tys A n0 s0 1 23 []) (hQ : CQI p l e R s m args below meth c cX12_told D cA A n0 s0 QM σi Q) (hX : CX p l e R s m args below meth c 2 D cA A n0 s0 QM σi X) (hTh : CT p l e R s m args below meth c cX12_told 2 D cA A n0 s0 QM σi RX12 X) : ∀ (σ : Sg), w_X12_told_84 th Q X σ → RG σ → TY σ → Ext σi σ → kO σ th 12 → JJ p l e R s m args below meth c 2 D cA A n0 s0 QM σ 84 [(0, .ref th)] [] := by
  intro σ h hGσ hYσ hE hth H locs ls hH hl hc
  have B := K.1
  have hl9 := K.2.2.2.2.2.2
  unfold w_X12_told_84 at h
  refine lv_aload_n B.1 B.2.1 dX12_told_84 rfl (lv_at hl 0 rfl) ?_
  refine f_getp B hH hth (by decide) rfl wu_X12 7 (by decide) wf_X12_49 rfl rfl dX12_told_85 ?_
  obtain ⟨a26, ea26, h⟩ := h
  have ka26 : kO σ a26 9 := (hYσ.get hth (by decide)) a26 ea26
  have h := h ka26
  refine W.eq (g2 := F0 m 88 ls [.ref a26]) (by rw [ea26]; rfl) ?_
  refine f_getp B hH ka26 (by decide) rfl wu_X9 2 (by decide) wf_X12_66 rfl rfl dX12_told_88 ?_
  obtain ⟨a27, ea27, h⟩ := h
  have ka27 : kO σ a27 3 := (hYσ.get ka26 (by decide)) a27 ea27
  have h := h ka27
  refine W.eq (g2 := F0 m 91 ls [.ref a27]) (by rw [ea27]; rfl) ?_
  refine f_geti B hH ka27 (by decide) rfl wu_X3 4 (by decide) wf_X12_163 rfl rfl dX12_told_91 ?_
  exact hQ _ _ _ _ _ _ (hGσ _ _) dX12_told_94 hH hc h hGσ hYσ hE
set_option maxRecDepth 20000 in
theorem a_X12_told_95 {Q : Sg → Int → Prop} {X : Sg → String → Prop} {th : Nat} (K : MD l R p s m args c cX12_told 2 RX12 D cA tys A n0 s0 1 23 []) (hQ : CQI p l e R s m args below meth c cX12_told D cA A n0 s0 QM σi Q) (hX : CX p l e R s m args below meth c 2 D cA A n0 s0 QM σi X) (hTh : CT p l e R s m args below meth c cX12_told 2 D cA A n0 s0 QM σi RX12 X) : ∀ (σ : Sg), w_X12_told_95 th Q X σ → RG σ → TY σ → Ext σi σ → kO σ th 12 → JJ p l e R s m args below meth c 2 D cA A n0 s0 QM σ 95 [(0, .ref th)] [] := by
  intro σ h hGσ hYσ hE hth H locs ls hH hl hc
  have B := K.1
  have hl9 := K.2.2.2.2.2.2
  unfold w_X12_told_95 at h
  refine lv_aload_n B.1 B.2.1 dX12_told_95 rfl (lv_at hl 0 rfl) ?_
  refine f_getp B hH hth (by decide) rfl wu_X12 7 (by decide) wf_X12_49 rfl rfl dX12_told_96 ?_
  obtain ⟨a28, ea28, h⟩ := h
  have ka28 : kO σ a28 9 := (hYσ.get hth (by decide)) a28 ea28
  have h := h ka28
  refine W.eq (g2 := F0 m 99 ls [.ref a28]) (by rw [ea28]; rfl) ?_
  refine f_getp B hH ka28 (by decide) rfl wu_X9 2 (by decide) wf_X12_66 rfl rfl dX12_told_99 ?_
  obtain ⟨a29, ea29, h⟩ := h
  have ka29 : kO σ a29 3 := (hYσ.get ka28 (by decide)) a29 ea29
  have h := h ka29
  refine W.eq (g2 := F0 m 102 ls [.ref a29]) (by rw [ea29]; rfl) ?_
  refine f_geti B hH ka29 (by decide) rfl wu_X3 3 (by decide) wf_X12_150 rfl rfl dX12_told_102 ?_
  exact hQ _ _ _ _ _ _ (hGσ _ _) dX12_told_105 hH hc h hGσ hYσ hE
set_option maxRecDepth 20000 in
theorem a_X12_told_124 {Q : Sg → Int → Prop} {X : Sg → String → Prop} {th : Nat} (K : MD l R p s m args c cX12_told 2 RX12 D cA tys A n0 s0 1 23 []) (hQ : CQI p l e R s m args below meth c cX12_told D cA A n0 s0 QM σi Q) (hX : CX p l e R s m args below meth c 2 D cA A n0 s0 QM σi X) (hTh : CT p l e R s m args below meth c cX12_told 2 D cA A n0 s0 QM σi RX12 X) : ∀ (σ : Sg) (u0 : Int) (gu0 : rng u0), w_X12_told_124 th Q X σ u0 → RG σ → TY σ → Ext σi σ → kO σ th 12 → JJ p l e R s m args below meth c 2 D cA A n0 s0 QM σ 124 [(0, .ref th)] [.int (i32 u0)] := by
  intro σ u0 gu0 h hGσ hYσ hE hth H locs ls hH hl hc
  have B := K.1
  have hl9 := K.2.2.2.2.2.2
  unfold w_X12_told_124 at h
  exact hQ _ _ _ _ _ _ gu0 dX12_told_124 hH hc h hGσ hYσ hE
set_option maxRecDepth 20000 in
theorem a_X12_told_123 {Q : Sg → Int → Prop} {X : Sg → String → Prop} {th : Nat} (K : MD l R p s m args c cX12_told 2 RX12 D cA tys A n0 s0 1 23 []) (hQ : CQI p l e R s m args below meth c cX12_told D cA A n0 s0 QM σi Q) (hX : CX p l e R s m args below meth c 2 D cA A n0 s0 QM σi X) (hTh : CT p l e R s m args below meth c cX12_told 2 D cA A n0 s0 QM σi RX12 X) : ∀ (σ : Sg), w_X12_told_123 th Q X σ → RG σ → TY σ → Ext σi σ → kO σ th 12 → JJ p l e R s m args below meth c 2 D cA A n0 s0 QM σ 123 [(0, .ref th)] [] := by
  intro σ h hGσ hYσ hE hth H locs ls hH hl hc
  have B := K.1
  have hl9 := K.2.2.2.2.2.2
  unfold w_X12_told_123 at h
  refine lv_iconst (v := i32 0) B.1 B.2.1 dX12_told_123 (by decide) ?_
  exact a_X12_told_124 K hQ hX hTh _ _ (by unfold rng; omega) h hGσ hYσ hE hth _ _ _ hH (lv_sub (l' := [(0, .ref th)]) hl [0] rfl) hc
set_option maxRecDepth 20000 in
theorem a_X12_told_119 {Q : Sg → Int → Prop} {X : Sg → String → Prop} {th : Nat} (K : MD l R p s m args c cX12_told 2 RX12 D cA tys A n0 s0 1 23 []) (hQ : CQI p l e R s m args below meth c cX12_told D cA A n0 s0 QM σi Q) (hX : CX p l e R s m args below meth c 2 D cA A n0 s0 QM σi X) (hTh : CT p l e R s m args below meth c cX12_told 2 D cA A n0 s0 QM σi RX12 X) : ∀ (σ : Sg), w_X12_told_119 th Q X σ → RG σ → TY σ → Ext σi σ → kO σ th 12 → JJ p l e R s m args below meth c 2 D cA A n0 s0 QM σ 119 [(0, .ref th)] [] := by
  intro σ h hGσ hYσ hE hth H locs ls hH hl hc
  have B := K.1
  have hl9 := K.2.2.2.2.2.2
  unfold w_X12_told_119 at h
  refine lv_iconst (v := i32 1) B.1 B.2.1 dX12_told_119 (by decide) ?_
  refine lv_goto (tgt := 124) B.1 B.2.1 dX12_told_120 (by decide) ?_
  exact a_X12_told_124 K hQ hX hTh _ _ (by unfold rng; omega) h hGσ hYσ hE hth _ _ _ hH (lv_sub (l' := [(0, .ref th)]) hl [0] rfl) hc
set_option maxRecDepth 20000 in
theorem a_X12_told_106 {Q : Sg → Int → Prop} {X : Sg → String → Prop} {th : Nat} (K : MD l R p s m args c cX12_told 2 RX12 D cA tys A n0 s0 1 23 []) (hQ : CQI p l e R s m args below meth c cX12_told D cA A n0 s0 QM σi Q) (hX : CX p l e R s m args below meth c 2 D cA A n0 s0 QM σi X) (hTh : CT p l e R s m args below meth c cX12_told 2 D cA A n0 s0 QM σi RX12 X) : ∀ (σ : Sg), w_X12_told_106 th Q X σ → RG σ → TY σ → Ext σi σ → kO σ th 12 → JJ p l e R s m args below meth c 2 D cA A n0 s0 QM σ 106 [(0, .ref th)] [] := by
  intro σ h hGσ hYσ hE hth H locs ls hH hl hc
  have B := K.1
  have hl9 := K.2.2.2.2.2.2
  unfold w_X12_told_106 at h
  refine lv_aload_n B.1 B.2.1 dX12_told_106 rfl (lv_at hl 0 rfl) ?_
  refine f_getp B hH hth (by decide) rfl wu_X12 7 (by decide) wf_X12_49 rfl rfl dX12_told_107 ?_
  obtain ⟨a30, ea30, h⟩ := h
  have ka30 : kO σ a30 9 := (hYσ.get hth (by decide)) a30 ea30
  have h := h ka30
  refine W.eq (g2 := F0 m 110 ls [.ref a30]) (by rw [ea30]; rfl) ?_
  refine f_getp B hH ka30 (by decide) rfl wu_X9 2 (by decide) wf_X12_66 rfl rfl dX12_told_110 ?_
  obtain ⟨a31, ea31, h⟩ := h
  have ka31 : kO σ a31 3 := (hYσ.get ka30 (by decide)) a31 ea31
  have h := h ka31
  refine W.eq (g2 := F0 m 113 ls [.ref a31]) (by rw [ea31]; rfl) ?_
  refine f_geti B hH ka31 (by decide) rfl wu_X3 9 (by decide) wf_X12_70 rfl rfl dX12_told_113 ?_
  refine lv_if_eq (tgt := 123) B.1 B.2.1 dX12_told_116 (by decide) (fun h9 => ?_) (fun h9 => ?_)
  · rw [if_pos ((z_eq (hGσ _ _)).mp h9)] at h
    exact a_X12_told_123 K hQ hX hTh _ h hGσ hYσ hE hth _ _ _ hH (lv_sub (l' := [(0, .ref th)]) hl [0] rfl) hc
  · rw [if_neg (fun q => h9 ((z_eq (hGσ _ _)).mpr q))] at h
    exact a_X12_told_119 K hQ hX hTh _ h hGσ hYσ hE hth _ _ _ hH (lv_sub (l' := [(0, .ref th)]) hl [0] rfl) hc
set_option maxRecDepth 20000 in
theorem a_X12_told_125 {Q : Sg → Int → Prop} {X : Sg → String → Prop} {th : Nat} (K : MD l R p s m args c cX12_told 2 RX12 D cA tys A n0 s0 1 23 []) (hQ : CQI p l e R s m args below meth c cX12_told D cA A n0 s0 QM σi Q) (hX : CX p l e R s m args below meth c 2 D cA A n0 s0 QM σi X) (hTh : CT p l e R s m args below meth c cX12_told 2 D cA A n0 s0 QM σi RX12 X) : ∀ (σ : Sg), w_X12_told_125 th Q X σ → RG σ → TY σ → Ext σi σ → kO σ th 12 → JJ p l e R s m args below meth c 2 D cA A n0 s0 QM σ 125 [(0, .ref th)] [] := by
  intro σ h hGσ hYσ hE hth H locs ls hH hl hc
  have B := K.1
  have hl9 := K.2.2.2.2.2.2
  unfold w_X12_told_125 at h
  refine lv_aload_n B.1 B.2.1 dX12_told_125 rfl (lv_at hl 0 rfl) ?_
  refine f_getp B hH hth (by decide) rfl wu_X12 6 (by decide) wf_X12_40 rfl rfl dX12_told_126 ?_
  obtain ⟨a32, ea32, h⟩ := h
  have ka32 : kO σ a32 8 := (hYσ.get hth (by decide)) a32 ea32
  have h := h ka32
  refine W.eq (g2 := F0 m 129 ls [.ref a32]) (by rw [ea32]; rfl) ?_
  refine f_geti B hH ka32 (by decide) rfl wu_X8 1 (by decide) wf_X12_251 rfl rfl dX12_told_129 ?_
  exact hQ _ _ _ _ _ _ (hGσ _ _) dX12_told_132 hH hc h hGσ hYσ hE
set_option maxRecDepth 20000 in
theorem a_X12_told_133 {Q : Sg → Int → Prop} {X : Sg → String → Prop} {th : Nat} (K : MD l R p s m args c cX12_told 2 RX12 D cA tys A n0 s0 1 23 []) (hQ : CQI p l e R s m args below meth c cX12_told D cA A n0 s0 QM σi Q) (hX : CX p l e R s m args below meth c 2 D cA A n0 s0 QM σi X) (hTh : CT p l e R s m args below meth c cX12_told 2 D cA A n0 s0 QM σi RX12 X) : ∀ (σ : Sg), w_X12_told_133 th Q X σ → RG σ → TY σ → Ext σi σ → kO σ th 12 → JJ p l e R s m args below meth c 2 D cA A n0 s0 QM σ 133 [(0, .ref th)] [] := by
  intro σ h hGσ hYσ hE hth H locs ls hH hl hc
  have B := K.1
  have hl9 := K.2.2.2.2.2.2
  unfold w_X12_told_133 at h
  refine lv_aload_n B.1 B.2.1 dX12_told_133 rfl (lv_at hl 0 rfl) ?_
  refine f_getp B hH hth (by decide) rfl wu_X12 4 (by decide) wf_X12_30 rfl rfl dX12_told_134 ?_
  obtain ⟨a33, ea33, h⟩ := h
  have ka33 : kO σ a33 4 := (hYσ.get hth (by decide)) a33 ea33
  have h := h ka33
  refine W.eq (g2 := F0 m 137 ls [.ref a33]) (by rw [ea33]; rfl) ?_
  refine f_geti B hH ka33 (by decide) rfl wu_X4 2 (by decide) wf_X12_254 rfl rfl dX12_told_137 ?_
  exact hQ _ _ _ _ _ _ (hGσ _ _) dX12_told_140 hH hc h hGσ hYσ hE
set_option maxRecDepth 20000 in
theorem a_X12_told_141 {Q : Sg → Int → Prop} {X : Sg → String → Prop} {th : Nat} (K : MD l R p s m args c cX12_told 2 RX12 D cA tys A n0 s0 1 23 []) (hQ : CQI p l e R s m args below meth c cX12_told D cA A n0 s0 QM σi Q) (hX : CX p l e R s m args below meth c 2 D cA A n0 s0 QM σi X) (hTh : CT p l e R s m args below meth c cX12_told 2 D cA A n0 s0 QM σi RX12 X) : ∀ (σ : Sg), w_X12_told_141 th Q X σ → RG σ → TY σ → Ext σi σ → kO σ th 12 → JJ p l e R s m args below meth c 2 D cA A n0 s0 QM σ 141 [(0, .ref th)] [] := by
  intro σ h hGσ hYσ hE hth H locs ls hH hl hc
  have B := K.1
  have hl9 := K.2.2.2.2.2.2
  unfold w_X12_told_141 at h
  refine lv_aload_n B.1 B.2.1 dX12_told_141 rfl (lv_at hl 0 rfl) ?_
  refine f_geti B hH hth (by decide) rfl wu_X12 1 (by decide) wf_X12_13 rfl rfl dX12_told_142 ?_
  exact hQ _ _ _ _ _ _ (hGσ _ _) dX12_told_145 hH hc h hGσ hYσ hE
set_option maxRecDepth 20000 in
theorem a_X12_told_146 {Q : Sg → Int → Prop} {X : Sg → String → Prop} {th : Nat} (K : MD l R p s m args c cX12_told 2 RX12 D cA tys A n0 s0 1 23 []) (hQ : CQI p l e R s m args below meth c cX12_told D cA A n0 s0 QM σi Q) (hX : CX p l e R s m args below meth c 2 D cA A n0 s0 QM σi X) (hTh : CT p l e R s m args below meth c cX12_told 2 D cA A n0 s0 QM σi RX12 X) : ∀ (σ : Sg) (v1 : Int) (g1 : rng v1), w_X12_told_146 th Q X σ v1 → RG σ → TY σ → Ext σi σ → kO σ th 12 → JJ p l e R s m args below meth c 2 D cA A n0 s0 QM σ 146 [(0, .ref th), (1, .int (i32 v1))] [] := by
  intro σ v1 g1 h hGσ hYσ hE hth H locs ls hH hl hc
  have B := K.1
  have hl9 := K.2.2.2.2.2.2
  unfold w_X12_told_146 at h
  refine lv_aload_n B.1 B.2.1 dX12_told_146 rfl (lv_at hl 0 rfl) ?_
  refine f_getp B hH hth (by decide) rfl wu_X12 7 (by decide) wf_X12_49 rfl rfl dX12_told_147 ?_
  refine lv_iload_n B.1 B.2.1 dX12_told_150 rfl (lv_at hl 1 rfl) ?_
  obtain ⟨a36, ea36, h⟩ := h
  have ka36 : kO σ a36 9 := (hYσ.get hth (by decide)) a36 ea36
  have h := h ka36
  refine W.eq (g2 := F0 m 151 ls [.int (i32 v1), .ref a36]) (by rw [ea36]; rfl) ?_
  refine c_V B hH hl hc K.2.2.1 (C := RX9) (T := TX9) (N := 20) (ci := 9) (As := [.int (i32 v1)]) (ok_X9_toldOfRun hl9 K.2.1 σ a36 v1 g1 ka36 hGσ hYσ h) wc_X12_257 1 hd_X9_toldOfRun ⟨Nat.le_trans (Nat.le_of_ble_eq_true rfl) K.2.2.2.1, Nat.le_trans (Nat.le_of_ble_eq_true rfl) K.2.2.2.2.1⟩ ka36.1 ka36.2 (by decide) rfl rfl (rest := []) rfl (Nat.le_of_ble_eq_true rfl) dX12_told_151 (fun σ34 w hq => ?_) (fun σ9 E9 hx9 => hX σ9 E9 _ _ _ (tb_out K.2.2.2.2.2.1 rfl) hx9.1 hx9.2.1 hx9.2.2.1 (hE.trans hx9.2.2.2))
  obtain ⟨r35, rfl, gr35, h, hGσ34, hYσ34, xσ34⟩ := hq
  have h := h xσ34
  intro H locs ls hH hl hc
  refine W.eq (g2 := F0 m 154 ls [.int (i32 r35)]) (rfl) ?_
  try dsimp only at h
  exact hQ _ _ _ _ _ _ gr35 dX12_told_154 hH hc h hGσ34 hYσ34 (hE.trans xσ34)
set_option maxRecDepth 20000 in
theorem a_X12_told_0 {Q : Sg → Int → Prop} {X : Sg → String → Prop} {th : Nat} (K : MD l R p s m args c cX12_told 2 RX12 D cA tys A n0 s0 1 23 []) (hQ : CQI p l e R s m args below meth c cX12_told D cA A n0 s0 QM σi Q) (hX : CX p l e R s m args below meth c 2 D cA A n0 s0 QM σi X) (hTh : CT p l e R s m args below meth c cX12_told 2 D cA A n0 s0 QM σi RX12 X) : ∀ (σ : Sg) (v1 : Int) (g1 : rng v1), w_X12_told_0 th Q X σ v1 → RG σ → TY σ → Ext σi σ → kO σ th 12 → JJ p l e R s m args below meth c 2 D cA A n0 s0 QM σ 0 [(0, .ref th), (1, .int (i32 v1))] [] := by
  intro σ v1 g1 h hGσ hYσ hE hth H locs ls hH hl hc
  have B := K.1
  have hl9 := K.2.2.2.2.2.2
  unfold w_X12_told_0 at h
  refine lv_iload_n B.1 B.2.1 dX12_told_0 rfl (lv_at hl 1 rfl) ?_
  rcases Classical.em (v1 = 0) with e9 | e9
  · rw [if_pos e9] at h
    refine lv_tableIn (off := 75) (tgt := 76) B.1 B.2.1 dX12_told_1 (by rw [i32_toInt g1, e9]; decide) (by rw [i32_toInt g1, e9]; decide) (by rw [i32_toInt g1, e9]; rfl) (by decide) ?_
    exact a_X12_told_76 K hQ hX hTh _ h hGσ hYσ hE hth _ _ _ hH (lv_sub (l' := [(0, .ref th)]) hl [0] rfl) hc
  rw [if_neg e9] at h
  have k1 := e9
  rcases Classical.em (v1 = 5) with e9 | e9
  · rw [if_pos e9] at h
    refine lv_tableIn (off := 83) (tgt := 84) B.1 B.2.1 dX12_told_1 (by rw [i32_toInt g1, e9]; decide) (by rw [i32_toInt g1, e9]; decide) (by rw [i32_toInt g1, e9]; rfl) (by decide) ?_
    exact a_X12_told_84 K hQ hX hTh _ h hGσ hYσ hE hth _ _ _ hH (lv_sub (l' := [(0, .ref th)]) hl [0] rfl) hc
  rw [if_neg e9] at h
  have k2 := e9
  rcases Classical.em (v1 = 6) with e9 | e9
  · rw [if_pos e9] at h
    refine lv_tableIn (off := 94) (tgt := 95) B.1 B.2.1 dX12_told_1 (by rw [i32_toInt g1, e9]; decide) (by rw [i32_toInt g1, e9]; decide) (by rw [i32_toInt g1, e9]; rfl) (by decide) ?_
    exact a_X12_told_95 K hQ hX hTh _ h hGσ hYσ hE hth _ _ _ hH (lv_sub (l' := [(0, .ref th)]) hl [0] rfl) hc
  rw [if_neg e9] at h
  have k3 := e9
  rcases Classical.em (v1 = 9) with e9 | e9
  · rw [if_pos e9] at h
    refine lv_tableIn (off := 105) (tgt := 106) B.1 B.2.1 dX12_told_1 (by rw [i32_toInt g1, e9]; decide) (by rw [i32_toInt g1, e9]; decide) (by rw [i32_toInt g1, e9]; rfl) (by decide) ?_
    exact a_X12_told_106 K hQ hX hTh _ h hGσ hYσ hE hth _ _ _ hH (lv_sub (l' := [(0, .ref th)]) hl [0] rfl) hc
  rw [if_neg e9] at h
  have k4 := e9
  rcases Classical.em (v1 = 12) with e9 | e9
  · rw [if_pos e9] at h
    refine lv_tableIn (off := 124) (tgt := 125) B.1 B.2.1 dX12_told_1 (by rw [i32_toInt g1, e9]; decide) (by rw [i32_toInt g1, e9]; decide) (by rw [i32_toInt g1, e9]; rfl) (by decide) ?_
    exact a_X12_told_125 K hQ hX hTh _ h hGσ hYσ hE hth _ _ _ hH (lv_sub (l' := [(0, .ref th)]) hl [0] rfl) hc
  rw [if_neg e9] at h
  have k5 := e9
  rcases Classical.em (v1 = 13) with e9 | e9
  · rw [if_pos e9] at h
    refine lv_tableIn (off := 132) (tgt := 133) B.1 B.2.1 dX12_told_1 (by rw [i32_toInt g1, e9]; decide) (by rw [i32_toInt g1, e9]; decide) (by rw [i32_toInt g1, e9]; rfl) (by decide) ?_
    exact a_X12_told_133 K hQ hX hTh _ h hGσ hYσ hE hth _ _ _ hH (lv_sub (l' := [(0, .ref th)]) hl [0] rfl) hc
  rw [if_neg e9] at h
  have k6 := e9
  rcases Classical.em (v1 = 14) with e9 | e9
  · rw [if_pos e9] at h
    refine lv_tableIn (off := 140) (tgt := 141) B.1 B.2.1 dX12_told_1 (by rw [i32_toInt g1, e9]; decide) (by rw [i32_toInt g1, e9]; decide) (by rw [i32_toInt g1, e9]; rfl) (by decide) ?_
    exact a_X12_told_141 K hQ hX hTh _ h hGσ hYσ hE hth _ _ _ hH (lv_sub (l' := [(0, .ref th)]) hl [0] rfl) hc
  rw [if_neg e9] at h
  have k7 := e9
  rcases (show (v1 < 0 ∨ 14 < v1) ∨ v1 = 1 ∨ v1 = 2 ∨ v1 = 3 ∨ v1 = 4 ∨ v1 = 7 ∨ v1 = 8 ∨ v1 = 10 ∨ v1 = 11 by omega) with e9 | e9 | e9 | e9 | e9 | e9 | e9 | e9 | e9
  · refine lv_tableOut (tgt := 146) B.1 B.2.1 dX12_told_1 (by rw [i32_toInt g1]; exact e9) (by decide) ?_
    exact a_X12_told_146 K hQ hX hTh _ _ g1 h hGσ hYσ hE hth _ _ _ hH (lv_sub (l' := [(0, .ref th), (1, .int (i32 v1))]) hl [0, 1] rfl) hc
  · refine lv_tableIn (off := 145) (tgt := 146) B.1 B.2.1 dX12_told_1 (by rw [i32_toInt g1, e9]; decide) (by rw [i32_toInt g1, e9]; decide) (by rw [i32_toInt g1, e9]; rfl) (by decide) ?_
    exact a_X12_told_146 K hQ hX hTh _ _ g1 h hGσ hYσ hE hth _ _ _ hH (lv_sub (l' := [(0, .ref th), (1, .int (i32 v1))]) hl [0, 1] rfl) hc
  · refine lv_tableIn (off := 145) (tgt := 146) B.1 B.2.1 dX12_told_1 (by rw [i32_toInt g1, e9]; decide) (by rw [i32_toInt g1, e9]; decide) (by rw [i32_toInt g1, e9]; rfl) (by decide) ?_
    exact a_X12_told_146 K hQ hX hTh _ _ g1 h hGσ hYσ hE hth _ _ _ hH (lv_sub (l' := [(0, .ref th), (1, .int (i32 v1))]) hl [0, 1] rfl) hc
  · refine lv_tableIn (off := 145) (tgt := 146) B.1 B.2.1 dX12_told_1 (by rw [i32_toInt g1, e9]; decide) (by rw [i32_toInt g1, e9]; decide) (by rw [i32_toInt g1, e9]; rfl) (by decide) ?_
    exact a_X12_told_146 K hQ hX hTh _ _ g1 h hGσ hYσ hE hth _ _ _ hH (lv_sub (l' := [(0, .ref th), (1, .int (i32 v1))]) hl [0, 1] rfl) hc
  · refine lv_tableIn (off := 145) (tgt := 146) B.1 B.2.1 dX12_told_1 (by rw [i32_toInt g1, e9]; decide) (by rw [i32_toInt g1, e9]; decide) (by rw [i32_toInt g1, e9]; rfl) (by decide) ?_
    exact a_X12_told_146 K hQ hX hTh _ _ g1 h hGσ hYσ hE hth _ _ _ hH (lv_sub (l' := [(0, .ref th), (1, .int (i32 v1))]) hl [0, 1] rfl) hc
  · refine lv_tableIn (off := 145) (tgt := 146) B.1 B.2.1 dX12_told_1 (by rw [i32_toInt g1, e9]; decide) (by rw [i32_toInt g1, e9]; decide) (by rw [i32_toInt g1, e9]; rfl) (by decide) ?_
    exact a_X12_told_146 K hQ hX hTh _ _ g1 h hGσ hYσ hE hth _ _ _ hH (lv_sub (l' := [(0, .ref th), (1, .int (i32 v1))]) hl [0, 1] rfl) hc
  · refine lv_tableIn (off := 145) (tgt := 146) B.1 B.2.1 dX12_told_1 (by rw [i32_toInt g1, e9]; decide) (by rw [i32_toInt g1, e9]; decide) (by rw [i32_toInt g1, e9]; rfl) (by decide) ?_
    exact a_X12_told_146 K hQ hX hTh _ _ g1 h hGσ hYσ hE hth _ _ _ hH (lv_sub (l' := [(0, .ref th), (1, .int (i32 v1))]) hl [0, 1] rfl) hc
  · refine lv_tableIn (off := 145) (tgt := 146) B.1 B.2.1 dX12_told_1 (by rw [i32_toInt g1, e9]; decide) (by rw [i32_toInt g1, e9]; decide) (by rw [i32_toInt g1, e9]; rfl) (by decide) ?_
    exact a_X12_told_146 K hQ hX hTh _ _ g1 h hGσ hYσ hE hth _ _ _ hH (lv_sub (l' := [(0, .ref th), (1, .int (i32 v1))]) hl [0, 1] rfl) hc
  · refine lv_tableIn (off := 145) (tgt := 146) B.1 B.2.1 dX12_told_1 (by rw [i32_toInt g1, e9]; decide) (by rw [i32_toInt g1, e9]; decide) (by rw [i32_toInt g1, e9]; rfl) (by decide) ?_
    exact a_X12_told_146 K hQ hX hTh _ _ g1 h hGσ hYσ hE hth _ _ _ hH (lv_sub (l' := [(0, .ref th), (1, .int (i32 v1))]) hl [0, 1] rfl) hc
theorem ok_X12_told (hl0 : l.stackTraces = false) (hT : TyC cA tys) {Q : Sg → Int → Prop} {X : Sg → String → Prop} (σ : Sg) (th : Nat) (v1 : Int) (g1 : rng v1) (hth : kO σ th 12) (hG : RG σ) (hY : TY σ) (h : wp_X12_told th v1 σ Q X) : Ok l D cA tys A yX12_told (.code yX12_told cX12_told 2 (some .int)) 1 23 [.ref th, .int (i32 v1)] σ (QcI σ Q) (QxC σ X) := by
  unfold wp_X12_told at h
  exact oc_I hl0 (by decide) (by exact Nat.le_of_ble_eq_true rfl) hT (fun p e R s m args below meth c K hQ hX hTh H locs ls hH hl hc => a_X12_told_0 K hQ hX hTh σ v1 g1 h hG hY (Ext.rfl' σ) hth H locs ls hH (lv_sub (l' := [(0, .ref th), (1, .int (i32 v1))]) hl [0, 1] rfl) hc)
theorem dX8_setOfRow_0 : decode cX8_setOfRow 0 = .ok (.aload_n 0, 1) := by decide +kernel
theorem dX8_setOfRow_1 : decode cX8_setOfRow 1 = .ok (.invokevirtual 77, 3) := by decide +kernel
theorem dX8_setOfRow_4 : decode cX8_setOfRow 4 = .ok (.istore_n 3, 1) := by decide +kernel
theorem dX8_setOfRow_5 : decode cX8_setOfRow 5 = .ok (.aload_n 0, 1) := by decide +kernel
theorem dX8_setOfRow_6 : decode cX8_setOfRow 6 = .ok (.getfield 11, 3) := by decide +kernel
theorem dX8_setOfRow_9 : decode cX8_setOfRow 9 = .ok (.iload_n 3, 1) := by decide +kernel
theorem dX8_setOfRow_10 : decode cX8_setOfRow 10 = .ok (.iconst 4, 1) := by decide +kernel
theorem dX8_setOfRow_11 : decode cX8_setOfRow 11 = .ok (.imul, 1) := by decide +kernel
theorem dX8_setOfRow_12 : decode cX8_setOfRow 12 = .ok (.iload_n 1, 1) := by decide +kernel
theorem dX8_setOfRow_13 : decode cX8_setOfRow 13 = .ok (.iadd, 1) := by decide +kernel
theorem dX8_setOfRow_14 : decode cX8_setOfRow 14 = .ok (.lconst 1, 1) := by decide +kernel
theorem dX8_setOfRow_15 : decode cX8_setOfRow 15 = .ok (.iload_n 2, 1) := by decide +kernel
theorem dX8_setOfRow_16 : decode cX8_setOfRow 16 = .ok (.lshl, 1) := by decide +kernel
theorem dX8_setOfRow_17 : decode cX8_setOfRow 17 = .ok (.lastore, 1) := by decide +kernel
theorem dX8_setOfRow_18 : decode cX8_setOfRow 18 = .ok (.iload_n 3, 1) := by decide +kernel
theorem dX8_setOfRow_19 : decode cX8_setOfRow 19 = .ok (.ireturn, 1) := by decide +kernel
set_option maxRecDepth 20000 in
theorem a_X8_setOfRow_0 {Q : Sg → Int → Prop} {X : Sg → String → Prop} {th : Nat} (K : MD l R p s m args c cX8_setOfRow 4 RX8 D cA tys A n0 s0 7 112 []) (hQ : CQI p l e R s m args below meth c cX8_setOfRow D cA A n0 s0 QM σi Q) (hX : CX p l e R s m args below meth c 4 D cA A n0 s0 QM σi X) (hTh : CT p l e R s m args below meth c cX8_setOfRow 4 D cA A n0 s0 QM σi RX8 X) : ∀ (σ : Sg) (v1 : Int) (v2 : Int) (g1 : rng v1) (g2 : rng v2), w_X8_setOfRow_0 th Q X σ v1 v2 → RG σ → TY σ → Ext σi σ → kO σ th 8 → JJ p l e R s m args below meth c 4 D cA A n0 s0 QM σ 0 [(0, .ref th), (1, .int (i32 v1)), (2, .int (i32 v2))] [] := by
  intro σ v1 v2 g1 g2 h hGσ hYσ hE hth H locs ls hH hl hc
  have B := K.1
  have hl9 := K.2.2.2.2.2.2
  unfold w_X8_setOfRow_0 at h
  refine lv_aload_n B.1 B.2.1 dX8_setOfRow_0 rfl (lv_at hl 0 rfl) ?_
  refine W.eq (g2 := F0 m 1 ls [.ref th]) (rfl) ?_
  refine c_V B hH hl hc K.2.2.1 (C := RX8) (T := TX8) (N := 3) (ci := 8) (As := []) (ok_X8_newSet hl9 K.2.1 σ th hth hGσ hYσ h) wc_X8_77 0 hd_X8_newSet ⟨Nat.le_trans (Nat.le_of_ble_eq_true rfl) K.2.2.2.1, Nat.le_trans (Nat.le_of_ble_eq_true rfl) K.2.2.2.2.1⟩ hth.1 hth.2 (by decide) rfl rfl (rest := []) rfl (Nat.le_of_ble_eq_true rfl) dX8_setOfRow_1 (fun σ9 w hq => ?_) (fun σ9 E9 hx9 => hX σ9 E9 _ _ _ (tb_out K.2.2.2.2.2.1 rfl) hx9.1 hx9.2.1 hx9.2.2.1 (hE.trans hx9.2.2.2))
  obtain ⟨r10, rfl, gr10, h, hGσ9, hYσ9, xσ9⟩ := hq
  have h := h xσ9
  intro H locs ls hH hl hc
  refine W.eq (g2 := F0 m 4 ls [.int (i32 r10)]) (rfl) ?_
  try dsimp only at h
  refine lv_istore_n (lv' := [(3, .int (i32 r10)), (0, .ref th), (1, .int (i32 v1)), (2, .int (i32 v2))]) B.1 B.2.1 dX8_setOfRow_4 rfl hl (by decide) rfl (fun ls hl => ?_)
  refine lv_aload_n B.1 B.2.1 dX8_setOfRow_5 rfl (lv_at hl 1 rfl) ?_
  refine f_getp B hH (hth.up xσ9) (by decide) rfl wu_X8 2 (by decide) wf_X8_11 rfl rfl dX8_setOfRow_6 ?_
  refine lv_iload_n B.1 B.2.1 dX8_setOfRow_9 rfl (lv_at hl 0 rfl) ?_
  refine lv_iconst (v := i32 4) B.1 B.2.1 dX8_setOfRow_10 (by decide) ?_
  obtain ⟨q1, h⟩ := h
  refine lv_imul B.1 B.2.1 dX8_setOfRow_11 ?_
  rw [i32_mul]
  refine lv_iload_n B.1 B.2.1 dX8_setOfRow_12 rfl (lv_at hl 2 rfl) ?_
  obtain ⟨q2, h⟩ := h
  refine lv_iadd B.1 B.2.1 dX8_setOfRow_13 ?_
  rw [i32_add]
  refine lv_lconst (v := 1) B.1 B.2.1 dX8_setOfRow_14 (by decide) ?_
  refine lv_iload_n B.1 B.2.1 dX8_setOfRow_15 rfl (lv_at hl 3 rfl) ?_
  refine lv_lshl B.1 B.2.1 dX8_setOfRow_16 rfl ?_
  obtain ⟨a11, ea11, h⟩ := h
  have ka11 : kO σ9 a11 101 := (hYσ9.get (hth.up xσ9) (by decide)) a11 ea11
  have h := h ka11
  obtain ⟨q3, h⟩ := h
  obtain ⟨σ12, eσ12⟩ : ∃ z, z = pJ σ9 a11 ((r10 * 4) + v1).toNat (1 <<< ((i32 v2).toInt64 &&& 63)) := ⟨_, rfl⟩
  have h := h σ12 eσ12
  refine W.eq (g2 := F0 m 17 ls [.long (1 <<< ((i32 v2).toInt64 &&& 63)), .int (i32 ((r10 * 4) + v1)), .ref a11]) (by rw [ea11]; rfl) ?_
  refine y_last B K.2.1 hH ka11 q3 dX8_setOfRow_17 (hYσ9.2 _) (fun H locs hH => ?_)
  have hH : Hd D cA A s (pJ σ9 a11 ((r10 * 4) + v1).toNat (1 <<< ((i32 v2).toInt64 &&& 63))) H locs := hH
  rw [← eσ12] at hH
  have hGσ12 : RG σ12 := by rw [eσ12]; exact hGσ9.pJ
  have hYσ12 : TY σ12 := by rw [eσ12]; exact hYσ9.pJ
  have xσ12 : Ext σ9 σ12 := by rw [eσ12]; exact Ext.pJ
  have hc : CB n0 s0 σ12 := by rw [eσ12]; exact hc
  rw [show gc σ9 = gc σ12 by rw [eσ12]; try rfl, show gs σ9 = gs σ12 by rw [eσ12]; try rfl]
  refine lv_iload_n B.1 B.2.1 dX8_setOfRow_18 rfl (lv_at hl 0 rfl) ?_
  exact hQ _ _ _ _ _ _ gr10 dX8_setOfRow_19 hH hc h hGσ12 hYσ12 ((hE.trans xσ9).trans xσ12)
theorem ok_X8_setOfRow (hl0 : l.stackTraces = false) (hT : TyC cA tys) {Q : Sg → Int → Prop} {X : Sg → String → Prop} (σ : Sg) (th : Nat) (v1 : Int) (v2 : Int) (g1 : rng v1) (g2 : rng v2) (hth : kO σ th 8) (hG : RG σ) (hY : TY σ) (h : wp_X8_setOfRow th v1 v2 σ Q X) : Ok l D cA tys A yX8_setOfRow (.code yX8_setOfRow cX8_setOfRow 4 (some .int)) 7 112 [.ref th, .int (i32 v1), .int (i32 v2)] σ (QcI σ Q) (QxC σ X) := by
  unfold wp_X8_setOfRow at h
  exact oc_I hl0 (by decide) (by exact Nat.le_of_ble_eq_true rfl) hT (fun p e R s m args below meth c K hQ hX hTh H locs ls hH hl hc => a_X8_setOfRow_0 K hQ hX hTh σ v1 v2 g1 g2 h hG hY (Ext.rfl' σ) hth H locs ls hH (lv_sub (l' := [(0, .ref th), (1, .int (i32 v1)), (2, .int (i32 v2))]) hl [0, 1, 2] rfl) hc)
theorem dX9_isFor_0 : decode cX9_isFor 0 = .ok (.aload_n 0, 1) := by decide +kernel
theorem dX9_isFor_1 : decode cX9_isFor 1 = .ok (.getfield 20, 3) := by decide +kernel
theorem dX9_isFor_4 : decode cX9_isFor 4 = .ok (.aload_n 1, 1) := by decide +kernel
theorem dX9_isFor_5 : decode cX9_isFor 5 = .ok (.getfield 460, 3) := by decide +kernel
theorem dX9_isFor_8 : decode cX9_isFor 8 = .ok (.aaload, 1) := by decide +kernel
theorem dX9_isFor_9 : decode cX9_isFor 9 = .ok (.astore 4, 2) := by decide +kernel
theorem dX9_isFor_11 : decode cX9_isFor 11 = .ok (.aload_n 0, 1) := by decide +kernel
theorem dX9_isFor_12 : decode cX9_isFor 12 = .ok (.getfield 100, 3) := by decide +kernel
theorem dX9_isFor_15 : decode cX9_isFor 15 = .ok (.getfield 160, 3) := by decide +kernel
theorem dX9_isFor_18 : decode cX9_isFor 18 = .ok (.aload 4, 2) := by decide +kernel
theorem dX9_isFor_20 : decode cX9_isFor 20 = .ok (.getfield 181, 3) := by decide +kernel
theorem dX9_isFor_23 : decode cX9_isFor 23 = .ok (.aaload, 1) := by decide +kernel
theorem dX9_isFor_24 : decode cX9_isFor 24 = .ok (.astore 5, 2) := by decide +kernel
theorem dX9_isFor_26 : decode cX9_isFor 26 = .ok (.aload 5, 2) := by decide +kernel
theorem dX9_isFor_28 : decode cX9_isFor 28 = .ok (.getfield 164, 3) := by decide +kernel
theorem dX9_isFor_31 : decode cX9_isFor 31 = .ok (.invokestatic 196, 3) := by decide +kernel
theorem dX9_isFor_34 : decode cX9_isFor 34 = .ok (.ifCond .eq 49, 3) := by decide +kernel
theorem dX9_isFor_37 : decode cX9_isFor 37 = .ok (.aload_n 3, 1) := by decide +kernel
theorem dX9_isFor_38 : decode cX9_isFor 38 = .ok (.getfield 463, 3) := by decide +kernel
theorem dX9_isFor_41 : decode cX9_isFor 41 = .ok (.aload_n 1, 1) := by decide +kernel
theorem dX9_isFor_42 : decode cX9_isFor 42 = .ok (.getfield 329, 3) := by decide +kernel
theorem dX9_isFor_45 : decode cX9_isFor 45 = .ok (.ifCond .ne 11, 3) := by decide +kernel
theorem dX9_isFor_48 : decode cX9_isFor 48 = .ok (.aload 5, 2) := by decide +kernel
theorem dX9_isFor_50 : decode cX9_isFor 50 = .ok (.getfield 467, 3) := by decide +kernel
theorem dX9_isFor_53 : decode cX9_isFor 53 = .ok (.goto 8, 3) := by decide +kernel
theorem dX9_isFor_56 : decode cX9_isFor 56 = .ok (.aload 5, 2) := by decide +kernel
theorem dX9_isFor_58 : decode cX9_isFor 58 = .ok (.getfield 470, 3) := by decide +kernel
theorem dX9_isFor_61 : decode cX9_isFor 61 = .ok (.laload, 1) := by decide +kernel
theorem dX9_isFor_62 : decode cX9_isFor 62 = .ok (.aload_n 0, 1) := by decide +kernel
theorem dX9_isFor_63 : decode cX9_isFor 63 = .ok (.getfield 157, 3) := by decide +kernel
theorem dX9_isFor_66 : decode cX9_isFor 66 = .ok (.invokestatic 242, 3) := by decide +kernel
theorem dX9_isFor_69 : decode cX9_isFor 69 = .ok (.aload 4, 2) := by decide +kernel
theorem dX9_isFor_71 : decode cX9_isFor 71 = .ok (.getfield 202, 3) := by decide +kernel
theorem dX9_isFor_74 : decode cX9_isFor 74 = .ok (.if_icmp .ne 7, 3) := by decide +kernel
theorem dX9_isFor_77 : decode cX9_isFor 77 = .ok (.iconst 1, 1) := by decide +kernel
theorem dX9_isFor_78 : decode cX9_isFor 78 = .ok (.goto 4, 3) := by decide +kernel
theorem dX9_isFor_81 : decode cX9_isFor 81 = .ok (.iconst 0, 1) := by decide +kernel
theorem dX9_isFor_82 : decode cX9_isFor 82 = .ok (.ireturn, 1) := by decide +kernel
theorem dX9_isFor_83 : decode cX9_isFor 83 = .ok (.aload_n 0, 1) := by decide +kernel
theorem dX9_isFor_84 : decode cX9_isFor 84 = .ok (.getfield 100, 3) := by decide +kernel
theorem dX9_isFor_87 : decode cX9_isFor 87 = .ok (.getfield 160, 3) := by decide +kernel
theorem dX9_isFor_90 : decode cX9_isFor 90 = .ok (.aload_n 2, 1) := by decide +kernel
theorem dX9_isFor_91 : decode cX9_isFor 91 = .ok (.getfield 181, 3) := by decide +kernel
theorem dX9_isFor_94 : decode cX9_isFor 94 = .ok (.aaload, 1) := by decide +kernel
theorem dX9_isFor_95 : decode cX9_isFor 95 = .ok (.getfield 164, 3) := by decide +kernel
theorem dX9_isFor_98 : decode cX9_isFor 98 = .ok (.invokestatic 169, 3) := by decide +kernel
theorem dX9_isFor_101 : decode cX9_isFor 101 = .ok (.ifCond .eq 18, 3) := by decide +kernel
theorem dX9_isFor_104 : decode cX9_isFor 104 = .ok (.aload 5, 2) := by decide +kernel
theorem dX9_isFor_106 : decode cX9_isFor 106 = .ok (.getfield 164, 3) := by decide +kernel
theorem dX9_isFor_109 : decode cX9_isFor 109 = .ok (.invokestatic 169, 3) := by decide +kernel
theorem dX9_isFor_112 : decode cX9_isFor 112 = .ok (.ifCond .ne 7, 3) := by decide +kernel
theorem dX9_isFor_115 : decode cX9_isFor 115 = .ok (.iconst 1, 1) := by decide +kernel
theorem dX9_isFor_116 : decode cX9_isFor 116 = .ok (.goto 4, 3) := by decide +kernel
theorem dX9_isFor_119 : decode cX9_isFor 119 = .ok (.iconst 0, 1) := by decide +kernel
theorem dX9_isFor_120 : decode cX9_isFor 120 = .ok (.istore 6, 2) := by decide +kernel
theorem dX9_isFor_122 : decode cX9_isFor 122 = .ok (.iload 6, 2) := by decide +kernel
theorem dX9_isFor_124 : decode cX9_isFor 124 = .ok (.ifCond .eq 20, 3) := by decide +kernel
theorem dX9_isFor_127 : decode cX9_isFor 127 = .ok (.aload_n 2, 1) := by decide +kernel
theorem dX9_isFor_128 : decode cX9_isFor 128 = .ok (.getfield 457, 3) := by decide +kernel
theorem dX9_isFor_131 : decode cX9_isFor 131 = .ok (.aload_n 0, 1) := by decide +kernel
theorem dX9_isFor_132 : decode cX9_isFor 132 = .ok (.getfield 157, 3) := by decide +kernel
theorem dX9_isFor_135 : decode cX9_isFor 135 = .ok (.irem, 1) := by decide +kernel
theorem dX9_isFor_136 : decode cX9_isFor 136 = .ok (.aload 4, 2) := by decide +kernel
theorem dX9_isFor_138 : decode cX9_isFor 138 = .ok (.getfield 202, 3) := by decide +kernel
theorem dX9_isFor_141 : decode cX9_isFor 141 = .ok (.if_icmp .ne 7, 3) := by decide +kernel
theorem dX9_isFor_144 : decode cX9_isFor 144 = .ok (.iconst 1, 1) := by decide +kernel
theorem dX9_isFor_145 : decode cX9_isFor 145 = .ok (.goto 4, 3) := by decide +kernel
theorem dX9_isFor_148 : decode cX9_isFor 148 = .ok (.iconst 0, 1) := by decide +kernel
theorem dX9_isFor_149 : decode cX9_isFor 149 = .ok (.ireturn, 1) := by decide +kernel
set_option maxRecDepth 20000 in
theorem a_X9_isFor_149 {Q : Sg → Int → Prop} {X : Sg → String → Prop} {th : Nat} (K : MD l R p s m args c cX9_isFor 7 RX9 D cA tys A n0 s0 1 23 []) (hQ : CQZ p l e R s m args below meth c cX9_isFor D cA A n0 s0 QM σi Q) (hX : CX p l e R s m args below meth c 7 D cA A n0 s0 QM σi X) (hTh : CT p l e R s m args below meth c cX9_isFor 7 D cA A n0 s0 QM σi RX9 X) : ∀ (σ : Sg) (u0 : Int) (gu0 : rng u0), w_X9_isFor_149 th Q X σ u0 → RG σ → TY σ → Ext σi σ → kO σ th 9 → JJ p l e R s m args below meth c 7 D cA A n0 s0 QM σ 149 [(0, .ref th)] [.int (i32 u0)] := by
  intro σ u0 gu0 h hGσ hYσ hE hth H locs ls hH hl hc
  have B := K.1
  have hl9 := K.2.2.2.2.2.2
  unfold w_X9_isFor_149 at h
  obtain ⟨qz, h⟩ := h
  exact hQ _ _ _ _ _ _ gu0 qz dX9_isFor_149 hH hc h hGσ hYσ hE
set_option maxRecDepth 20000 in
theorem a_X9_isFor_144 {Q : Sg → Int → Prop} {X : Sg → String → Prop} {th : Nat} (K : MD l R p s m args c cX9_isFor 7 RX9 D cA tys A n0 s0 1 23 []) (hQ : CQZ p l e R s m args below meth c cX9_isFor D cA A n0 s0 QM σi Q) (hX : CX p l e R s m args below meth c 7 D cA A n0 s0 QM σi X) (hTh : CT p l e R s m args below meth c cX9_isFor 7 D cA A n0 s0 QM σi RX9 X) : ∀ (σ : Sg), w_X9_isFor_144 th Q X σ → RG σ → TY σ → Ext σi σ → kO σ th 9 → JJ p l e R s m args below meth c 7 D cA A n0 s0 QM σ 144 [(0, .ref th)] [] := by
  intro σ h hGσ hYσ hE hth H locs ls hH hl hc
  have B := K.1
  have hl9 := K.2.2.2.2.2.2
  unfold w_X9_isFor_144 at h
  refine lv_iconst (v := i32 1) B.1 B.2.1 dX9_isFor_144 (by decide) ?_
  refine lv_goto (tgt := 149) B.1 B.2.1 dX9_isFor_145 (by decide) ?_
  exact a_X9_isFor_149 K hQ hX hTh _ _ (by unfold rng; omega) h hGσ hYσ hE hth _ _ _ hH (lv_sub (l' := [(0, .ref th)]) hl [0] rfl) hc
set_option maxRecDepth 20000 in
theorem a_X9_isFor_148 {Q : Sg → Int → Prop} {X : Sg → String → Prop} {th : Nat} (K : MD l R p s m args c cX9_isFor 7 RX9 D cA tys A n0 s0 1 23 []) (hQ : CQZ p l e R s m args below meth c cX9_isFor D cA A n0 s0 QM σi Q) (hX : CX p l e R s m args below meth c 7 D cA A n0 s0 QM σi X) (hTh : CT p l e R s m args below meth c cX9_isFor 7 D cA A n0 s0 QM σi RX9 X) : ∀ (σ : Sg), w_X9_isFor_148 th Q X σ → RG σ → TY σ → Ext σi σ → kO σ th 9 → JJ p l e R s m args below meth c 7 D cA A n0 s0 QM σ 148 [(0, .ref th)] [] := by
  intro σ h hGσ hYσ hE hth H locs ls hH hl hc
  have B := K.1
  have hl9 := K.2.2.2.2.2.2
  unfold w_X9_isFor_148 at h
  refine lv_iconst (v := i32 0) B.1 B.2.1 dX9_isFor_148 (by decide) ?_
  exact a_X9_isFor_149 K hQ hX hTh _ _ (by unfold rng; omega) h hGσ hYσ hE hth _ _ _ hH (lv_sub (l' := [(0, .ref th)]) hl [0] rfl) hc
set_option maxRecDepth 20000 in
theorem a_X9_isFor_127 {Q : Sg → Int → Prop} {X : Sg → String → Prop} {th : Nat} (K : MD l R p s m args c cX9_isFor 7 RX9 D cA tys A n0 s0 1 23 []) (hQ : CQZ p l e R s m args below meth c cX9_isFor D cA A n0 s0 QM σi Q) (hX : CX p l e R s m args below meth c 7 D cA A n0 s0 QM σi X) (hTh : CT p l e R s m args below meth c cX9_isFor 7 D cA A n0 s0 QM σi RX9 X) : ∀ (σ : Sg) (v2 : Option Nat) (v4 : Option Nat) (g2 : tyV σ 10 v2) (g4 : tyV σ 10 v4), w_X9_isFor_127 th Q X σ v2 v4 → RG σ → TY σ → Ext σi σ → kO σ th 9 → JJ p l e R s m args below meth c 7 D cA A n0 s0 QM σ 127 [(0, .ref th), (2, va_rf v2), (4, va_rf v4)] [] := by
  intro σ v2 v4 g2 g4 h hGσ hYσ hE hth H locs ls hH hl hc
  have B := K.1
  have hl9 := K.2.2.2.2.2.2
  unfold w_X9_isFor_127 at h
  refine lv_aload_nQ B.1 B.2.1 dX9_isFor_127 rfl (lv_at hl 1 rfl) ?_
  obtain ⟨a55, ea55, h⟩ := h
  have ka55 : kO σ a55 10 := g2 a55 ea55
  have h := h ka55
  refine W.eq (g2 := F0 m 128 ls [.ref a55]) (by rw [ea55]; rfl) ?_
  refine f_geti B hH ka55 (by decide) rfl wu_X10 9 (by decide) wf_X9_457 rfl rfl dX9_isFor_128 ?_
  refine lv_aload_n B.1 B.2.1 dX9_isFor_131 rfl (lv_at hl 0 rfl) ?_
  refine f_geti B hH hth (by decide) rfl wu_X9 12 (by decide) wf_X9_157 rfl rfl dX9_isFor_132 ?_
  obtain ⟨q1, h⟩ := h
  refine lv_irem B.1 B.2.1 dX9_isFor_135 (i32_ne0 (hGσ _ _) q1) ?_
  refine W.eq (g2 := F0 m 136 ls [.int (i32 (remI (gI σ a55 9) (gI σ th 12)))]) (by unfold remI; rw [i32_self]) ?_
  refine lv_aloadQ B.1 B.2.1 dX9_isFor_136 (lv_at hl 2 rfl) ?_
  obtain ⟨a56, ea56, h⟩ := h
  have ka56 : kO σ a56 10 := g4 a56 ea56
  have h := h ka56
  refine W.eq (g2 := F0 m 138 ls [.ref a56, .int (i32 (remI (gI σ a55 9) (gI σ th 12)))]) (by rw [ea56]; rfl) ?_
  refine f_geti B hH ka56 (by decide) rfl wu_X10 1 (by decide) wf_X9_202 rfl rfl dX9_isFor_138 ?_
  refine lv_icmp_ne (tgt := 148) B.1 B.2.1 dX9_isFor_141 (by decide) (fun h9 => ?_) (fun h9 => ?_)
  · rw [if_pos (fun q => h9 ((i32_eq (rng_remI _ _) (hGσ _ _)).mpr q))] at h
    exact a_X9_isFor_148 K hQ hX hTh _ h hGσ hYσ hE hth _ _ _ hH (lv_sub (l' := [(0, .ref th)]) hl [0] rfl) hc
  · rw [if_neg (fun q => q ((i32_eq (rng_remI _ _) (hGσ _ _)).mp h9))] at h
    exact a_X9_isFor_144 K hQ hX hTh _ h hGσ hYσ hE hth _ _ _ hH (lv_sub (l' := [(0, .ref th)]) hl [0] rfl) hc
set_option maxRecDepth 20000 in
theorem a_X9_isFor_120 {Q : Sg → Int → Prop} {X : Sg → String → Prop} {th : Nat} (K : MD l R p s m args c cX9_isFor 7 RX9 D cA tys A n0 s0 1 23 []) (hQ : CQZ p l e R s m args below meth c cX9_isFor D cA A n0 s0 QM σi Q) (hX : CX p l e R s m args below meth c 7 D cA A n0 s0 QM σi X) (hTh : CT p l e R s m args below meth c cX9_isFor 7 D cA A n0 s0 QM σi RX9 X) : ∀ (σ : Sg) (v2 : Option Nat) (v4 : Option Nat) (u0 : Int) (g2 : tyV σ 10 v2) (g4 : tyV σ 10 v4) (gu0 : rng u0), w_X9_isFor_120 th Q X σ v2 v4 u0 → RG σ → TY σ → Ext σi σ → kO σ th 9 → JJ p l e R s m args below meth c 7 D cA A n0 s0 QM σ 120 [(0, .ref th), (2, va_rf v2), (4, va_rf v4)] [.int (i32 u0)] := by
  intro σ v2 v4 u0 g2 g4 gu0 h hGσ hYσ hE hth H locs ls hH hl hc
  have B := K.1
  have hl9 := K.2.2.2.2.2.2
  unfold w_X9_isFor_120 at h
  refine lv_istore (lv' := [(6, .int (i32 u0)), (0, .ref th), (2, va_rf v2), (4, va_rf v4)]) B.1 B.2.1 dX9_isFor_120 hl (by decide) rfl (fun ls hl => ?_)
  refine lv_iload B.1 B.2.1 dX9_isFor_122 (lv_at hl 0 rfl) ?_
  refine lv_if_eq (tgt := 144) B.1 B.2.1 dX9_isFor_124 (by decide) (fun h9 => ?_) (fun h9 => ?_)
  · rw [if_pos ((z_eq gu0).mp h9)] at h
    exact a_X9_isFor_144 K hQ hX hTh _ h hGσ hYσ hE hth _ _ _ hH (lv_sub (l' := [(0, .ref th)]) hl [1] rfl) hc
  · rw [if_neg (fun q => h9 ((z_eq gu0).mpr q))] at h
    exact a_X9_isFor_127 K hQ hX hTh _ _ _ g2 g4 h hGσ hYσ hE hth _ _ _ hH (lv_sub (l' := [(0, .ref th), (2, va_rf v2), (4, va_rf v4)]) hl [1, 2, 3] rfl) hc
set_option maxRecDepth 20000 in
theorem a_X9_isFor_119 {Q : Sg → Int → Prop} {X : Sg → String → Prop} {th : Nat} (K : MD l R p s m args c cX9_isFor 7 RX9 D cA tys A n0 s0 1 23 []) (hQ : CQZ p l e R s m args below meth c cX9_isFor D cA A n0 s0 QM σi Q) (hX : CX p l e R s m args below meth c 7 D cA A n0 s0 QM σi X) (hTh : CT p l e R s m args below meth c cX9_isFor 7 D cA A n0 s0 QM σi RX9 X) : ∀ (σ : Sg) (v2 : Option Nat) (v4 : Option Nat) (g2 : tyV σ 10 v2) (g4 : tyV σ 10 v4), w_X9_isFor_119 th Q X σ v2 v4 → RG σ → TY σ → Ext σi σ → kO σ th 9 → JJ p l e R s m args below meth c 7 D cA A n0 s0 QM σ 119 [(0, .ref th), (2, va_rf v2), (4, va_rf v4)] [] := by
  intro σ v2 v4 g2 g4 h hGσ hYσ hE hth H locs ls hH hl hc
  have B := K.1
  have hl9 := K.2.2.2.2.2.2
  unfold w_X9_isFor_119 at h
  refine lv_iconst (v := i32 0) B.1 B.2.1 dX9_isFor_119 (by decide) ?_
  exact a_X9_isFor_120 K hQ hX hTh _ _ _ _ g2 g4 (by unfold rng; omega) h hGσ hYσ hE hth _ _ _ hH (lv_sub (l' := [(0, .ref th), (2, va_rf v2), (4, va_rf v4)]) hl [0, 1, 2] rfl) hc
set_option maxRecDepth 20000 in
theorem a_X9_isFor_115 {Q : Sg → Int → Prop} {X : Sg → String → Prop} {th : Nat} (K : MD l R p s m args c cX9_isFor 7 RX9 D cA tys A n0 s0 1 23 []) (hQ : CQZ p l e R s m args below meth c cX9_isFor D cA A n0 s0 QM σi Q) (hX : CX p l e R s m args below meth c 7 D cA A n0 s0 QM σi X) (hTh : CT p l e R s m args below meth c cX9_isFor 7 D cA A n0 s0 QM σi RX9 X) : ∀ (σ : Sg) (v2 : Option Nat) (v4 : Option Nat) (g2 : tyV σ 10 v2) (g4 : tyV σ 10 v4), w_X9_isFor_115 th Q X σ v2 v4 → RG σ → TY σ → Ext σi σ → kO σ th 9 → JJ p l e R s m args below meth c 7 D cA A n0 s0 QM σ 115 [(0, .ref th), (2, va_rf v2), (4, va_rf v4)] [] := by
  intro σ v2 v4 g2 g4 h hGσ hYσ hE hth H locs ls hH hl hc
  have B := K.1
  have hl9 := K.2.2.2.2.2.2
  unfold w_X9_isFor_115 at h
  refine lv_iconst (v := i32 1) B.1 B.2.1 dX9_isFor_115 (by decide) ?_
  refine lv_goto (tgt := 120) B.1 B.2.1 dX9_isFor_116 (by decide) ?_
  exact a_X9_isFor_120 K hQ hX hTh _ _ _ _ g2 g4 (by unfold rng; omega) h hGσ hYσ hE hth _ _ _ hH (lv_sub (l' := [(0, .ref th), (2, va_rf v2), (4, va_rf v4)]) hl [0, 1, 2] rfl) hc
set_option maxRecDepth 20000 in
theorem a_X9_isFor_104 {Q : Sg → Int → Prop} {X : Sg → String → Prop} {th : Nat} (K : MD l R p s m args c cX9_isFor 7 RX9 D cA tys A n0 s0 1 23 []) (hQ : CQZ p l e R s m args below meth c cX9_isFor D cA A n0 s0 QM σi Q) (hX : CX p l e R s m args below meth c 7 D cA A n0 s0 QM σi X) (hTh : CT p l e R s m args below meth c cX9_isFor 7 D cA A n0 s0 QM σi RX9 X) : ∀ (σ : Sg) (v2 : Option Nat) (v4 : Option Nat) (v5 : Option Nat) (g2 : tyV σ 10 v2) (g4 : tyV σ 10 v4) (g5 : tyV σ 5 v5), w_X9_isFor_104 th Q X σ v2 v4 v5 → RG σ → TY σ → Ext σi σ → kO σ th 9 → JJ p l e R s m args below meth c 7 D cA A n0 s0 QM σ 104 [(0, .ref th), (2, va_rf v2), (4, va_rf v4), (5, va_rf v5)] [] := by
  intro σ v2 v4 v5 g2 g4 g5 h hGσ hYσ hE hth H locs ls hH hl hc
  have B := K.1
  have hl9 := K.2.2.2.2.2.2
  unfold w_X9_isFor_104 at h
  refine lv_aloadQ B.1 B.2.1 dX9_isFor_104 (lv_at hl 3 rfl) ?_
  obtain ⟨a57, ea57, h⟩ := h
  have ka57 : kO σ a57 5 := g5 a57 ea57
  have h := h ka57
  refine W.eq (g2 := F0 m 106 ls [.ref a57]) (by rw [ea57]; rfl) ?_
  refine f_geti B hH ka57 (by decide) rfl wu_X5 6 (by decide) wf_X9_164 rfl rfl dX9_isFor_106 ?_
  refine c_SN B hH hl hc K.2.2.1 (As := [.int (i32 (gI σ a57 6))]) (ok_X12_hasOneTask hl9 K.2.1 σ (gI σ a57 6) (hGσ _ _) hGσ hYσ (nx_X12_hasOneTask h)) (fun _ _ h9 => h9.1) (List.mem_of_getElem? (l := nmL) (i := 11) rfl) wq_X12_hasOneTask 1 hd_X12_hasOneTask ⟨Nat.le_trans (Nat.le_of_ble_eq_true rfl) K.2.2.2.1, Nat.le_trans (Nat.le_of_ble_eq_true rfl) K.2.2.2.2.1⟩ rfl (rest := []) rfl (Nat.le_of_ble_eq_true rfl) dX9_isFor_109 (fun σ58 w hq => ?_)
  obtain ⟨r59, rfl, ⟨gr59, gzr59⟩, h, hGσ58, hYσ58, xσ58⟩ := hq
  have h := h xσ58
  intro H locs ls hH hl hc
  refine W.eq (g2 := F0 m 112 ls [.int (i32 r59)]) (rfl) ?_
  try dsimp only at h
  refine lv_if_ne (tgt := 119) B.1 B.2.1 dX9_isFor_112 (by decide) (fun h9 => ?_) (fun h9 => ?_)
  · rw [if_pos (fun q => h9 ((z_eq gr59).mpr q))] at h
    exact a_X9_isFor_119 K hQ hX hTh _ _ _ (g2.up xσ58) (g4.up xσ58) h hGσ58 hYσ58 (hE.trans xσ58) (hth.up xσ58) _ _ _ hH (lv_sub (l' := [(0, .ref th), (2, va_rf v2), (4, va_rf v4)]) hl [0, 1, 2] rfl) hc
  · rw [if_neg (fun q => q ((z_eq gr59).mp h9))] at h
    exact a_X9_isFor_115 K hQ hX hTh _ _ _ (g2.up xσ58) (g4.up xσ58) h hGσ58 hYσ58 (hE.trans xσ58) (hth.up xσ58) _ _ _ hH (lv_sub (l' := [(0, .ref th), (2, va_rf v2), (4, va_rf v4)]) hl [0, 1, 2] rfl) hc
set_option maxRecDepth 20000 in
theorem a_X9_isFor_83 {Q : Sg → Int → Prop} {X : Sg → String → Prop} {th : Nat} (K : MD l R p s m args c cX9_isFor 7 RX9 D cA tys A n0 s0 1 23 []) (hQ : CQZ p l e R s m args below meth c cX9_isFor D cA A n0 s0 QM σi Q) (hX : CX p l e R s m args below meth c 7 D cA A n0 s0 QM σi X) (hTh : CT p l e R s m args below meth c cX9_isFor 7 D cA A n0 s0 QM σi RX9 X) : ∀ (σ : Sg) (v2 : Option Nat) (v4 : Option Nat) (v5 : Option Nat) (g2 : tyV σ 10 v2) (g4 : tyV σ 10 v4) (g5 : tyV σ 5 v5), w_X9_isFor_83 th Q X σ v2 v4 v5 → RG σ → TY σ → Ext σi σ → kO σ th 9 → JJ p l e R s m args below meth c 7 D cA A n0 s0 QM σ 83 [(0, .ref th), (2, va_rf v2), (4, va_rf v4), (5, va_rf v5)] [] := by
  intro σ v2 v4 v5 g2 g4 g5 h hGσ hYσ hE hth H locs ls hH hl hc
  have B := K.1
  have hl9 := K.2.2.2.2.2.2
  unfold w_X9_isFor_83 at h
  refine lv_aload_n B.1 B.2.1 dX9_isFor_83 rfl (lv_at hl 0 rfl) ?_
  refine f_getp B hH hth (by decide) rfl wu_X9 9 (by decide) wf_X9_100 rfl rfl dX9_isFor_84 ?_
  obtain ⟨a60, ea60, h⟩ := h
  have ka60 : kO σ a60 4 := (hYσ.get hth (by decide)) a60 ea60
  have h := h ka60
  refine W.eq (g2 := F0 m 87 ls [.ref a60]) (by rw [ea60]; rfl) ?_
  refine f_getp B hH ka60 (by decide) rfl wu_X4 0 (by decide) wf_X9_160 rfl rfl dX9_isFor_87 ?_
  refine lv_aload_nQ B.1 B.2.1 dX9_isFor_90 rfl (lv_at hl 1 rfl) ?_
  obtain ⟨a61, ea61, h⟩ := h
  have ka61 : kO σ a61 10 := g2 a61 ea61
  have h := h ka61
  refine W.eq (g2 := F0 m 91 ls [.ref a61, va_rf (gP σ a60 0)]) (by rw [ea61]; rfl) ?_
  refine f_geti B hH ka61 (by decide) rfl wu_X10 0 (by decide) wf_X9_181 rfl rfl dX9_isFor_91 ?_
  obtain ⟨a62, ea62, h⟩ := h
  have ka62 : kO σ a62 115 := (hYσ.get ka60 (by decide)) a62 ea62
  have h := h ka62
  obtain ⟨q1, h⟩ := h
  refine W.eq (g2 := F0 m 94 ls [.int (i32 (gI σ a61 0)), .ref a62]) (by rw [ea62]; rfl) ?_
  refine y_aald B hH (t0 := 6) ka62 (by decide) K.2.1.2.2.2.1 q1 (hYσ.2 _) dX9_isFor_94 ?_
  obtain ⟨a63, ea63, h⟩ := h
  have ka63 : kO σ a63 5 := (hYσ.get ka62 rfl) a63 ea63
  have h := h ka63
  refine W.eq (g2 := F0 m 95 ls [.ref a63]) (by rw [ea63]; rfl) ?_
  refine f_geti B hH ka63 (by decide) rfl wu_X5 6 (by decide) wf_X9_164 rfl rfl dX9_isFor_95 ?_
  refine c_SN B hH hl hc K.2.2.1 (As := [.int (i32 (gI σ a63 6))]) (ok_X12_hasOneTask hl9 K.2.1 σ (gI σ a63 6) (hGσ _ _) hGσ hYσ (nx_X12_hasOneTask h)) (fun _ _ h9 => h9.1) (List.mem_of_getElem? (l := nmL) (i := 11) rfl) wq_X12_hasOneTask 1 hd_X12_hasOneTask ⟨Nat.le_trans (Nat.le_of_ble_eq_true rfl) K.2.2.2.1, Nat.le_trans (Nat.le_of_ble_eq_true rfl) K.2.2.2.2.1⟩ rfl (rest := []) rfl (Nat.le_of_ble_eq_true rfl) dX9_isFor_98 (fun σ64 w hq => ?_)
  obtain ⟨r65, rfl, ⟨gr65, gzr65⟩, h, hGσ64, hYσ64, xσ64⟩ := hq
  have h := h xσ64
  intro H locs ls hH hl hc
  refine W.eq (g2 := F0 m 101 ls [.int (i32 r65)]) (rfl) ?_
  try dsimp only at h
  refine lv_if_eq (tgt := 119) B.1 B.2.1 dX9_isFor_101 (by decide) (fun h9 => ?_) (fun h9 => ?_)
  · rw [if_pos ((z_eq gr65).mp h9)] at h
    exact a_X9_isFor_119 K hQ hX hTh _ _ _ (g2.up xσ64) (g4.up xσ64) h hGσ64 hYσ64 (hE.trans xσ64) (hth.up xσ64) _ _ _ hH (lv_sub (l' := [(0, .ref th), (2, va_rf v2), (4, va_rf v4)]) hl [0, 1, 2] rfl) hc
  · rw [if_neg (fun q => h9 ((z_eq gr65).mpr q))] at h
    exact a_X9_isFor_104 K hQ hX hTh _ _ _ _ (g2.up xσ64) (g4.up xσ64) (g5.up xσ64) h hGσ64 hYσ64 (hE.trans xσ64) (hth.up xσ64) _ _ _ hH (lv_sub (l' := [(0, .ref th), (2, va_rf v2), (4, va_rf v4), (5, va_rf v5)]) hl [0, 1, 2, 3] rfl) hc
set_option maxRecDepth 20000 in
theorem a_X9_isFor_82 {Q : Sg → Int → Prop} {X : Sg → String → Prop} {th : Nat} (K : MD l R p s m args c cX9_isFor 7 RX9 D cA tys A n0 s0 1 23 []) (hQ : CQZ p l e R s m args below meth c cX9_isFor D cA A n0 s0 QM σi Q) (hX : CX p l e R s m args below meth c 7 D cA A n0 s0 QM σi X) (hTh : CT p l e R s m args below meth c cX9_isFor 7 D cA A n0 s0 QM σi RX9 X) : ∀ (σ : Sg) (u0 : Int) (gu0 : rng u0), w_X9_isFor_82 th Q X σ u0 → RG σ → TY σ → Ext σi σ → kO σ th 9 → JJ p l e R s m args below meth c 7 D cA A n0 s0 QM σ 82 [(0, .ref th)] [.int (i32 u0)] := by
  intro σ u0 gu0 h hGσ hYσ hE hth H locs ls hH hl hc
  have B := K.1
  have hl9 := K.2.2.2.2.2.2
  unfold w_X9_isFor_82 at h
  obtain ⟨qz, h⟩ := h
  exact hQ _ _ _ _ _ _ gu0 qz dX9_isFor_82 hH hc h hGσ hYσ hE
set_option maxRecDepth 20000 in
theorem a_X9_isFor_81 {Q : Sg → Int → Prop} {X : Sg → String → Prop} {th : Nat} (K : MD l R p s m args c cX9_isFor 7 RX9 D cA tys A n0 s0 1 23 []) (hQ : CQZ p l e R s m args below meth c cX9_isFor D cA A n0 s0 QM σi Q) (hX : CX p l e R s m args below meth c 7 D cA A n0 s0 QM σi X) (hTh : CT p l e R s m args below meth c cX9_isFor 7 D cA A n0 s0 QM σi RX9 X) : ∀ (σ : Sg), w_X9_isFor_81 th Q X σ → RG σ → TY σ → Ext σi σ → kO σ th 9 → JJ p l e R s m args below meth c 7 D cA A n0 s0 QM σ 81 [(0, .ref th)] [] := by
  intro σ h hGσ hYσ hE hth H locs ls hH hl hc
  have B := K.1
  have hl9 := K.2.2.2.2.2.2
  unfold w_X9_isFor_81 at h
  refine lv_iconst (v := i32 0) B.1 B.2.1 dX9_isFor_81 (by decide) ?_
  exact a_X9_isFor_82 K hQ hX hTh _ _ (by unfold rng; omega) h hGσ hYσ hE hth _ _ _ hH (lv_sub (l' := [(0, .ref th)]) hl [0] rfl) hc
set_option maxRecDepth 20000 in
theorem a_X9_isFor_77 {Q : Sg → Int → Prop} {X : Sg → String → Prop} {th : Nat} (K : MD l R p s m args c cX9_isFor 7 RX9 D cA tys A n0 s0 1 23 []) (hQ : CQZ p l e R s m args below meth c cX9_isFor D cA A n0 s0 QM σi Q) (hX : CX p l e R s m args below meth c 7 D cA A n0 s0 QM σi X) (hTh : CT p l e R s m args below meth c cX9_isFor 7 D cA A n0 s0 QM σi RX9 X) : ∀ (σ : Sg), w_X9_isFor_77 th Q X σ → RG σ → TY σ → Ext σi σ → kO σ th 9 → JJ p l e R s m args below meth c 7 D cA A n0 s0 QM σ 77 [(0, .ref th)] [] := by
  intro σ h hGσ hYσ hE hth H locs ls hH hl hc
  have B := K.1
  have hl9 := K.2.2.2.2.2.2
  unfold w_X9_isFor_77 at h
  refine lv_iconst (v := i32 1) B.1 B.2.1 dX9_isFor_77 (by decide) ?_
  refine lv_goto (tgt := 82) B.1 B.2.1 dX9_isFor_78 (by decide) ?_
  exact a_X9_isFor_82 K hQ hX hTh _ _ (by unfold rng; omega) h hGσ hYσ hE hth _ _ _ hH (lv_sub (l' := [(0, .ref th)]) hl [0] rfl) hc
set_option maxRecDepth 20000 in
theorem a_X9_isFor_61 {Q : Sg → Int → Prop} {X : Sg → String → Prop} {th : Nat} (K : MD l R p s m args c cX9_isFor 7 RX9 D cA tys A n0 s0 1 23 []) (hQ : CQZ p l e R s m args below meth c cX9_isFor D cA A n0 s0 QM σi Q) (hX : CX p l e R s m args below meth c 7 D cA A n0 s0 QM σi X) (hTh : CT p l e R s m args below meth c cX9_isFor 7 D cA A n0 s0 QM σi RX9 X) : ∀ (σ : Sg) (v4 : Option Nat) (u0 : Int) (u1 : Option Nat) (g4 : tyV σ 10 v4) (gu0 : rng u0) (gu1 : tyV σ 101 u1), w_X9_isFor_61 th Q X σ v4 u0 u1 → RG σ → TY σ → Ext σi σ → kO σ th 9 → JJ p l e R s m args below meth c 7 D cA A n0 s0 QM σ 61 [(0, .ref th), (4, va_rf v4)] [.int (i32 u0), va_rf u1] := by
  intro σ v4 u0 u1 g4 gu0 gu1 h hGσ hYσ hE hth H locs ls hH hl hc
  have B := K.1
  have hl9 := K.2.2.2.2.2.2
  unfold w_X9_isFor_61 at h
  obtain ⟨a66, ea66, h⟩ := h
  have ka66 : kO σ a66 101 := gu1 a66 ea66
  have h := h ka66
  obtain ⟨q1, h⟩ := h
  refine W.eq (g2 := F0 m 61 ls [.int (i32 u0), .ref a66]) (by rw [ea66]; rfl) ?_
  refine y_lald B K.2.1 hH ka66 q1 dX9_isFor_61 (hYσ.2 _) ?_
  refine lv_aload_n B.1 B.2.1 dX9_isFor_62 rfl (lv_at hl 0 rfl) ?_
  refine f_geti B hH hth (by decide) rfl wu_X9 12 (by decide) wf_X9_157 rfl rfl dX9_isFor_63 ?_
  refine c_SN B hH hl hc K.2.2.1 (As := [.long (gJ σ a66 u0.toNat), .int (i32 (gI σ th 12))]) (ok_X12_partOf hl9 K.2.1 σ (gJ σ a66 u0.toNat) (gI σ th 12) (hGσ _ _) hGσ hYσ (nx_X12_partOf h)) (fun _ _ h9 => h9.1) (List.mem_of_getElem? (l := nmL) (i := 18) rfl) wq_X12_partOf 2 hd_X12_partOf ⟨Nat.le_trans (Nat.le_of_ble_eq_true rfl) K.2.2.2.1, Nat.le_trans (Nat.le_of_ble_eq_true rfl) K.2.2.2.2.1⟩ rfl (rest := []) rfl (Nat.le_of_ble_eq_true rfl) dX9_isFor_66 (fun σ67 w hq => ?_)
  obtain ⟨r68, rfl, gr68, h, hGσ67, hYσ67, xσ67⟩ := hq
  have h := h xσ67
  intro H locs ls hH hl hc
  refine W.eq (g2 := F0 m 69 ls [.int (i32 r68)]) (rfl) ?_
  try dsimp only at h
  refine lv_aloadQ B.1 B.2.1 dX9_isFor_69 (lv_at hl 1 rfl) ?_
  obtain ⟨a69, ea69, h⟩ := h
  have ka69 : kO σ67 a69 10 := (g4.up xσ67) a69 ea69
  have h := h ka69
  refine W.eq (g2 := F0 m 71 ls [.ref a69, .int (i32 r68)]) (by rw [ea69]; rfl) ?_
  refine f_geti B hH ka69 (by decide) rfl wu_X10 1 (by decide) wf_X9_202 rfl rfl dX9_isFor_71 ?_
  refine lv_icmp_ne (tgt := 81) B.1 B.2.1 dX9_isFor_74 (by decide) (fun h9 => ?_) (fun h9 => ?_)
  · rw [if_pos (fun q => h9 ((i32_eq gr68 (hGσ67 _ _)).mpr q))] at h
    exact a_X9_isFor_81 K hQ hX hTh _ h hGσ67 hYσ67 (hE.trans xσ67) (hth.up xσ67) _ _ _ hH (lv_sub (l' := [(0, .ref th)]) hl [0] rfl) hc
  · rw [if_neg (fun q => q ((i32_eq gr68 (hGσ67 _ _)).mp h9))] at h
    exact a_X9_isFor_77 K hQ hX hTh _ h hGσ67 hYσ67 (hE.trans xσ67) (hth.up xσ67) _ _ _ hH (lv_sub (l' := [(0, .ref th)]) hl [0] rfl) hc
set_option maxRecDepth 20000 in
theorem a_X9_isFor_56 {Q : Sg → Int → Prop} {X : Sg → String → Prop} {th : Nat} (K : MD l R p s m args c cX9_isFor 7 RX9 D cA tys A n0 s0 1 23 []) (hQ : CQZ p l e R s m args below meth c cX9_isFor D cA A n0 s0 QM σi Q) (hX : CX p l e R s m args below meth c 7 D cA A n0 s0 QM σi X) (hTh : CT p l e R s m args below meth c cX9_isFor 7 D cA A n0 s0 QM σi RX9 X) : ∀ (σ : Sg) (v4 : Option Nat) (v5 : Option Nat) (u0 : Option Nat) (g4 : tyV σ 10 v4) (g5 : tyV σ 5 v5) (gu0 : tyV σ 101 u0), w_X9_isFor_56 th Q X σ v4 v5 u0 → RG σ → TY σ → Ext σi σ → kO σ th 9 → JJ p l e R s m args below meth c 7 D cA A n0 s0 QM σ 56 [(0, .ref th), (4, va_rf v4), (5, va_rf v5)] [va_rf u0] := by
  intro σ v4 v5 u0 g4 g5 gu0 h hGσ hYσ hE hth H locs ls hH hl hc
  have B := K.1
  have hl9 := K.2.2.2.2.2.2
  unfold w_X9_isFor_56 at h
  refine lv_aloadQ B.1 B.2.1 dX9_isFor_56 (lv_at hl 2 rfl) ?_
  obtain ⟨a70, ea70, h⟩ := h
  have ka70 : kO σ a70 5 := g5 a70 ea70
  have h := h ka70
  refine W.eq (g2 := F0 m 58 ls [.ref a70, va_rf u0]) (by rw [ea70]; rfl) ?_
  refine f_geti B hH ka70 (by decide) rfl wu_X5 14 (by decide) wf_X9_470 rfl rfl dX9_isFor_58 ?_
  exact a_X9_isFor_61 K hQ hX hTh _ _ _ _ g4 (hGσ _ _) gu0 h hGσ hYσ hE hth _ _ _ hH (lv_sub (l' := [(0, .ref th), (4, va_rf v4)]) hl [0, 1] rfl) hc
set_option maxRecDepth 20000 in
theorem a_X9_isFor_48 {Q : Sg → Int → Prop} {X : Sg → String → Prop} {th : Nat} (K : MD l R p s m args c cX9_isFor 7 RX9 D cA tys A n0 s0 1 23 []) (hQ : CQZ p l e R s m args below meth c cX9_isFor D cA A n0 s0 QM σi Q) (hX : CX p l e R s m args below meth c 7 D cA A n0 s0 QM σi X) (hTh : CT p l e R s m args below meth c cX9_isFor 7 D cA A n0 s0 QM σi RX9 X) : ∀ (σ : Sg) (v4 : Option Nat) (v5 : Option Nat) (u0 : Option Nat) (g4 : tyV σ 10 v4) (g5 : tyV σ 5 v5) (gu0 : tyV σ 101 u0), w_X9_isFor_48 th Q X σ v4 v5 u0 → RG σ → TY σ → Ext σi σ → kO σ th 9 → JJ p l e R s m args below meth c 7 D cA A n0 s0 QM σ 48 [(0, .ref th), (4, va_rf v4), (5, va_rf v5)] [va_rf u0] := by
  intro σ v4 v5 u0 g4 g5 gu0 h hGσ hYσ hE hth H locs ls hH hl hc
  have B := K.1
  have hl9 := K.2.2.2.2.2.2
  unfold w_X9_isFor_48 at h
  refine lv_aloadQ B.1 B.2.1 dX9_isFor_48 (lv_at hl 2 rfl) ?_
  obtain ⟨a71, ea71, h⟩ := h
  have ka71 : kO σ a71 5 := g5 a71 ea71
  have h := h ka71
  refine W.eq (g2 := F0 m 50 ls [.ref a71, va_rf u0]) (by rw [ea71]; rfl) ?_
  refine f_geti B hH ka71 (by decide) rfl wu_X5 13 (by decide) wf_X9_467 rfl rfl dX9_isFor_50 ?_
  refine lv_goto (tgt := 61) B.1 B.2.1 dX9_isFor_53 (by decide) ?_
  exact a_X9_isFor_61 K hQ hX hTh _ _ _ _ g4 (hGσ _ _) gu0 h hGσ hYσ hE hth _ _ _ hH (lv_sub (l' := [(0, .ref th), (4, va_rf v4)]) hl [0, 1] rfl) hc
set_option maxRecDepth 20000 in
theorem a_X9_isFor_37 {Q : Sg → Int → Prop} {X : Sg → String → Prop} {th : Nat} (K : MD l R p s m args c cX9_isFor 7 RX9 D cA tys A n0 s0 1 23 []) (hQ : CQZ p l e R s m args below meth c cX9_isFor D cA A n0 s0 QM σi Q) (hX : CX p l e R s m args below meth c 7 D cA A n0 s0 QM σi X) (hTh : CT p l e R s m args below meth c cX9_isFor 7 D cA A n0 s0 QM σi RX9 X) : ∀ (σ : Sg) (v1 : Option Nat) (v3 : Option Nat) (v4 : Option Nat) (v5 : Option Nat) (g1 : tyV σ 2 v1) (g3 : tyV σ 0 v3) (g4 : tyV σ 10 v4) (g5 : tyV σ 5 v5), w_X9_isFor_37 th Q X σ v1 v3 v4 v5 → RG σ → TY σ → Ext σi σ → kO σ th 9 → JJ p l e R s m args below meth c 7 D cA A n0 s0 QM σ 37 [(0, .ref th), (1, va_rf v1), (3, va_rf v3), (4, va_rf v4), (5, va_rf v5)] [] := by
  intro σ v1 v3 v4 v5 g1 g3 g4 g5 h hGσ hYσ hE hth H locs ls hH hl hc
  have B := K.1
  have hl9 := K.2.2.2.2.2.2
  unfold w_X9_isFor_37 at h
  refine lv_aload_nQ B.1 B.2.1 dX9_isFor_37 rfl (lv_at hl 2 rfl) ?_
  obtain ⟨a72, ea72, h⟩ := h
  have ka72 : kO σ a72 0 := g3 a72 ea72
  have h := h ka72
  refine W.eq (g2 := F0 m 38 ls [.ref a72]) (by rw [ea72]; rfl) ?_
  refine f_getp B hH ka72 (by decide) rfl wu_X0 0 (by decide) wf_X9_463 rfl rfl dX9_isFor_38 ?_
  refine lv_aload_nQ B.1 B.2.1 dX9_isFor_41 rfl (lv_at hl 1 rfl) ?_
  obtain ⟨a73, ea73, h⟩ := h
  have ka73 : kO σ a73 2 := g1 a73 ea73
  have h := h ka73
  refine W.eq (g2 := F0 m 42 ls [.ref a73, va_rf (gP σ a72 0)]) (by rw [ea73]; rfl) ?_
  refine f_geti B hH ka73 (by decide) rfl wu_X2 3 (by decide) wf_X9_329 rfl rfl dX9_isFor_42 ?_
  refine lv_if_ne (tgt := 56) B.1 B.2.1 dX9_isFor_45 (by decide) (fun h9 => ?_) (fun h9 => ?_)
  · rw [if_pos (fun q => h9 ((z_eq (hGσ _ _)).mpr q))] at h
    exact a_X9_isFor_56 K hQ hX hTh _ _ _ _ g4 g5 (hYσ.get ka72 (by decide)) h hGσ hYσ hE hth _ _ _ hH (lv_sub (l' := [(0, .ref th), (4, va_rf v4), (5, va_rf v5)]) hl [0, 3, 4] rfl) hc
  · rw [if_neg (fun q => q ((z_eq (hGσ _ _)).mp h9))] at h
    exact a_X9_isFor_48 K hQ hX hTh _ _ _ _ g4 g5 (hYσ.get ka72 (by decide)) h hGσ hYσ hE hth _ _ _ hH (lv_sub (l' := [(0, .ref th), (4, va_rf v4), (5, va_rf v5)]) hl [0, 3, 4] rfl) hc
set_option maxRecDepth 20000 in
theorem a_X9_isFor_0 {Q : Sg → Int → Prop} {X : Sg → String → Prop} {th : Nat} (K : MD l R p s m args c cX9_isFor 7 RX9 D cA tys A n0 s0 1 23 []) (hQ : CQZ p l e R s m args below meth c cX9_isFor D cA A n0 s0 QM σi Q) (hX : CX p l e R s m args below meth c 7 D cA A n0 s0 QM σi X) (hTh : CT p l e R s m args below meth c cX9_isFor 7 D cA A n0 s0 QM σi RX9 X) : ∀ (σ : Sg) (v1 : Option Nat) (v2 : Option Nat) (v3 : Option Nat) (g1 : tyV σ 2 v1) (g2 : tyV σ 10 v2) (g3 : tyV σ 0 v3), w_X9_isFor_0 th Q X σ v1 v2 v3 → RG σ → TY σ → Ext σi σ → kO σ th 9 → JJ p l e R s m args below meth c 7 D cA A n0 s0 QM σ 0 [(0, .ref th), (1, va_rf v1), (2, va_rf v2), (3, va_rf v3)] [] := by
  intro σ v1 v2 v3 g1 g2 g3 h hGσ hYσ hE hth H locs ls hH hl hc
  have B := K.1
  have hl9 := K.2.2.2.2.2.2
  unfold w_X9_isFor_0 at h
  refine lv_aload_n B.1 B.2.1 dX9_isFor_0 rfl (lv_at hl 0 rfl) ?_
  refine f_getp B hH hth (by decide) rfl wu_X9 3 (by decide) wf_X9_20 rfl rfl dX9_isFor_1 ?_
  refine lv_aload_nQ B.1 B.2.1 dX9_isFor_4 rfl (lv_at hl 1 rfl) ?_
  obtain ⟨a74, ea74, h⟩ := h
  have ka74 : kO σ a74 2 := g1 a74 ea74
  have h := h ka74
  refine W.eq (g2 := F0 m 5 ls [.ref a74, va_rf (gP σ th 3)]) (by rw [ea74]; rfl) ?_
  refine f_geti B hH ka74 (by decide) rfl wu_X2 2 (by decide) wf_X9_460 rfl rfl dX9_isFor_5 ?_
  obtain ⟨a75, ea75, h⟩ := h
  have ka75 : kO σ a75 120 := (hYσ.get hth (by decide)) a75 ea75
  have h := h ka75
  obtain ⟨q1, h⟩ := h
  refine W.eq (g2 := F0 m 8 ls [.int (i32 (gI σ a74 2)), .ref a75]) (by rw [ea75]; rfl) ?_
  refine y_aald B hH (t0 := 7) ka75 (by decide) K.2.1.2.2.2.2.1 q1 (hYσ.2 _) dX9_isFor_8 ?_
  refine lv_astoreQ (lv' := [(4, va_rf (gP σ a75 (gI σ a74 2).toNat)), (0, .ref th), (1, va_rf v1), (2, va_rf v2), (3, va_rf v3)]) B.1 B.2.1 dX9_isFor_9 hl (by decide) (by generalize v3 = w9; cases w9 <;> rfl) (fun ls hl => ?_)
  refine lv_aload_n B.1 B.2.1 dX9_isFor_11 rfl (lv_at hl 1 rfl) ?_
  refine f_getp B hH hth (by decide) rfl wu_X9 9 (by decide) wf_X9_100 rfl rfl dX9_isFor_12 ?_
  obtain ⟨a76, ea76, h⟩ := h
  have ka76 : kO σ a76 4 := (hYσ.get hth (by decide)) a76 ea76
  have h := h ka76
  refine W.eq (g2 := F0 m 15 ls [.ref a76]) (by rw [ea76]; rfl) ?_
  refine f_getp B hH ka76 (by decide) rfl wu_X4 0 (by decide) wf_X9_160 rfl rfl dX9_isFor_15 ?_
  refine lv_aloadQ B.1 B.2.1 dX9_isFor_18 (lv_at hl 0 rfl) ?_
  obtain ⟨a77, ea77, h⟩ := h
  have ka77 : kO σ a77 10 := (hYσ.get ka75 rfl) a77 ea77
  have h := h ka77
  refine W.eq (g2 := F0 m 20 ls [.ref a77, va_rf (gP σ a76 0)]) (by rw [ea77]; rfl) ?_
  refine f_geti B hH ka77 (by decide) rfl wu_X10 0 (by decide) wf_X9_181 rfl rfl dX9_isFor_20 ?_
  obtain ⟨a78, ea78, h⟩ := h
  have ka78 : kO σ a78 115 := (hYσ.get ka76 (by decide)) a78 ea78
  have h := h ka78
  obtain ⟨q2, h⟩ := h
  refine W.eq (g2 := F0 m 23 ls [.int (i32 (gI σ a77 0)), .ref a78]) (by rw [ea78]; rfl) ?_
  refine y_aald B hH (t0 := 6) ka78 (by decide) K.2.1.2.2.2.1 q2 (hYσ.2 _) dX9_isFor_23 ?_
  refine lv_astoreQ (lv' := [(5, va_rf (gP σ a78 (gI σ a77 0).toNat)), (4, va_rf (gP σ a75 (gI σ a74 2).toNat)), (0, .ref th), (1, va_rf v1), (2, va_rf v2), (3, va_rf v3)]) B.1 B.2.1 dX9_isFor_24 hl (by decide) (by generalize (gP σ a75 (gI σ a74 2).toNat) = w9; cases w9 <;> rfl) (fun ls hl => ?_)
  refine lv_aloadQ B.1 B.2.1 dX9_isFor_26 (lv_at hl 0 rfl) ?_
  obtain ⟨a79, ea79, h⟩ := h
  have ka79 : kO σ a79 5 := (hYσ.get ka78 rfl) a79 ea79
  have h := h ka79
  refine W.eq (g2 := F0 m 28 ls [.ref a79]) (by rw [ea79]; rfl) ?_
  refine f_geti B hH ka79 (by decide) rfl wu_X5 6 (by decide) wf_X9_164 rfl rfl dX9_isFor_28 ?_
  refine c_SN B hH hl hc K.2.2.1 (As := [.int (i32 (gI σ a79 6))]) (ok_X12_isKeyed hl9 K.2.1 σ (gI σ a79 6) (hGσ _ _) hGσ hYσ (nx_X12_isKeyed h)) (fun _ _ h9 => h9.1) (List.mem_of_getElem? (l := nmL) (i := 13) rfl) wq_X12_isKeyed 1 hd_X12_isKeyed ⟨Nat.le_trans (Nat.le_of_ble_eq_true rfl) K.2.2.2.1, Nat.le_trans (Nat.le_of_ble_eq_true rfl) K.2.2.2.2.1⟩ rfl (rest := []) rfl (Nat.le_of_ble_eq_true rfl) dX9_isFor_31 (fun σ80 w hq => ?_)
  obtain ⟨r81, rfl, ⟨gr81, gzr81⟩, h, hGσ80, hYσ80, xσ80⟩ := hq
  have h := h xσ80
  intro H locs ls hH hl hc
  refine W.eq (g2 := F0 m 34 ls [.int (i32 r81)]) (rfl) ?_
  try dsimp only at h
  refine lv_if_eq (tgt := 83) B.1 B.2.1 dX9_isFor_34 (by decide) (fun h9 => ?_) (fun h9 => ?_)
  · rw [if_pos ((z_eq gr81).mp h9)] at h
    exact a_X9_isFor_83 K hQ hX hTh _ _ _ _ (g2.up xσ80) ((hYσ.get ka75 rfl).up xσ80) ((hYσ.get ka78 rfl).up xσ80) h hGσ80 hYσ80 (hE.trans xσ80) (hth.up xσ80) _ _ _ hH (lv_sub (l' := [(0, .ref th), (2, va_rf v2), (4, va_rf (gP σ a75 (gI σ a74 2).toNat)), (5, va_rf (gP σ a78 (gI σ a77 0).toNat))]) hl [2, 4, 1, 0] rfl) hc
  · rw [if_neg (fun q => h9 ((z_eq gr81).mpr q))] at h
    exact a_X9_isFor_37 K hQ hX hTh _ _ _ _ _ (g1.up xσ80) (g3.up xσ80) ((hYσ.get ka75 rfl).up xσ80) ((hYσ.get ka78 rfl).up xσ80) h hGσ80 hYσ80 (hE.trans xσ80) (hth.up xσ80) _ _ _ hH (lv_sub (l' := [(0, .ref th), (1, va_rf v1), (3, va_rf v3), (4, va_rf (gP σ a75 (gI σ a74 2).toNat)), (5, va_rf (gP σ a78 (gI σ a77 0).toNat))]) hl [2, 3, 5, 1, 0] rfl) hc
theorem ok_X9_isFor (hl0 : l.stackTraces = false) (hT : TyC cA tys) {Q : Sg → Int → Prop} {X : Sg → String → Prop} (σ : Sg) (th : Nat) (v1 : Option Nat) (v2 : Option Nat) (v3 : Option Nat) (g1 : tyV σ 2 v1) (g2 : tyV σ 10 v2) (g3 : tyV σ 0 v3) (hth : kO σ th 9) (hG : RG σ) (hY : TY σ) (h : wp_X9_isFor th v1 v2 v3 σ Q X) : Ok l D cA tys A yX9_isFor (.code yX9_isFor cX9_isFor 7 (some .boolean)) 1 23 [.ref th, va_rf v1, va_rf v2, va_rf v3] σ (QcZ σ Q) (QxC σ X) := by
  unfold wp_X9_isFor at h
  exact oc_Z hl0 (by decide) (by cases v1 <;> cases v2 <;> cases v3 <;> exact Nat.le_of_ble_eq_true rfl) hT (fun p e R s m args below meth c K hQ hX hTh H locs ls hH hl hc => a_X9_isFor_0 K hQ hX hTh σ v1 v2 v3 g1 g2 g3 h hG hY (Ext.rfl' σ) hth H locs ls hH (lv_sub (l' := [(0, .ref th), (1, va_rf v1), (2, va_rf v2), (3, va_rf v3)]) hl [0, 1, 2, 3] (by cases v1 <;> cases v2 <;> cases v3 <;> rfl)) hc)
theorem dX9_sendRow_0 : decode cX9_sendRow 0 = .ok (.aload_n 1, 1) := by decide +kernel
theorem dX9_sendRow_1 : decode cX9_sendRow 1 = .ok (.getfield 211, 3) := by decide +kernel
theorem dX9_sendRow_4 : decode cX9_sendRow 4 = .ok (.istore_n 3, 1) := by decide +kernel
theorem dX9_sendRow_5 : decode cX9_sendRow 5 = .ok (.iload_n 3, 1) := by decide +kernel
theorem dX9_sendRow_6 : decode cX9_sendRow 6 = .ok (.iconst (-1), 1) := by decide +kernel
theorem dX9_sendRow_7 : decode cX9_sendRow 7 = .ok (.if_icmp .eq 55, 3) := by decide +kernel
theorem dX9_sendRow_10 : decode cX9_sendRow 10 = .ok (.aload_n 0, 1) := by decide +kernel
theorem dX9_sendRow_11 : decode cX9_sendRow 11 = .ok (.aload_n 0, 1) := by decide +kernel
theorem dX9_sendRow_12 : decode cX9_sendRow 12 = .ok (.getfield 26, 3) := by decide +kernel
theorem dX9_sendRow_15 : decode cX9_sendRow 15 = .ok (.iload_n 3, 1) := by decide +kernel
theorem dX9_sendRow_16 : decode cX9_sendRow 16 = .ok (.aaload, 1) := by decide +kernel
theorem dX9_sendRow_17 : decode cX9_sendRow 17 = .ok (.aload_n 1, 1) := by decide +kernel
theorem dX9_sendRow_18 : decode cX9_sendRow 18 = .ok (.aload_n 2, 1) := by decide +kernel
theorem dX9_sendRow_19 : decode cX9_sendRow 19 = .ok (.invokevirtual 449, 3) := by decide +kernel
theorem dX9_sendRow_22 : decode cX9_sendRow 22 = .ok (.ifCond .eq 27, 3) := by decide +kernel
theorem dX9_sendRow_25 : decode cX9_sendRow 25 = .ok (.aload_n 0, 1) := by decide +kernel
theorem dX9_sendRow_26 : decode cX9_sendRow 26 = .ok (.getfield 48, 3) := by decide +kernel
theorem dX9_sendRow_29 : decode cX9_sendRow 29 = .ok (.aload_n 2, 1) := by decide +kernel
theorem dX9_sendRow_30 : decode cX9_sendRow 30 = .ok (.invokevirtual 246, 3) := by decide +kernel
theorem dX9_sendRow_33 : decode cX9_sendRow 33 = .ok (.astore 4, 2) := by decide +kernel
theorem dX9_sendRow_35 : decode cX9_sendRow 35 = .ok (.aload 4, 2) := by decide +kernel
theorem dX9_sendRow_37 : decode cX9_sendRow 37 = .ok (.iconst 0, 1) := by decide +kernel
theorem dX9_sendRow_38 : decode cX9_sendRow 38 = .ok (.putfield 291, 3) := by decide +kernel
theorem dX9_sendRow_41 : decode cX9_sendRow 41 = .ok (.aload_n 0, 1) := by decide +kernel
theorem dX9_sendRow_42 : decode cX9_sendRow 42 = .ok (.aload_n 1, 1) := by decide +kernel
theorem dX9_sendRow_43 : decode cX9_sendRow 43 = .ok (.iload_n 3, 1) := by decide +kernel
theorem dX9_sendRow_44 : decode cX9_sendRow 44 = .ok (.aload 4, 2) := by decide +kernel
theorem dX9_sendRow_46 : decode cX9_sendRow 46 = .ok (.invokevirtual 453, 3) := by decide +kernel
theorem dX9_sendRow_49 : decode cX9_sendRow 49 = .ok (.aload_n 0, 1) := by decide +kernel
theorem dX9_sendRow_50 : decode cX9_sendRow 50 = .ok (.getfield 26, 3) := by decide +kernel
theorem dX9_sendRow_53 : decode cX9_sendRow 53 = .ok (.iload_n 3, 1) := by decide +kernel
theorem dX9_sendRow_54 : decode cX9_sendRow 54 = .ok (.aaload, 1) := by decide +kernel
theorem dX9_sendRow_55 : decode cX9_sendRow 55 = .ok (.getfield 214, 3) := by decide +kernel
theorem dX9_sendRow_58 : decode cX9_sendRow 58 = .ok (.istore_n 3, 1) := by decide +kernel
theorem dX9_sendRow_59 : decode cX9_sendRow 59 = .ok (.goto (-54), 3) := by decide +kernel
theorem dX9_sendRow_62 : decode cX9_sendRow 62 = .ok (.aload_n 1, 1) := by decide +kernel
theorem dX9_sendRow_63 : decode cX9_sendRow 63 = .ok (.dup, 1) := by decide +kernel
theorem dX9_sendRow_64 : decode cX9_sendRow 64 = .ok (.getfield 457, 3) := by decide +kernel
theorem dX9_sendRow_67 : decode cX9_sendRow 67 = .ok (.iconst 1, 1) := by decide +kernel
theorem dX9_sendRow_68 : decode cX9_sendRow 68 = .ok (.iadd, 1) := by decide +kernel
theorem dX9_sendRow_69 : decode cX9_sendRow 69 = .ok (.putfield 457, 3) := by decide +kernel
theorem dX9_sendRow_72 : decode cX9_sendRow 72 = .ok (.aload_n 0, 1) := by decide +kernel
theorem dX9_sendRow_73 : decode cX9_sendRow 73 = .ok (.getfield 48, 3) := by decide +kernel
theorem dX9_sendRow_76 : decode cX9_sendRow 76 = .ok (.aload_n 2, 1) := by decide +kernel
theorem dX9_sendRow_77 : decode cX9_sendRow 77 = .ok (.invokevirtual 294, 3) := by decide +kernel
theorem dX9_sendRow_80 : decode cX9_sendRow 80 = .ok (.return_, 1) := by decide +kernel
set_option maxRecDepth 20000 in
theorem a_X9_sendRow_62 {Q : Sg → Unit → Prop} {X : Sg → String → Prop} {th : Nat} (K : MD l R p s m args c cX9_sendRow 5 RX9 D cA tys A n0 s0 7 113 []) (hQ : CQV p l e R s m args below meth c cX9_sendRow D cA A n0 s0 QM σi Q) (hX : CX p l e R s m args below meth c 5 D cA A n0 s0 QM σi X) (hTh : CT p l e R s m args below meth c cX9_sendRow 5 D cA A n0 s0 QM σi RX9 X) : ∀ (σ : Sg) (v1 : Option Nat) (v2 : Option Nat) (g1 : tyV σ 10 v1) (g2 : tyV σ 0 v2), w_X9_sendRow_62 th Q X σ v1 v2 → RG σ → TY σ → Ext σi σ → kO σ th 9 → JJ p l e R s m args below meth c 5 D cA A n0 s0 QM σ 62 [(0, .ref th), (1, va_rf v1), (2, va_rf v2)] [] := by
  intro σ v1 v2 g1 g2 h hGσ hYσ hE hth H locs ls hH hl hc
  have B := K.1
  have hl9 := K.2.2.2.2.2.2
  unfold w_X9_sendRow_62 at h
  refine lv_aload_nQ B.1 B.2.1 dX9_sendRow_62 rfl (lv_at hl 1 rfl) ?_
  refine lv_dup B.1 B.2.1 dX9_sendRow_63 (rf_cat _) ?_
  obtain ⟨a35, ea35, h⟩ := h
  have ka35 : kO σ a35 10 := g1 a35 ea35
  have h := h ka35
  refine W.eq (g2 := F0 m 64 ls [.ref a35, va_rf v1]) (by rw [ea35]; rfl) ?_
  refine f_geti B hH ka35 (by decide) rfl wu_X10 9 (by decide) wf_X9_457 rfl rfl dX9_sendRow_64 ?_
  refine lv_iconst (v := i32 1) B.1 B.2.1 dX9_sendRow_67 (by decide) ?_
  refine lv_iadd B.1 B.2.1 dX9_sendRow_68 ?_
  rw [i32_add]
  refine W.eq (g2 := F0 m 69 ls [.int (i32 (wr (gI σ a35 9 + 1))), va_rf v1]) (by rw [i32_wr]) ?_
  obtain ⟨σ36, eσ36⟩ : ∃ z, z = pI σ a35 9 (wr (gI σ a35 9 + 1)) := ⟨_, rfl⟩
  have h := h σ36 eσ36
  refine W.eq (g2 := F0 m 69 ls [.int (i32 (wr (gI σ a35 9 + 1))), .ref a35]) (by rw [ea35]; rfl) ?_
  refine f_puti B hH ka35 (by decide) rfl wu_X10 tyX10 tyX10_ok nmX10 9 (by decide) wf_X9_457 rfl (ty := .int) rfl rfl rfl rfl rfl dX9_sendRow_69 (fun H locs hH => ?_)
  have hH : Hd D cA A s (pI σ a35 9 (wr (gI σ a35 9 + 1))) H locs := hH
  rw [← eσ36] at hH
  have hGσ36 : RG σ36 := by rw [eσ36]; exact hGσ.pI (rng_wr _)
  have hYσ36 : TY σ36 := by rw [eσ36]; exact hYσ.pI
  have xσ36 : Ext σ σ36 := by rw [eσ36]; exact Ext.pI
  have hc : CB n0 s0 σ36 := by rw [eσ36]; exact hc
  rw [show gc σ = gc σ36 by rw [eσ36]; try rfl, show gs σ = gs σ36 by rw [eσ36]; try rfl]
  refine lv_aload_n B.1 B.2.1 dX9_sendRow_72 rfl (lv_at hl 0 rfl) ?_
  refine f_getp B hH (hth.up xσ36) (by decide) rfl wu_X9 0 (by decide) wf_X9_48 rfl rfl dX9_sendRow_73 ?_
  refine lv_aload_nQ B.1 B.2.1 dX9_sendRow_76 rfl (lv_at hl 2 rfl) ?_
  obtain ⟨a38, ea38, h⟩ := h
  have ka38 : kO σ36 a38 8 := (hYσ36.get (hth.up xσ36) (by decide)) a38 ea38
  have h := h ka38
  refine W.eq (g2 := F0 m 77 ls [va_rf v2, .ref a38]) (by rw [ea38]; rfl) ?_
  refine c_V B hH hl hc K.2.2.1 (C := RX8) (T := TX8) (N := 3) (ci := 8) (As := [va_rf v2]) (ok_X8_release hl9 K.2.1 σ36 a38 v2 (g2.up xσ36) ka38 hGσ36 hYσ36 h) wc_X9_294 1 hd_X8_release ⟨Nat.le_trans (Nat.le_of_ble_eq_true rfl) K.2.2.2.1, Nat.le_trans (Nat.le_of_ble_eq_true rfl) K.2.2.2.2.1⟩ ka38.1 ka38.2 (by decide) rfl rfl (rest := []) rfl (Nat.le_of_ble_eq_true rfl) dX9_sendRow_77 (fun σ37 w hq => ?_) (fun σ9 E9 hx9 => hX σ9 E9 _ _ _ (tb_out K.2.2.2.2.2.1 rfl) hx9.1 hx9.2.1 hx9.2.2.1 ((hE.trans xσ36).trans hx9.2.2.2))
  obtain ⟨rfl, h, hGσ37, hYσ37, xσ37⟩ := hq
  have h := h xσ37
  intro H locs ls hH hl hc
  refine W.eq (g2 := F0 m 80 ls []) (rfl) ?_
  try dsimp only at h
  exact hQ _ _ _ _ _ dX9_sendRow_80 hH hc h hGσ37 hYσ37 ((hE.trans xσ36).trans xσ37)
set_option maxRecDepth 20000 in
theorem a_X9_sendRow_49 {Q : Sg → Unit → Prop} {X : Sg → String → Prop} {th : Nat} (K : MD l R p s m args c cX9_sendRow 5 RX9 D cA tys A n0 s0 7 113 []) (hQ : CQV p l e R s m args below meth c cX9_sendRow D cA A n0 s0 QM σi Q) (hX : CX p l e R s m args below meth c 5 D cA A n0 s0 QM σi X) (hTh : CT p l e R s m args below meth c cX9_sendRow 5 D cA A n0 s0 QM σi RX9 X) {K5 : Sg → Option Nat → Option Nat → Int → Prop} (hK5 : ∀ (σ : Sg) (v1 : Option Nat) (v2 : Option Nat) (v3 : Int) (g1 : tyV σ 10 v1) (g2 : tyV σ 0 v2) (g3 : rng v3), K5 σ v1 v2 v3 → RG σ → TY σ → Ext σi σ → kO σ th 9 → JJ p l e R s m args below meth c 5 D cA A n0 s0 QM σ 5 [(0, .ref th), (1, va_rf v1), (2, va_rf v2), (3, .int (i32 v3))] []) : ∀ (σ : Sg) (v1 : Option Nat) (v2 : Option Nat) (v3 : Int) (g1 : tyV σ 10 v1) (g2 : tyV σ 0 v2) (g3 : rng v3), w_X9_sendRow_49 th K5 Q X σ v1 v2 v3 → RG σ → TY σ → Ext σi σ → kO σ th 9 → JJ p l e R s m args below meth c 5 D cA A n0 s0 QM σ 49 [(0, .ref th), (1, va_rf v1), (2, va_rf v2), (3, .int (i32 v3))] [] := by
  intro σ v1 v2 v3 g1 g2 g3 h hGσ hYσ hE hth H locs ls hH hl hc
  have B := K.1
  have hl9 := K.2.2.2.2.2.2
  unfold w_X9_sendRow_49 at h
  refine lv_aload_n B.1 B.2.1 dX9_sendRow_49 rfl (lv_at hl 0 rfl) ?_
  refine f_getp B hH hth (by decide) rfl wu_X9 4 (by decide) wf_X9_26 rfl rfl dX9_sendRow_50 ?_
  refine lv_iload_n B.1 B.2.1 dX9_sendRow_53 rfl (lv_at hl 3 rfl) ?_
  obtain ⟨a39, ea39, h⟩ := h
  have ka39 : kO σ a39 112 := (hYσ.get hth (by decide)) a39 ea39
  have h := h ka39
  obtain ⟨q1, h⟩ := h
  refine W.eq (g2 := F0 m 54 ls [.int (i32 v3), .ref a39]) (by rw [ea39]; rfl) ?_
  refine y_aald B hH (t0 := 5) ka39 (by decide) K.2.1.2.2.1 q1 (hYσ.2 _) dX9_sendRow_54 ?_
  obtain ⟨a40, ea40, h⟩ := h
  have ka40 : kO σ a40 2 := (hYσ.get ka39 rfl) a40 ea40
  have h := h ka40
  refine W.eq (g2 := F0 m 55 ls [.ref a40]) (by rw [ea40]; rfl) ?_
  refine f_geti B hH ka40 (by decide) rfl wu_X2 7 (by decide) wf_X9_214 rfl rfl dX9_sendRow_55 ?_
  refine lv_istore_n (lv' := [(3, .int (i32 (gI σ a40 7))), (0, .ref th), (1, va_rf v1), (2, va_rf v2)]) B.1 B.2.1 dX9_sendRow_58 rfl hl (by decide) (by generalize v2 = w9; cases w9 <;> rfl) (fun ls hl => ?_)
  refine lv_goto (tgt := 5) B.1 B.2.1 dX9_sendRow_59 (by decide) ?_
  exact hK5 _ _ _ _ g1 g2 (hGσ _ _) h hGσ hYσ hE hth _ _ _ hH (lv_sub (l' := [(0, .ref th), (1, va_rf v1), (2, va_rf v2), (3, .int (i32 (gI σ a40 7)))]) hl [1, 2, 3, 0] rfl) hc
set_option maxRecDepth 20000 in
theorem a_X9_sendRow_25 {Q : Sg → Unit → Prop} {X : Sg → String → Prop} {th : Nat} (K : MD l R p s m args c cX9_sendRow 5 RX9 D cA tys A n0 s0 7 113 []) (hQ : CQV p l e R s m args below meth c cX9_sendRow D cA A n0 s0 QM σi Q) (hX : CX p l e R s m args below meth c 5 D cA A n0 s0 QM σi X) (hTh : CT p l e R s m args below meth c cX9_sendRow 5 D cA A n0 s0 QM σi RX9 X) {K5 : Sg → Option Nat → Option Nat → Int → Prop} (hK5 : ∀ (σ : Sg) (v1 : Option Nat) (v2 : Option Nat) (v3 : Int) (g1 : tyV σ 10 v1) (g2 : tyV σ 0 v2) (g3 : rng v3), K5 σ v1 v2 v3 → RG σ → TY σ → Ext σi σ → kO σ th 9 → JJ p l e R s m args below meth c 5 D cA A n0 s0 QM σ 5 [(0, .ref th), (1, va_rf v1), (2, va_rf v2), (3, .int (i32 v3))] []) : ∀ (σ : Sg) (v1 : Option Nat) (v2 : Option Nat) (v3 : Int) (g1 : tyV σ 10 v1) (g2 : tyV σ 0 v2) (g3 : rng v3), w_X9_sendRow_25 th K5 Q X σ v1 v2 v3 → RG σ → TY σ → Ext σi σ → kO σ th 9 → JJ p l e R s m args below meth c 5 D cA A n0 s0 QM σ 25 [(0, .ref th), (1, va_rf v1), (2, va_rf v2), (3, .int (i32 v3))] [] := by
  intro σ v1 v2 v3 g1 g2 g3 h hGσ hYσ hE hth H locs ls hH hl hc
  have B := K.1
  have hl9 := K.2.2.2.2.2.2
  unfold w_X9_sendRow_25 at h
  refine lv_aload_n B.1 B.2.1 dX9_sendRow_25 rfl (lv_at hl 0 rfl) ?_
  refine f_getp B hH hth (by decide) rfl wu_X9 0 (by decide) wf_X9_48 rfl rfl dX9_sendRow_26 ?_
  refine lv_aload_nQ B.1 B.2.1 dX9_sendRow_29 rfl (lv_at hl 2 rfl) ?_
  obtain ⟨a43, ea43, h⟩ := h
  have ka43 : kO σ a43 8 := (hYσ.get hth (by decide)) a43 ea43
  have h := h ka43
  refine W.eq (g2 := F0 m 30 ls [va_rf v2, .ref a43]) (by rw [ea43]; rfl) ?_
  refine c_V B hH hl hc K.2.2.1 (C := RX8) (T := TX8) (N := 3) (ci := 8) (As := [va_rf v2]) (ok_X8_copyOf hl9 K.2.1 σ a43 v2 g2 ka43 hGσ hYσ h) wc_X9_246 1 hd_X8_copyOf ⟨Nat.le_trans (Nat.le_of_ble_eq_true rfl) K.2.2.2.1, Nat.le_trans (Nat.le_of_ble_eq_true rfl) K.2.2.2.2.1⟩ ka43.1 ka43.2 (by decide) rfl rfl (rest := []) rfl (Nat.le_of_ble_eq_true rfl) dX9_sendRow_30 (fun σ41 w hq => ?_) (fun σ9 E9 hx9 => hX σ9 E9 _ _ _ (tb_out K.2.2.2.2.2.1 rfl) hx9.1 hx9.2.1 hx9.2.2.1 (hE.trans hx9.2.2.2))
  obtain ⟨r42, rfl, tr42, h, hGσ41, hYσ41, xσ41⟩ := hq
  have h := h xσ41 tr42
  intro H locs ls hH hl hc
  refine W.eq (g2 := F0 m 33 ls [va_rf r42]) (rfl) ?_
  try dsimp only at h
  refine lv_astoreQ (lv' := [(4, va_rf r42), (0, .ref th), (1, va_rf v1), (2, va_rf v2), (3, .int (i32 v3))]) B.1 B.2.1 dX9_sendRow_33 hl (by decide) rfl (fun ls hl => ?_)
  refine lv_aloadQ B.1 B.2.1 dX9_sendRow_35 (lv_at hl 0 rfl) ?_
  refine lv_iconst (v := i32 0) B.1 B.2.1 dX9_sendRow_37 (by decide) ?_
  obtain ⟨a44, ea44, h⟩ := h
  have ka44 : kO σ41 a44 0 := tr42 a44 ea44
  have h := h ka44
  obtain ⟨σ45, eσ45⟩ : ∃ z, z = pI σ41 a44 2 0 := ⟨_, rfl⟩
  have h := h σ45 eσ45
  refine W.eq (g2 := F0 m 38 ls [.int (i32 0), .ref a44]) (by rw [ea44]; rfl) ?_
  refine f_puti B hH ka44 (by decide) rfl wu_X0 tyX0 tyX0_ok nmX0 2 (by decide) wf_X9_291 rfl (ty := .int) rfl rfl rfl rfl rfl dX9_sendRow_38 (fun H locs hH => ?_)
  have hH : Hd D cA A s (pI σ41 a44 2 0) H locs := hH
  rw [← eσ45] at hH
  have hGσ45 : RG σ45 := by rw [eσ45]; exact hGσ41.pI (by unfold rng; omega)
  have hYσ45 : TY σ45 := by rw [eσ45]; exact hYσ41.pI
  have xσ45 : Ext σ41 σ45 := by rw [eσ45]; exact Ext.pI
  have hc : CB n0 s0 σ45 := by rw [eσ45]; exact hc
  rw [show gc σ41 = gc σ45 by rw [eσ45]; try rfl, show gs σ41 = gs σ45 by rw [eσ45]; try rfl]
  refine lv_aload_n B.1 B.2.1 dX9_sendRow_41 rfl (lv_at hl 1 rfl) ?_
  refine lv_aload_nQ B.1 B.2.1 dX9_sendRow_42 rfl (lv_at hl 2 rfl) ?_
  refine lv_iload_n B.1 B.2.1 dX9_sendRow_43 rfl (lv_at hl 4 rfl) ?_
  refine lv_aloadQ B.1 B.2.1 dX9_sendRow_44 (lv_at hl 0 rfl) ?_
  refine W.eq (g2 := F0 m 46 ls [va_rf r42, .int (i32 v3), va_rf v1, .ref th]) (rfl) ?_
  refine c_V B hH hl hc K.2.2.1 (C := RX9) (T := TX9) (N := 20) (ci := 9) (As := [va_rf v1, .int (i32 v3), va_rf r42]) (ok_X9_putInBox hl9 K.2.1 σ45 th v1 v3 r42 (g1.up (xσ41.trans xσ45)) g3 (tr42.up xσ45) (hth.up (xσ41.trans xσ45)) hGσ45 hYσ45 h) wc_X9_453 3 hd_X9_putInBox ⟨Nat.le_trans (Nat.le_of_ble_eq_true rfl) K.2.2.2.1, Nat.le_trans (Nat.le_of_ble_eq_true rfl) K.2.2.2.2.1⟩ (hth.up (xσ41.trans xσ45)).1 (hth.up (xσ41.trans xσ45)).2 (by decide) rfl rfl (rest := []) rfl (Nat.le_of_ble_eq_true rfl) dX9_sendRow_46 (fun σ46 w hq => ?_) (fun σ9 E9 hx9 => hX σ9 E9 _ _ _ (tb_out K.2.2.2.2.2.1 rfl) hx9.1 hx9.2.1 hx9.2.2.1 (((hE.trans xσ41).trans xσ45).trans hx9.2.2.2))
  obtain ⟨rfl, h, hGσ46, hYσ46, xσ46⟩ := hq
  have h := h xσ46
  intro H locs ls hH hl hc
  refine W.eq (g2 := F0 m 49 ls []) (rfl) ?_
  try dsimp only at h
  exact a_X9_sendRow_49 K hQ hX hTh hK5 _ _ _ _ (g1.up (xσ41.trans (xσ45.trans xσ46))) (g2.up (xσ41.trans (xσ45.trans xσ46))) g3 h hGσ46 hYσ46 (((hE.trans xσ41).trans xσ45).trans xσ46) (hth.up (xσ41.trans (xσ45.trans xσ46))) _ _ _ hH (lv_sub (l' := [(0, .ref th), (1, va_rf v1), (2, va_rf v2), (3, .int (i32 v3))]) hl [1, 2, 3, 4] rfl) hc
set_option maxRecDepth 20000 in
theorem a_X9_sendRow_10 {Q : Sg → Unit → Prop} {X : Sg → String → Prop} {th : Nat} (K : MD l R p s m args c cX9_sendRow 5 RX9 D cA tys A n0 s0 7 113 []) (hQ : CQV p l e R s m args below meth c cX9_sendRow D cA A n0 s0 QM σi Q) (hX : CX p l e R s m args below meth c 5 D cA A n0 s0 QM σi X) (hTh : CT p l e R s m args below meth c cX9_sendRow 5 D cA A n0 s0 QM σi RX9 X) {K5 : Sg → Option Nat → Option Nat → Int → Prop} (hK5 : ∀ (σ : Sg) (v1 : Option Nat) (v2 : Option Nat) (v3 : Int) (g1 : tyV σ 10 v1) (g2 : tyV σ 0 v2) (g3 : rng v3), K5 σ v1 v2 v3 → RG σ → TY σ → Ext σi σ → kO σ th 9 → JJ p l e R s m args below meth c 5 D cA A n0 s0 QM σ 5 [(0, .ref th), (1, va_rf v1), (2, va_rf v2), (3, .int (i32 v3))] []) : ∀ (σ : Sg) (v1 : Option Nat) (v2 : Option Nat) (v3 : Int) (g1 : tyV σ 10 v1) (g2 : tyV σ 0 v2) (g3 : rng v3), w_X9_sendRow_10 th K5 Q X σ v1 v2 v3 → RG σ → TY σ → Ext σi σ → kO σ th 9 → JJ p l e R s m args below meth c 5 D cA A n0 s0 QM σ 10 [(0, .ref th), (1, va_rf v1), (2, va_rf v2), (3, .int (i32 v3))] [] := by
  intro σ v1 v2 v3 g1 g2 g3 h hGσ hYσ hE hth H locs ls hH hl hc
  have B := K.1
  have hl9 := K.2.2.2.2.2.2
  unfold w_X9_sendRow_10 at h
  refine lv_aload_n B.1 B.2.1 dX9_sendRow_10 rfl (lv_at hl 0 rfl) ?_
  refine lv_aload_n B.1 B.2.1 dX9_sendRow_11 rfl (lv_at hl 0 rfl) ?_
  refine f_getp B hH hth (by decide) rfl wu_X9 4 (by decide) wf_X9_26 rfl rfl dX9_sendRow_12 ?_
  refine lv_iload_n B.1 B.2.1 dX9_sendRow_15 rfl (lv_at hl 3 rfl) ?_
  obtain ⟨a47, ea47, h⟩ := h
  have ka47 : kO σ a47 112 := (hYσ.get hth (by decide)) a47 ea47
  have h := h ka47
  obtain ⟨q1, h⟩ := h
  refine W.eq (g2 := F0 m 16 ls [.int (i32 v3), .ref a47, .ref th]) (by rw [ea47]; rfl) ?_
  refine y_aald B hH (t0 := 5) ka47 (by decide) K.2.1.2.2.1 q1 (hYσ.2 _) dX9_sendRow_16 ?_
  refine lv_aload_nQ B.1 B.2.1 dX9_sendRow_17 rfl (lv_at hl 1 rfl) ?_
  refine lv_aload_nQ B.1 B.2.1 dX9_sendRow_18 rfl (lv_at hl 2 rfl) ?_
  refine W.eq (g2 := F0 m 19 ls [va_rf v2, va_rf v1, va_rf (gP σ a47 v3.toNat), .ref th]) (rfl) ?_
  refine c_V B hH hl hc K.2.2.1 (C := RX9) (T := TX9) (N := 20) (ci := 9) (As := [va_rf (gP σ a47 v3.toNat), va_rf v1, va_rf v2]) (ok_X9_isFor hl9 K.2.1 σ th (gP σ a47 v3.toNat) v1 v2 (hYσ.get ka47 rfl) g1 g2 hth hGσ hYσ h) wc_X9_449 3 hd_X9_isFor ⟨Nat.le_trans (Nat.le_of_ble_eq_true rfl) K.2.2.2.1, Nat.le_trans (Nat.le_of_ble_eq_true rfl) K.2.2.2.2.1⟩ hth.1 hth.2 (by decide) rfl rfl (rest := []) rfl (Nat.le_of_ble_eq_true rfl) dX9_sendRow_19 (fun σ48 w hq => ?_) (fun σ9 E9 hx9 => hX σ9 E9 _ _ _ (tb_out K.2.2.2.2.2.1 rfl) hx9.1 hx9.2.1 hx9.2.2.1 (hE.trans hx9.2.2.2))
  obtain ⟨r49, rfl, ⟨gr49, gzr49⟩, h, hGσ48, hYσ48, xσ48⟩ := hq
  have h := h xσ48
  intro H locs ls hH hl hc
  refine W.eq (g2 := F0 m 22 ls [.int (i32 r49)]) (rfl) ?_
  try dsimp only at h
  refine lv_if_eq (tgt := 49) B.1 B.2.1 dX9_sendRow_22 (by decide) (fun h9 => ?_) (fun h9 => ?_)
  · rw [if_pos ((z_eq gr49).mp h9)] at h
    exact a_X9_sendRow_49 K hQ hX hTh hK5 _ _ _ _ (g1.up xσ48) (g2.up xσ48) g3 h hGσ48 hYσ48 (hE.trans xσ48) (hth.up xσ48) _ _ _ hH (lv_sub (l' := [(0, .ref th), (1, va_rf v1), (2, va_rf v2), (3, .int (i32 v3))]) hl [0, 1, 2, 3] rfl) hc
  · rw [if_neg (fun q => h9 ((z_eq gr49).mpr q))] at h
    exact a_X9_sendRow_25 K hQ hX hTh hK5 _ _ _ _ (g1.up xσ48) (g2.up xσ48) g3 h hGσ48 hYσ48 (hE.trans xσ48) (hth.up xσ48) _ _ _ hH (lv_sub (l' := [(0, .ref th), (1, va_rf v1), (2, va_rf v2), (3, .int (i32 v3))]) hl [0, 1, 2, 3] rfl) hc
set_option maxRecDepth 20000 in
theorem a_X9_sendRow_5 {Q : Sg → Unit → Prop} {X : Sg → String → Prop} {th : Nat} (K : MD l R p s m args c cX9_sendRow 5 RX9 D cA tys A n0 s0 7 113 []) (hQ : CQV p l e R s m args below meth c cX9_sendRow D cA A n0 s0 QM σi Q) (hX : CX p l e R s m args below meth c 5 D cA A n0 s0 QM σi X) (hTh : CT p l e R s m args below meth c cX9_sendRow 5 D cA A n0 s0 QM σi RX9 X) {K5 : Sg → Option Nat → Option Nat → Int → Prop} (hK5 : ∀ (σ : Sg) (v1 : Option Nat) (v2 : Option Nat) (v3 : Int) (g1 : tyV σ 10 v1) (g2 : tyV σ 0 v2) (g3 : rng v3), K5 σ v1 v2 v3 → RG σ → TY σ → Ext σi σ → kO σ th 9 → JJ p l e R s m args below meth c 5 D cA A n0 s0 QM σ 5 [(0, .ref th), (1, va_rf v1), (2, va_rf v2), (3, .int (i32 v3))] []) : ∀ (σ : Sg) (v1 : Option Nat) (v2 : Option Nat) (v3 : Int) (g1 : tyV σ 10 v1) (g2 : tyV σ 0 v2) (g3 : rng v3), w_X9_sendRow_5 th K5 Q X σ v1 v2 v3 → RG σ → TY σ → Ext σi σ → kO σ th 9 → JJ p l e R s m args below meth c 5 D cA A n0 s0 QM σ 5 [(0, .ref th), (1, va_rf v1), (2, va_rf v2), (3, .int (i32 v3))] [] := by
  intro σ v1 v2 v3 g1 g2 g3 h hGσ hYσ hE hth H locs ls hH hl hc
  have B := K.1
  have hl9 := K.2.2.2.2.2.2
  unfold w_X9_sendRow_5 at h
  refine lv_iload_n B.1 B.2.1 dX9_sendRow_5 rfl (lv_at hl 3 rfl) ?_
  refine lv_iconst (v := i32 (-1)) B.1 B.2.1 dX9_sendRow_6 (by decide) ?_
  refine lv_icmp_eq (tgt := 62) B.1 B.2.1 dX9_sendRow_7 (by decide) (fun h9 => ?_) (fun h9 => ?_)
  · rw [if_pos ((i32_eq g3 (by unfold rng; omega)).mp h9)] at h
    exact a_X9_sendRow_62 K hQ hX hTh _ _ _ g1 g2 h hGσ hYσ hE hth _ _ _ hH (lv_sub (l' := [(0, .ref th), (1, va_rf v1), (2, va_rf v2)]) hl [0, 1, 2] rfl) hc
  · rw [if_neg (fun q => h9 ((i32_eq g3 (by unfold rng; omega)).mpr q))] at h
    exact a_X9_sendRow_10 K hQ hX hTh hK5 _ _ _ _ g1 g2 g3 h hGσ hYσ hE hth _ _ _ hH (lv_sub (l' := [(0, .ref th), (1, va_rf v1), (2, va_rf v2), (3, .int (i32 v3))]) hl [0, 1, 2, 3] rfl) hc
theorem al_X9_sendRow_5 {Q : Sg → Unit → Prop} {X : Sg → String → Prop} {th : Nat} (K : MD l R p s m args c cX9_sendRow 5 RX9 D cA tys A n0 s0 7 113 []) (hQ : CQV p l e R s m args below meth c cX9_sendRow D cA A n0 s0 QM σi Q) (hX : CX p l e R s m args below meth c 5 D cA A n0 s0 QM σi X) (hTh : CT p l e R s m args below meth c cX9_sendRow 5 D cA A n0 s0 QM σi RX9 X) : ∀ (n : Nat), ∀ (σ : Sg) (v1 : Option Nat) (v2 : Option Nat) (v3 : Int) (g1 : tyV σ 10 v1) (g2 : tyV σ 0 v2) (g3 : rng v3), wl_X9_sendRow_5 th Q X n σ v1 v2 v3 → RG σ → TY σ → Ext σi σ → kO σ th 9 → JJ p l e R s m args below meth c 5 D cA A n0 s0 QM σ 5 [(0, .ref th), (1, va_rf v1), (2, va_rf v2), (3, .int (i32 v3))] [] := by
  intro n
  induction n with
  | zero => intro σ v1 v2 v3 g1 g2 g3 h; exact h.elim
  | succ n ih => exact fun σ v1 v2 v3 g1 g2 g3 h => a_X9_sendRow_5 K hQ hX hTh ih σ v1 v2 v3 g1 g2 g3 h
set_option maxRecDepth 20000 in
theorem a_X9_sendRow_0 {Q : Sg → Unit → Prop} {X : Sg → String → Prop} {th : Nat} (K : MD l R p s m args c cX9_sendRow 5 RX9 D cA tys A n0 s0 7 113 []) (hQ : CQV p l e R s m args below meth c cX9_sendRow D cA A n0 s0 QM σi Q) (hX : CX p l e R s m args below meth c 5 D cA A n0 s0 QM σi X) (hTh : CT p l e R s m args below meth c cX9_sendRow 5 D cA A n0 s0 QM σi RX9 X) : ∀ (σ : Sg) (v1 : Option Nat) (v2 : Option Nat) (g1 : tyV σ 10 v1) (g2 : tyV σ 0 v2), w_X9_sendRow_0 th Q X σ v1 v2 → RG σ → TY σ → Ext σi σ → kO σ th 9 → JJ p l e R s m args below meth c 5 D cA A n0 s0 QM σ 0 [(0, .ref th), (1, va_rf v1), (2, va_rf v2)] [] := by
  intro σ v1 v2 g1 g2 h hGσ hYσ hE hth H locs ls hH hl hc
  have B := K.1
  have hl9 := K.2.2.2.2.2.2
  unfold w_X9_sendRow_0 at h
  refine lv_aload_nQ B.1 B.2.1 dX9_sendRow_0 rfl (lv_at hl 1 rfl) ?_
  obtain ⟨a50, ea50, h⟩ := h
  have ka50 : kO σ a50 10 := g1 a50 ea50
  have h := h ka50
  refine W.eq (g2 := F0 m 1 ls [.ref a50]) (by rw [ea50]; rfl) ?_
  refine f_geti B hH ka50 (by decide) rfl wu_X10 14 (by decide) wf_X9_211 rfl rfl dX9_sendRow_1 ?_
  refine lv_istore_n (lv' := [(3, .int (i32 (gI σ a50 14))), (0, .ref th), (1, va_rf v1), (2, va_rf v2)]) B.1 B.2.1 dX9_sendRow_4 rfl hl (by decide) (by generalize v2 = w9; cases w9 <;> rfl) (fun ls hl => ?_)
  obtain ⟨n9, h⟩ := h
  exact al_X9_sendRow_5 K hQ hX hTh n9 _ _ _ _ g1 g2 (hGσ _ _) h hGσ hYσ hE hth _ _ _ hH (lv_sub (l' := [(0, .ref th), (1, va_rf v1), (2, va_rf v2), (3, .int (i32 (gI σ a50 14)))]) hl [1, 2, 3, 0] rfl) hc
theorem ok_X9_sendRow (hl0 : l.stackTraces = false) (hT : TyC cA tys) {Q : Sg → Unit → Prop} {X : Sg → String → Prop} (σ : Sg) (th : Nat) (v1 : Option Nat) (v2 : Option Nat) (g1 : tyV σ 10 v1) (g2 : tyV σ 0 v2) (hth : kO σ th 9) (hG : RG σ) (hY : TY σ) (h : wp_X9_sendRow th v1 v2 σ Q X) : Ok l D cA tys A yX9_sendRow (.code yX9_sendRow cX9_sendRow 5 none) 7 113 [.ref th, va_rf v1, va_rf v2] σ (QcV σ Q) (QxC σ X) := by
  unfold wp_X9_sendRow at h
  exact oc_V hl0 (by decide) (by cases v1 <;> cases v2 <;> exact Nat.le_of_ble_eq_true rfl) hT (fun p e R s m args below meth c K hQ hX hTh hin9 H locs ls hH hl hc => a_X9_sendRow_0 K hQ hX hTh σ v1 v2 g1 g2 h hG hY (Ext.rfl' σ) hth H locs ls hH (lv_sub (l' := [(0, .ref th), (1, va_rf v1), (2, va_rf v2)]) hl [0, 1, 2] (by cases v1 <;> cases v2 <;> rfl)) hc)
theorem dX9_readRow_0 : decode cX9_readRow 0 = .ok (.aload_n 1, 1) := by decide +kernel
theorem dX9_readRow_1 : decode cX9_readRow 1 = .ok (.getfield 227, 3) := by decide +kernel
theorem dX9_readRow_4 : decode cX9_readRow 4 = .ok (.istore_n 3, 1) := by decide +kernel
theorem dX9_readRow_5 : decode cX9_readRow 5 = .ok (.aload_n 1, 1) := by decide +kernel
theorem dX9_readRow_6 : decode cX9_readRow 6 = .ok (.dup, 1) := by decide +kernel
theorem dX9_readRow_7 : decode cX9_readRow 7 = .ok (.getfield 227, 3) := by decide +kernel
theorem dX9_readRow_10 : decode cX9_readRow 10 = .ok (.iconst 1, 1) := by decide +kernel
theorem dX9_readRow_11 : decode cX9_readRow 11 = .ok (.iadd, 1) := by decide +kernel
theorem dX9_readRow_12 : decode cX9_readRow 12 = .ok (.putfield 227, 3) := by decide +kernel
theorem dX9_readRow_15 : decode cX9_readRow 15 = .ok (.aload_n 1, 1) := by decide +kernel
theorem dX9_readRow_16 : decode cX9_readRow 16 = .ok (.dup, 1) := by decide +kernel
theorem dX9_readRow_17 : decode cX9_readRow 17 = .ok (.getfield 261, 3) := by decide +kernel
theorem dX9_readRow_20 : decode cX9_readRow 20 = .ok (.iconst 1, 1) := by decide +kernel
theorem dX9_readRow_21 : decode cX9_readRow 21 = .ok (.iadd, 1) := by decide +kernel
theorem dX9_readRow_22 : decode cX9_readRow 22 = .ok (.putfield 261, 3) := by decide +kernel
theorem dX9_readRow_25 : decode cX9_readRow 25 = .ok (.aload_n 0, 1) := by decide +kernel
theorem dX9_readRow_26 : decode cX9_readRow 26 = .ok (.getfield 100, 3) := by decide +kernel
theorem dX9_readRow_29 : decode cX9_readRow 29 = .ok (.getfield 372, 3) := by decide +kernel
theorem dX9_readRow_32 : decode cX9_readRow 32 = .ok (.aload_n 2, 1) := by decide +kernel
theorem dX9_readRow_33 : decode cX9_readRow 33 = .ok (.getfield 359, 3) := by decide +kernel
theorem dX9_readRow_36 : decode cX9_readRow 36 = .ok (.aaload, 1) := by decide +kernel
theorem dX9_readRow_37 : decode cX9_readRow 37 = .ok (.iload_n 3, 1) := by decide +kernel
theorem dX9_readRow_38 : decode cX9_readRow 38 = .ok (.iconst 5, 1) := by decide +kernel
theorem dX9_readRow_39 : decode cX9_readRow 39 = .ok (.imul, 1) := by decide +kernel
theorem dX9_readRow_40 : decode cX9_readRow 40 = .ok (.laload, 1) := by decide +kernel
theorem dX9_readRow_41 : decode cX9_readRow 41 = .ok (.aload_n 1, 1) := by decide +kernel
theorem dX9_readRow_42 : decode cX9_readRow 42 = .ok (.getfield 127, 3) := by decide +kernel
theorem dX9_readRow_45 : decode cX9_readRow 45 = .ok (.lcmp, 1) := by decide +kernel
theorem dX9_readRow_46 : decode cX9_readRow 46 = .ok (.ifCond .gt 14, 3) := by decide +kernel
theorem dX9_readRow_49 : decode cX9_readRow 49 = .ok (.aload_n 1, 1) := by decide +kernel
theorem dX9_readRow_50 : decode cX9_readRow 50 = .ok (.dup, 1) := by decide +kernel
theorem dX9_readRow_51 : decode cX9_readRow 51 = .ok (.getfield 224, 3) := by decide +kernel
theorem dX9_readRow_54 : decode cX9_readRow 54 = .ok (.iconst 1, 1) := by decide +kernel
theorem dX9_readRow_55 : decode cX9_readRow 55 = .ok (.iadd, 1) := by decide +kernel
theorem dX9_readRow_56 : decode cX9_readRow 56 = .ok (.putfield 224, 3) := by decide +kernel
theorem dX9_readRow_59 : decode cX9_readRow 59 = .ok (.return_, 1) := by decide +kernel
theorem dX9_readRow_60 : decode cX9_readRow 60 = .ok (.aload_n 0, 1) := by decide +kernel
theorem dX9_readRow_61 : decode cX9_readRow 61 = .ok (.getfield 48, 3) := by decide +kernel
theorem dX9_readRow_64 : decode cX9_readRow 64 = .ok (.aload_n 2, 1) := by decide +kernel
theorem dX9_readRow_65 : decode cX9_readRow 65 = .ok (.getfield 359, 3) := by decide +kernel
theorem dX9_readRow_68 : decode cX9_readRow 68 = .ok (.iload_n 3, 1) := by decide +kernel
theorem dX9_readRow_69 : decode cX9_readRow 69 = .ok (.invokevirtual 376, 3) := by decide +kernel
theorem dX9_readRow_72 : decode cX9_readRow 72 = .ok (.istore 4, 2) := by decide +kernel
theorem dX9_readRow_74 : decode cX9_readRow 74 = .ok (.aload_n 0, 1) := by decide +kernel
theorem dX9_readRow_75 : decode cX9_readRow 75 = .ok (.getfield 48, 3) := by decide +kernel
theorem dX9_readRow_78 : decode cX9_readRow 78 = .ok (.invokevirtual 380, 3) := by decide +kernel
theorem dX9_readRow_81 : decode cX9_readRow 81 = .ok (.astore 5, 2) := by decide +kernel
theorem dX9_readRow_83 : decode cX9_readRow 83 = .ok (.aload 5, 2) := by decide +kernel
theorem dX9_readRow_85 : decode cX9_readRow 85 = .ok (.iload 4, 2) := by decide +kernel
theorem dX9_readRow_87 : decode cX9_readRow 87 = .ok (.putfield 383, 3) := by decide +kernel
theorem dX9_readRow_90 : decode cX9_readRow 90 = .ok (.aload_n 0, 1) := by decide +kernel
theorem dX9_readRow_91 : decode cX9_readRow 91 = .ok (.getfield 100, 3) := by decide +kernel
theorem dX9_readRow_94 : decode cX9_readRow 94 = .ok (.aload 5, 2) := by decide +kernel
theorem dX9_readRow_96 : decode cX9_readRow 96 = .ok (.aload_n 2, 1) := by decide +kernel
theorem dX9_readRow_97 : decode cX9_readRow 97 = .ok (.getfield 359, 3) := by decide +kernel
theorem dX9_readRow_100 : decode cX9_readRow 100 = .ok (.iload_n 3, 1) := by decide +kernel
theorem dX9_readRow_101 : decode cX9_readRow 101 = .ok (.invokevirtual 386, 3) := by decide +kernel
theorem dX9_readRow_104 : decode cX9_readRow 104 = .ok (.aload 5, 2) := by decide +kernel
theorem dX9_readRow_106 : decode cX9_readRow 106 = .ok (.getfield 311, 3) := by decide +kernel
theorem dX9_readRow_109 : decode cX9_readRow 109 = .ok (.aload_n 2, 1) := by decide +kernel
theorem dX9_readRow_110 : decode cX9_readRow 110 = .ok (.getfield 390, 3) := by decide +kernel
theorem dX9_readRow_113 : decode cX9_readRow 113 = .ok (.i2l, 1) := by decide +kernel
theorem dX9_readRow_114 : decode cX9_readRow 114 = .ok (.lsub, 1) := by decide +kernel
theorem dX9_readRow_115 : decode cX9_readRow 115 = .ok (.lconst 1, 1) := by decide +kernel
theorem dX9_readRow_116 : decode cX9_readRow 116 = .ok (.lsub, 1) := by decide +kernel
theorem dX9_readRow_117 : decode cX9_readRow 117 = .ok (.lstore 6, 2) := by decide +kernel
theorem dX9_readRow_119 : decode cX9_readRow 119 = .ok (.aload_n 0, 1) := by decide +kernel
theorem dX9_readRow_120 : decode cX9_readRow 120 = .ok (.aload_n 1, 1) := by decide +kernel
theorem dX9_readRow_121 : decode cX9_readRow 121 = .ok (.aload 5, 2) := by decide +kernel
theorem dX9_readRow_123 : decode cX9_readRow 123 = .ok (.invokevirtual 393, 3) := by decide +kernel
theorem dX9_readRow_126 : decode cX9_readRow 126 = .ok (.lload 6, 2) := by decide +kernel
theorem dX9_readRow_128 : decode cX9_readRow 128 = .ok (.aload_n 1, 1) := by decide +kernel
theorem dX9_readRow_129 : decode cX9_readRow 129 = .ok (.getfield 127, 3) := by decide +kernel
theorem dX9_readRow_132 : decode cX9_readRow 132 = .ok (.lcmp, 1) := by decide +kernel
theorem dX9_readRow_133 : decode cX9_readRow 133 = .ok (.ifCond .le 17, 3) := by decide +kernel
theorem dX9_readRow_136 : decode cX9_readRow 136 = .ok (.aload_n 1, 1) := by decide +kernel
theorem dX9_readRow_137 : decode cX9_readRow 137 = .ok (.lload 6, 2) := by decide +kernel
theorem dX9_readRow_139 : decode cX9_readRow 139 = .ok (.putfield 127, 3) := by decide +kernel
theorem dX9_readRow_142 : decode cX9_readRow 142 = .ok (.aload_n 0, 1) := by decide +kernel
theorem dX9_readRow_143 : decode cX9_readRow 143 = .ok (.aload_n 1, 1) := by decide +kernel
theorem dX9_readRow_144 : decode cX9_readRow 144 = .ok (.iconst 1, 1) := by decide +kernel
theorem dX9_readRow_145 : decode cX9_readRow 145 = .ok (.lload 6, 2) := by decide +kernel
theorem dX9_readRow_147 : decode cX9_readRow 147 = .ok (.invokevirtual 134, 3) := by decide +kernel
theorem dX9_readRow_150 : decode cX9_readRow 150 = .ok (.return_, 1) := by decide +kernel
set_option maxRecDepth 20000 in
theorem a_X9_readRow_150 {Q : Sg → Unit → Prop} {X : Sg → String → Prop} {th : Nat} (K : MD l R p s m args c cX9_readRow 8 RX9 D cA tys A n0 s0 8 139 []) (hQ : CQV p l e R s m args below meth c cX9_readRow D cA A n0 s0 QM σi Q) (hX : CX p l e R s m args below meth c 8 D cA A n0 s0 QM σi X) (hTh : CT p l e R s m args below meth c cX9_readRow 8 D cA A n0 s0 QM σi RX9 X) : ∀ (σ : Sg), w_X9_readRow_150 th Q X σ → RG σ → TY σ → Ext σi σ → kO σ th 9 → JJ p l e R s m args below meth c 8 D cA A n0 s0 QM σ 150 [(0, .ref th)] [] := by
  intro σ h hGσ hYσ hE hth H locs ls hH hl hc
  have B := K.1
  have hl9 := K.2.2.2.2.2.2
  unfold w_X9_readRow_150 at h
  exact hQ _ _ _ _ _ dX9_readRow_150 hH hc h hGσ hYσ hE
set_option maxRecDepth 20000 in
theorem a_X9_readRow_136 {Q : Sg → Unit → Prop} {X : Sg → String → Prop} {th : Nat} (K : MD l R p s m args c cX9_readRow 8 RX9 D cA tys A n0 s0 8 139 []) (hQ : CQV p l e R s m args below meth c cX9_readRow D cA A n0 s0 QM σi Q) (hX : CX p l e R s m args below meth c 8 D cA A n0 s0 QM σi X) (hTh : CT p l e R s m args below meth c cX9_readRow 8 D cA A n0 s0 QM σi RX9 X) : ∀ (σ : Sg) (v1 : Option Nat) (v6 : Int64) (g1 : tyV σ 10 v1), w_X9_readRow_136 th Q X σ v1 v6 → RG σ → TY σ → Ext σi σ → kO σ th 9 → JJ p l e R s m args below meth c 8 D cA A n0 s0 QM σ 136 [(0, .ref th), (1, va_rf v1), (6, .long v6)] [] := by
  intro σ v1 v6 g1 h hGσ hYσ hE hth H locs ls hH hl hc
  have B := K.1
  have hl9 := K.2.2.2.2.2.2
  unfold w_X9_readRow_136 at h
  refine lv_aload_nQ B.1 B.2.1 dX9_readRow_136 rfl (lv_at hl 1 rfl) ?_
  refine lv_lload B.1 B.2.1 dX9_readRow_137 (lv_at hl 2 rfl) ?_
  obtain ⟨a51, ea51, h⟩ := h
  have ka51 : kO σ a51 10 := g1 a51 ea51
  have h := h ka51
  obtain ⟨σ52, eσ52⟩ : ∃ z, z = pJ σ a51 7 v6 := ⟨_, rfl⟩
  have h := h σ52 eσ52
  refine W.eq (g2 := F0 m 139 ls [.long v6, .ref a51]) (by rw [ea51]; rfl) ?_
  refine f_putl B hH ka51 (by decide) rfl wu_X10 tyX10 tyX10_ok nmX10 7 (by decide) wf_X9_127 rfl (ty := .long) rfl rfl rfl rfl rfl dX9_readRow_139 (fun H locs hH => ?_)
  have hH : Hd D cA A s (pJ σ a51 7 v6) H locs := hH
  rw [← eσ52] at hH
  have hGσ52 : RG σ52 := by rw [eσ52]; exact hGσ.pJ
  have hYσ52 : TY σ52 := by rw [eσ52]; exact hYσ.pJ
  have xσ52 : Ext σ σ52 := by rw [eσ52]; exact Ext.pJ
  have hc : CB n0 s0 σ52 := by rw [eσ52]; exact hc
  rw [show gc σ = gc σ52 by rw [eσ52]; try rfl, show gs σ = gs σ52 by rw [eσ52]; try rfl]
  refine lv_aload_n B.1 B.2.1 dX9_readRow_142 rfl (lv_at hl 0 rfl) ?_
  refine lv_aload_nQ B.1 B.2.1 dX9_readRow_143 rfl (lv_at hl 1 rfl) ?_
  refine lv_iconst (v := i32 1) B.1 B.2.1 dX9_readRow_144 (by decide) ?_
  refine lv_lload B.1 B.2.1 dX9_readRow_145 (lv_at hl 2 rfl) ?_
  refine W.eq (g2 := F0 m 147 ls [.long v6, .int (i32 1), va_rf v1, .ref th]) (rfl) ?_
  refine c_V B hH hl hc K.2.2.1 (C := RX9) (T := TX9) (N := 20) (ci := 9) (As := [va_rf v1, .int (i32 1), .long v6]) (ok_X9_sendToAll hl9 K.2.1 σ52 th v1 1 v6 (g1.up xσ52) (by unfold rng; omega) (hth.up xσ52) hGσ52 hYσ52 h) wc_X9_134 3 hd_X9_sendToAll ⟨Nat.le_trans (Nat.le_of_ble_eq_true rfl) K.2.2.2.1, Nat.le_trans (Nat.le_of_ble_eq_true rfl) K.2.2.2.2.1⟩ (hth.up xσ52).1 (hth.up xσ52).2 (by decide) rfl rfl (rest := []) rfl (Nat.le_of_ble_eq_true rfl) dX9_readRow_147 (fun σ53 w hq => ?_) (fun σ9 E9 hx9 => hX σ9 E9 _ _ _ (tb_out K.2.2.2.2.2.1 rfl) hx9.1 hx9.2.1 hx9.2.2.1 ((hE.trans xσ52).trans hx9.2.2.2))
  obtain ⟨rfl, h, hGσ53, hYσ53, xσ53⟩ := hq
  have h := h xσ53
  intro H locs ls hH hl hc
  refine W.eq (g2 := F0 m 150 ls []) (rfl) ?_
  try dsimp only at h
  exact a_X9_readRow_150 K hQ hX hTh _ h hGσ53 hYσ53 ((hE.trans xσ52).trans xσ53) (hth.up (xσ52.trans xσ53)) _ _ _ hH (lv_sub (l' := [(0, .ref th)]) hl [0] rfl) hc
set_option maxRecDepth 20000 in
theorem a_X9_readRow_60 {Q : Sg → Unit → Prop} {X : Sg → String → Prop} {th : Nat} (K : MD l R p s m args c cX9_readRow 8 RX9 D cA tys A n0 s0 8 139 []) (hQ : CQV p l e R s m args below meth c cX9_readRow D cA A n0 s0 QM σi Q) (hX : CX p l e R s m args below meth c 8 D cA A n0 s0 QM σi X) (hTh : CT p l e R s m args below meth c cX9_readRow 8 D cA A n0 s0 QM σi RX9 X) : ∀ (σ : Sg) (v1 : Option Nat) (v2 : Option Nat) (v3 : Int) (g1 : tyV σ 10 v1) (g2 : tyV σ 5 v2) (g3 : rng v3), w_X9_readRow_60 th Q X σ v1 v2 v3 → RG σ → TY σ → Ext σi σ → kO σ th 9 → JJ p l e R s m args below meth c 8 D cA A n0 s0 QM σ 60 [(0, .ref th), (1, va_rf v1), (2, va_rf v2), (3, .int (i32 v3))] [] := by
  intro σ v1 v2 v3 g1 g2 g3 h hGσ hYσ hE hth H locs ls hH hl hc
  have B := K.1
  have hl9 := K.2.2.2.2.2.2
  unfold w_X9_readRow_60 at h
  refine lv_aload_n B.1 B.2.1 dX9_readRow_60 rfl (lv_at hl 0 rfl) ?_
  refine f_getp B hH hth (by decide) rfl wu_X9 0 (by decide) wf_X9_48 rfl rfl dX9_readRow_61 ?_
  refine lv_aload_nQ B.1 B.2.1 dX9_readRow_64 rfl (lv_at hl 2 rfl) ?_
  obtain ⟨a54, ea54, h⟩ := h
  have ka54 : kO σ a54 5 := g2 a54 ea54
  have h := h ka54
  refine W.eq (g2 := F0 m 65 ls [.ref a54, va_rf (gP σ th 0)]) (by rw [ea54]; rfl) ?_
  refine f_geti B hH ka54 (by decide) rfl wu_X5 9 (by decide) wf_X9_359 rfl rfl dX9_readRow_65 ?_
  refine lv_iload_n B.1 B.2.1 dX9_readRow_68 rfl (lv_at hl 3 rfl) ?_
  obtain ⟨a57, ea57, h⟩ := h
  have ka57 : kO σ a57 8 := (hYσ.get hth (by decide)) a57 ea57
  have h := h ka57
  refine W.eq (g2 := F0 m 69 ls [.int (i32 v3), .int (i32 (gI σ a54 9)), .ref a57]) (by rw [ea57]; rfl) ?_
  refine c_V B hH hl hc K.2.2.1 (C := RX8) (T := TX8) (N := 3) (ci := 8) (As := [.int (i32 (gI σ a54 9)), .int (i32 v3)]) (ok_X8_setOfRow hl9 K.2.1 σ a57 (gI σ a54 9) v3 (hGσ _ _) g3 ka57 hGσ hYσ h) wc_X9_376 2 hd_X8_setOfRow ⟨Nat.le_trans (Nat.le_of_ble_eq_true rfl) K.2.2.2.1, Nat.le_trans (Nat.le_of_ble_eq_true rfl) K.2.2.2.2.1⟩ ka57.1 ka57.2 (by decide) rfl rfl (rest := []) rfl (Nat.le_of_ble_eq_true rfl) dX9_readRow_69 (fun σ55 w hq => ?_) (fun σ9 E9 hx9 => hX σ9 E9 _ _ _ (tb_out K.2.2.2.2.2.1 rfl) hx9.1 hx9.2.1 hx9.2.2.1 (hE.trans hx9.2.2.2))
  obtain ⟨r56, rfl, gr56, h, hGσ55, hYσ55, xσ55⟩ := hq
  have h := h xσ55
  intro H locs ls hH hl hc
  refine W.eq (g2 := F0 m 72 ls [.int (i32 r56)]) (rfl) ?_
  try dsimp only at h
  refine lv_istore (lv' := [(4, .int (i32 r56)), (0, .ref th), (1, va_rf v1), (2, va_rf v2), (3, .int (i32 v3))]) B.1 B.2.1 dX9_readRow_72 hl (by decide) rfl (fun ls hl => ?_)
  refine lv_aload_n B.1 B.2.1 dX9_readRow_74 rfl (lv_at hl 1 rfl) ?_
  refine f_getp B hH (hth.up xσ55) (by decide) rfl wu_X9 0 (by decide) wf_X9_48 rfl rfl dX9_readRow_75 ?_
  obtain ⟨a60, ea60, h⟩ := h
  have ka60 : kO σ55 a60 8 := (hYσ55.get (hth.up xσ55) (by decide)) a60 ea60
  have h := h ka60
  refine W.eq (g2 := F0 m 78 ls [.ref a60]) (by rw [ea60]; rfl) ?_
  refine c_V B hH hl hc K.2.2.1 (C := RX8) (T := TX8) (N := 3) (ci := 8) (As := []) (ok_X8_fresh hl9 K.2.1 σ55 a60 ka60 hGσ55 hYσ55 h) wc_X9_380 0 hd_X8_fresh ⟨Nat.le_trans (Nat.le_of_ble_eq_true rfl) K.2.2.2.1, Nat.le_trans (Nat.le_of_ble_eq_true rfl) K.2.2.2.2.1⟩ ka60.1 ka60.2 (by decide) rfl rfl (rest := []) rfl (Nat.le_of_ble_eq_true rfl) dX9_readRow_78 (fun σ58 w hq => ?_) (fun σ9 E9 hx9 => hX σ9 E9 _ _ _ (tb_out K.2.2.2.2.2.1 rfl) hx9.1 hx9.2.1 hx9.2.2.1 ((hE.trans xσ55).trans hx9.2.2.2))
  obtain ⟨r59, rfl, tr59, h, hGσ58, hYσ58, xσ58⟩ := hq
  have h := h xσ58 tr59
  intro H locs ls hH hl hc
  refine W.eq (g2 := F0 m 81 ls [va_rf r59]) (rfl) ?_
  try dsimp only at h
  refine lv_astoreQ (lv' := [(5, va_rf r59), (4, .int (i32 r56)), (0, .ref th), (1, va_rf v1), (2, va_rf v2), (3, .int (i32 v3))]) B.1 B.2.1 dX9_readRow_81 hl (by decide) rfl (fun ls hl => ?_)
  refine lv_aloadQ B.1 B.2.1 dX9_readRow_83 (lv_at hl 0 rfl) ?_
  refine lv_iload B.1 B.2.1 dX9_readRow_85 (lv_at hl 1 rfl) ?_
  obtain ⟨a61, ea61, h⟩ := h
  have ka61 : kO σ58 a61 0 := tr59 a61 ea61
  have h := h ka61
  obtain ⟨σ62, eσ62⟩ : ∃ z, z = pI σ58 a61 4 r56 := ⟨_, rfl⟩
  have h := h σ62 eσ62
  refine W.eq (g2 := F0 m 87 ls [.int (i32 r56), .ref a61]) (by rw [ea61]; rfl) ?_
  refine f_puti B hH ka61 (by decide) rfl wu_X0 tyX0 tyX0_ok nmX0 4 (by decide) wf_X9_383 rfl (ty := .int) rfl rfl rfl rfl rfl dX9_readRow_87 (fun H locs hH => ?_)
  have hH : Hd D cA A s (pI σ58 a61 4 r56) H locs := hH
  rw [← eσ62] at hH
  have hGσ62 : RG σ62 := by rw [eσ62]; exact hGσ58.pI gr56
  have hYσ62 : TY σ62 := by rw [eσ62]; exact hYσ58.pI
  have xσ62 : Ext σ58 σ62 := by rw [eσ62]; exact Ext.pI
  have hc : CB n0 s0 σ62 := by rw [eσ62]; exact hc
  rw [show gc σ58 = gc σ62 by rw [eσ62]; try rfl, show gs σ58 = gs σ62 by rw [eσ62]; try rfl]
  refine lv_aload_n B.1 B.2.1 dX9_readRow_90 rfl (lv_at hl 2 rfl) ?_
  refine f_getp B hH (hth.up (xσ55.trans (xσ58.trans xσ62))) (by decide) rfl wu_X9 9 (by decide) wf_X9_100 rfl rfl dX9_readRow_91 ?_
  refine lv_aloadQ B.1 B.2.1 dX9_readRow_94 (lv_at hl 0 rfl) ?_
  refine lv_aload_nQ B.1 B.2.1 dX9_readRow_96 rfl (lv_at hl 4 rfl) ?_
  refine W.eq (g2 := F0 m 97 ls [.ref a54, va_rf r59, va_rf (gP σ62 th 9)]) (by rw [ea54]; rfl) ?_
  refine f_geti B hH (ka54.up (xσ55.trans (xσ58.trans xσ62))) (by decide) rfl wu_X5 9 (by decide) wf_X9_359 rfl rfl dX9_readRow_97 ?_
  refine lv_iload_n B.1 B.2.1 dX9_readRow_100 rfl (lv_at hl 5 rfl) ?_
  obtain ⟨a64, ea64, h⟩ := h
  have ka64 : kO σ62 a64 4 := (hYσ62.get (hth.up (xσ55.trans (xσ58.trans xσ62))) (by decide)) a64 ea64
  have h := h ka64
  refine W.eq (g2 := F0 m 101 ls [.int (i32 v3), .int (i32 (gI σ62 a54 9)), va_rf r59, .ref a64]) (by rw [ea64]; rfl) ?_
  refine c_V B hH hl hc K.2.2.1 (C := RX4) (T := TX4) (N := 14) (ci := 4) (As := [va_rf r59, .int (i32 (gI σ62 a54 9)), .int (i32 v3)]) (ok_X4_readInto hl9 K.2.1 σ62 a64 r59 (gI σ62 a54 9) v3 (tr59.up xσ62) (hGσ62 _ _) g3 ka64 hGσ62 hYσ62 h) wc_X9_386 3 hd_X4_readInto ⟨Nat.le_trans (Nat.le_of_ble_eq_true rfl) K.2.2.2.1, Nat.le_trans (Nat.le_of_ble_eq_true rfl) K.2.2.2.2.1⟩ ka64.1 ka64.2 (by decide) rfl rfl (rest := []) rfl (Nat.le_of_ble_eq_true rfl) dX9_readRow_101 (fun σ63 w hq => ?_) (fun σ9 E9 hx9 => hX σ9 E9 _ _ _ (tb_out K.2.2.2.2.2.1 rfl) hx9.1 hx9.2.1 hx9.2.2.1 ((((hE.trans xσ55).trans xσ58).trans xσ62).trans hx9.2.2.2))
  obtain ⟨rfl, h, hGσ63, hYσ63, xσ63⟩ := hq
  have h := h xσ63
  intro H locs ls hH hl hc
  refine W.eq (g2 := F0 m 104 ls []) (rfl) ?_
  try dsimp only at h
  refine lv_aloadQ B.1 B.2.1 dX9_readRow_104 (lv_at hl 0 rfl) ?_
  refine W.eq (g2 := F0 m 106 ls [.ref a61]) (by rw [ea61]; rfl) ?_
  refine f_getl B hH (ka61.up (xσ62.trans xσ63)) (by decide) rfl wu_X0 5 (by decide) wf_X9_311 rfl rfl dX9_readRow_106 ?_
  refine lv_aload_nQ B.1 B.2.1 dX9_readRow_109 rfl (lv_at hl 4 rfl) ?_
  refine W.eq (g2 := F0 m 110 ls [.ref a54, .long (gJ σ63 a61 5)]) (by rw [ea54]; rfl) ?_
  refine f_geti B hH (ka54.up (xσ55.trans (xσ58.trans (xσ62.trans xσ63)))) (by decide) rfl wu_X5 10 (by decide) wf_X9_390 rfl rfl dX9_readRow_110 ?_
  refine lv_i2l B.1 B.2.1 dX9_readRow_113 (i32_i64 (hGσ63 _ _)) ?_
  refine lv_lsub B.1 B.2.1 dX9_readRow_114 ?_
  refine lv_lconst (v := 1) B.1 B.2.1 dX9_readRow_115 (by decide) ?_
  refine lv_lsub B.1 B.2.1 dX9_readRow_116 ?_
  refine lv_lstore (lv' := [(6, .long ((gJ σ63 a61 5 - (Int64.ofInt (gI σ63 a54 10))) - 1)), (5, va_rf r59), (4, .int (i32 r56)), (0, .ref th), (1, va_rf v1), (2, va_rf v2), (3, .int (i32 v3))]) B.1 B.2.1 dX9_readRow_117 hl (by decide) (by generalize r59 = w9; cases w9 <;> rfl) (fun ls hl => ?_)
  refine lv_aload_n B.1 B.2.1 dX9_readRow_119 rfl (lv_at hl 3 rfl) ?_
  refine lv_aload_nQ B.1 B.2.1 dX9_readRow_120 rfl (lv_at hl 4 rfl) ?_
  refine lv_aloadQ B.1 B.2.1 dX9_readRow_121 (lv_at hl 1 rfl) ?_
  refine W.eq (g2 := F0 m 123 ls [va_rf r59, va_rf v1, .ref th]) (rfl) ?_
  refine c_V B hH hl hc K.2.2.1 (C := RX9) (T := TX9) (N := 20) (ci := 9) (As := [va_rf v1, va_rf r59]) (ok_X9_sendRow hl9 K.2.1 σ63 th v1 r59 (g1.up (xσ55.trans (xσ58.trans (xσ62.trans xσ63)))) (tr59.up (xσ62.trans xσ63)) (hth.up (xσ55.trans (xσ58.trans (xσ62.trans xσ63)))) hGσ63 hYσ63 h) wc_X9_393 2 hd_X9_sendRow ⟨Nat.le_trans (Nat.le_of_ble_eq_true rfl) K.2.2.2.1, Nat.le_trans (Nat.le_of_ble_eq_true rfl) K.2.2.2.2.1⟩ (hth.up (xσ55.trans (xσ58.trans (xσ62.trans xσ63)))).1 (hth.up (xσ55.trans (xσ58.trans (xσ62.trans xσ63)))).2 (by decide) rfl rfl (rest := []) rfl (Nat.le_of_ble_eq_true rfl) dX9_readRow_123 (fun σ65 w hq => ?_) (fun σ9 E9 hx9 => hX σ9 E9 _ _ _ (tb_out K.2.2.2.2.2.1 rfl) hx9.1 hx9.2.1 hx9.2.2.1 (((((hE.trans xσ55).trans xσ58).trans xσ62).trans xσ63).trans hx9.2.2.2))
  obtain ⟨rfl, h, hGσ65, hYσ65, xσ65⟩ := hq
  have h := h xσ65
  intro H locs ls hH hl hc
  refine W.eq (g2 := F0 m 126 ls []) (rfl) ?_
  try dsimp only at h
  refine lv_lload B.1 B.2.1 dX9_readRow_126 (lv_at hl 0 rfl) ?_
  refine lv_aload_nQ B.1 B.2.1 dX9_readRow_128 rfl (lv_at hl 4 rfl) ?_
  obtain ⟨a66, ea66, h⟩ := h
  have ka66 : kO σ65 a66 10 := (g1.up (xσ55.trans (xσ58.trans (xσ62.trans (xσ63.trans xσ65))))) a66 ea66
  have h := h ka66
  refine W.eq (g2 := F0 m 129 ls [.ref a66, .long ((gJ σ63 a61 5 - (Int64.ofInt (gI σ63 a54 10))) - 1)]) (by rw [ea66]; rfl) ?_
  refine f_getl B hH ka66 (by decide) rfl wu_X10 7 (by decide) wf_X9_127 rfl rfl dX9_readRow_129 ?_
  refine W.lcmp B.1 B.2.1 dX9_readRow_132 ?_
  refine lv_if_le (tgt := 150) B.1 B.2.1 dX9_readRow_133 (by decide) (fun h9 => ?_) (fun h9 => ?_)
  · rw [if_pos ((lg_cmp_le _ _).mp h9)] at h
    exact a_X9_readRow_150 K hQ hX hTh _ h hGσ65 hYσ65 (((((hE.trans xσ55).trans xσ58).trans xσ62).trans xσ63).trans xσ65) (hth.up (xσ55.trans (xσ58.trans (xσ62.trans (xσ63.trans xσ65))))) _ _ _ hH (lv_sub (l' := [(0, .ref th)]) hl [3] rfl) hc
  · rw [if_neg (fun q => h9 ((lg_cmp_le _ _).mpr q))] at h
    exact a_X9_readRow_136 K hQ hX hTh _ _ _ (g1.up (xσ55.trans (xσ58.trans (xσ62.trans (xσ63.trans xσ65))))) h hGσ65 hYσ65 (((((hE.trans xσ55).trans xσ58).trans xσ62).trans xσ63).trans xσ65) (hth.up (xσ55.trans (xσ58.trans (xσ62.trans (xσ63.trans xσ65))))) _ _ _ hH (lv_sub (l' := [(0, .ref th), (1, va_rf v1), (6, .long ((gJ σ63 a61 5 - (Int64.ofInt (gI σ63 a54 10))) - 1))]) hl [3, 4, 0] rfl) hc
set_option maxRecDepth 20000 in
theorem a_X9_readRow_49 {Q : Sg → Unit → Prop} {X : Sg → String → Prop} {th : Nat} (K : MD l R p s m args c cX9_readRow 8 RX9 D cA tys A n0 s0 8 139 []) (hQ : CQV p l e R s m args below meth c cX9_readRow D cA A n0 s0 QM σi Q) (hX : CX p l e R s m args below meth c 8 D cA A n0 s0 QM σi X) (hTh : CT p l e R s m args below meth c cX9_readRow 8 D cA A n0 s0 QM σi RX9 X) : ∀ (σ : Sg) (v1 : Option Nat) (g1 : tyV σ 10 v1), w_X9_readRow_49 th Q X σ v1 → RG σ → TY σ → Ext σi σ → kO σ th 9 → JJ p l e R s m args below meth c 8 D cA A n0 s0 QM σ 49 [(0, .ref th), (1, va_rf v1)] [] := by
  intro σ v1 g1 h hGσ hYσ hE hth H locs ls hH hl hc
  have B := K.1
  have hl9 := K.2.2.2.2.2.2
  unfold w_X9_readRow_49 at h
  refine lv_aload_nQ B.1 B.2.1 dX9_readRow_49 rfl (lv_at hl 1 rfl) ?_
  refine lv_dup B.1 B.2.1 dX9_readRow_50 (rf_cat _) ?_
  obtain ⟨a67, ea67, h⟩ := h
  have ka67 : kO σ a67 10 := g1 a67 ea67
  have h := h ka67
  refine W.eq (g2 := F0 m 51 ls [.ref a67, va_rf v1]) (by rw [ea67]; rfl) ?_
  refine f_geti B hH ka67 (by decide) rfl wu_X10 5 (by decide) wf_X9_224 rfl rfl dX9_readRow_51 ?_
  refine lv_iconst (v := i32 1) B.1 B.2.1 dX9_readRow_54 (by decide) ?_
  refine lv_iadd B.1 B.2.1 dX9_readRow_55 ?_
  rw [i32_add]
  refine W.eq (g2 := F0 m 56 ls [.int (i32 (wr (gI σ a67 5 + 1))), va_rf v1]) (by rw [i32_wr]) ?_
  obtain ⟨σ68, eσ68⟩ : ∃ z, z = pI σ a67 5 (wr (gI σ a67 5 + 1)) := ⟨_, rfl⟩
  have h := h σ68 eσ68
  refine W.eq (g2 := F0 m 56 ls [.int (i32 (wr (gI σ a67 5 + 1))), .ref a67]) (by rw [ea67]; rfl) ?_
  refine f_puti B hH ka67 (by decide) rfl wu_X10 tyX10 tyX10_ok nmX10 5 (by decide) wf_X9_224 rfl (ty := .int) rfl rfl rfl rfl rfl dX9_readRow_56 (fun H locs hH => ?_)
  have hH : Hd D cA A s (pI σ a67 5 (wr (gI σ a67 5 + 1))) H locs := hH
  rw [← eσ68] at hH
  have hGσ68 : RG σ68 := by rw [eσ68]; exact hGσ.pI (rng_wr _)
  have hYσ68 : TY σ68 := by rw [eσ68]; exact hYσ.pI
  have xσ68 : Ext σ σ68 := by rw [eσ68]; exact Ext.pI
  have hc : CB n0 s0 σ68 := by rw [eσ68]; exact hc
  rw [show gc σ = gc σ68 by rw [eσ68]; try rfl, show gs σ = gs σ68 by rw [eσ68]; try rfl]
  exact hQ _ _ _ _ _ dX9_readRow_59 hH hc h hGσ68 hYσ68 (hE.trans xσ68)
set_option maxRecDepth 20000 in
theorem a_X9_readRow_0 {Q : Sg → Unit → Prop} {X : Sg → String → Prop} {th : Nat} (K : MD l R p s m args c cX9_readRow 8 RX9 D cA tys A n0 s0 8 139 []) (hQ : CQV p l e R s m args below meth c cX9_readRow D cA A n0 s0 QM σi Q) (hX : CX p l e R s m args below meth c 8 D cA A n0 s0 QM σi X) (hTh : CT p l e R s m args below meth c cX9_readRow 8 D cA A n0 s0 QM σi RX9 X) : ∀ (σ : Sg) (v1 : Option Nat) (v2 : Option Nat) (g1 : tyV σ 10 v1) (g2 : tyV σ 5 v2), w_X9_readRow_0 th Q X σ v1 v2 → RG σ → TY σ → Ext σi σ → kO σ th 9 → JJ p l e R s m args below meth c 8 D cA A n0 s0 QM σ 0 [(0, .ref th), (1, va_rf v1), (2, va_rf v2)] [] := by
  intro σ v1 v2 g1 g2 h hGσ hYσ hE hth H locs ls hH hl hc
  have B := K.1
  have hl9 := K.2.2.2.2.2.2
  unfold w_X9_readRow_0 at h
  refine lv_aload_nQ B.1 B.2.1 dX9_readRow_0 rfl (lv_at hl 1 rfl) ?_
  obtain ⟨a69, ea69, h⟩ := h
  have ka69 : kO σ a69 10 := g1 a69 ea69
  have h := h ka69
  refine W.eq (g2 := F0 m 1 ls [.ref a69]) (by rw [ea69]; rfl) ?_
  refine f_geti B hH ka69 (by decide) rfl wu_X10 6 (by decide) wf_X9_227 rfl rfl dX9_readRow_1 ?_
  refine lv_istore_n (lv' := [(3, .int (i32 (gI σ a69 6))), (0, .ref th), (1, va_rf v1), (2, va_rf v2)]) B.1 B.2.1 dX9_readRow_4 rfl hl (by decide) (by generalize v2 = w9; cases w9 <;> rfl) (fun ls hl => ?_)
  refine lv_aload_nQ B.1 B.2.1 dX9_readRow_5 rfl (lv_at hl 2 rfl) ?_
  refine lv_dup B.1 B.2.1 dX9_readRow_6 (rf_cat _) ?_
  refine W.eq (g2 := F0 m 7 ls [.ref a69, va_rf v1]) (by rw [ea69]; rfl) ?_
  refine f_geti B hH ka69 (by decide) rfl wu_X10 6 (by decide) wf_X9_227 rfl rfl dX9_readRow_7 ?_
  refine lv_iconst (v := i32 1) B.1 B.2.1 dX9_readRow_10 (by decide) ?_
  obtain ⟨q1, h⟩ := h
  refine lv_iadd B.1 B.2.1 dX9_readRow_11 ?_
  rw [i32_add]
  obtain ⟨σ70, eσ70⟩ : ∃ z, z = pI σ a69 6 (gI σ a69 6 + 1) := ⟨_, rfl⟩
  have h := h σ70 eσ70
  refine W.eq (g2 := F0 m 12 ls [.int (i32 (gI σ a69 6 + 1)), .ref a69]) (by rw [ea69]; rfl) ?_
  refine f_puti B hH ka69 (by decide) rfl wu_X10 tyX10 tyX10_ok nmX10 6 (by decide) wf_X9_227 rfl (ty := .int) rfl rfl rfl rfl rfl dX9_readRow_12 (fun H locs hH => ?_)
  have hH : Hd D cA A s (pI σ a69 6 (gI σ a69 6 + 1)) H locs := hH
  rw [← eσ70] at hH
  have hGσ70 : RG σ70 := by rw [eσ70]; exact hGσ.pI q1
  have hYσ70 : TY σ70 := by rw [eσ70]; exact hYσ.pI
  have xσ70 : Ext σ σ70 := by rw [eσ70]; exact Ext.pI
  have hc : CB n0 s0 σ70 := by rw [eσ70]; exact hc
  rw [show gc σ = gc σ70 by rw [eσ70]; try rfl, show gs σ = gs σ70 by rw [eσ70]; try rfl]
  refine lv_aload_nQ B.1 B.2.1 dX9_readRow_15 rfl (lv_at hl 2 rfl) ?_
  refine lv_dup B.1 B.2.1 dX9_readRow_16 (rf_cat _) ?_
  refine W.eq (g2 := F0 m 17 ls [.ref a69, va_rf v1]) (by rw [ea69]; rfl) ?_
  refine f_geti B hH (ka69.up xσ70) (by decide) rfl wu_X10 8 (by decide) wf_X9_261 rfl rfl dX9_readRow_17 ?_
  refine lv_iconst (v := i32 1) B.1 B.2.1 dX9_readRow_20 (by decide) ?_
  refine lv_iadd B.1 B.2.1 dX9_readRow_21 ?_
  rw [i32_add]
  refine W.eq (g2 := F0 m 22 ls [.int (i32 (wr (gI σ70 a69 8 + 1))), va_rf v1]) (by rw [i32_wr]) ?_
  obtain ⟨σ71, eσ71⟩ : ∃ z, z = pI σ70 a69 8 (wr (gI σ70 a69 8 + 1)) := ⟨_, rfl⟩
  have h := h σ71 eσ71
  refine W.eq (g2 := F0 m 22 ls [.int (i32 (wr (gI σ70 a69 8 + 1))), .ref a69]) (by rw [ea69]; rfl) ?_
  refine f_puti B hH (ka69.up xσ70) (by decide) rfl wu_X10 tyX10 tyX10_ok nmX10 8 (by decide) wf_X9_261 rfl (ty := .int) rfl rfl rfl rfl rfl dX9_readRow_22 (fun H locs hH => ?_)
  have hH : Hd D cA A s (pI σ70 a69 8 (wr (gI σ70 a69 8 + 1))) H locs := hH
  rw [← eσ71] at hH
  have hGσ71 : RG σ71 := by rw [eσ71]; exact hGσ70.pI (rng_wr _)
  have hYσ71 : TY σ71 := by rw [eσ71]; exact hYσ70.pI
  have xσ71 : Ext σ70 σ71 := by rw [eσ71]; exact Ext.pI
  have hc : CB n0 s0 σ71 := by rw [eσ71]; exact hc
  rw [show gc σ70 = gc σ71 by rw [eσ71]; try rfl, show gs σ70 = gs σ71 by rw [eσ71]; try rfl]
  refine lv_aload_n B.1 B.2.1 dX9_readRow_25 rfl (lv_at hl 1 rfl) ?_
  refine f_getp B hH (hth.up (xσ70.trans xσ71)) (by decide) rfl wu_X9 9 (by decide) wf_X9_100 rfl rfl dX9_readRow_26 ?_
  obtain ⟨a72, ea72, h⟩ := h
  have ka72 : kO σ71 a72 4 := (hYσ71.get (hth.up (xσ70.trans xσ71)) (by decide)) a72 ea72
  have h := h ka72
  refine W.eq (g2 := F0 m 29 ls [.ref a72]) (by rw [ea72]; rfl) ?_
  refine f_getp B hH ka72 (by decide) rfl wu_X4 11 (by decide) wf_X9_372 rfl rfl dX9_readRow_29 ?_
  refine lv_aload_nQ B.1 B.2.1 dX9_readRow_32 rfl (lv_at hl 3 rfl) ?_
  obtain ⟨a73, ea73, h⟩ := h
  have ka73 : kO σ71 a73 5 := (g2.up (xσ70.trans xσ71)) a73 ea73
  have h := h ka73
  refine W.eq (g2 := F0 m 33 ls [.ref a73, va_rf (gP σ71 a72 11)]) (by rw [ea73]; rfl) ?_
  refine f_geti B hH ka73 (by decide) rfl wu_X5 9 (by decide) wf_X9_359 rfl rfl dX9_readRow_33 ?_
  obtain ⟨a74, ea74, h⟩ := h
  have ka74 : kO σ71 a74 200 := (hYσ71.get ka72 (by decide)) a74 ea74
  have h := h ka74
  obtain ⟨q2, h⟩ := h
  refine W.eq (g2 := F0 m 36 ls [.int (i32 (gI σ71 a73 9)), .ref a74]) (by rw [ea74]; rfl) ?_
  refine y_aaldA B hH (t0 := 8) ka74 (by decide) K.2.1.2.2.2.2.2 q2 (hYσ71.2 _) dX9_readRow_36 ?_
  refine lv_iload_n B.1 B.2.1 dX9_readRow_37 rfl (lv_at hl 0 rfl) ?_
  refine lv_iconst (v := i32 5) B.1 B.2.1 dX9_readRow_38 (by decide) ?_
  obtain ⟨q3, h⟩ := h
  refine lv_imul B.1 B.2.1 dX9_readRow_39 ?_
  rw [i32_mul]
  obtain ⟨a75, ea75, h⟩ := h
  have ka75 : kO σ71 a75 101 := (hYσ71.get ka74 rfl) a75 ea75
  have h := h ka75
  obtain ⟨q4, h⟩ := h
  refine W.eq (g2 := F0 m 40 ls [.int (i32 (gI σ a69 6 * 5)), .ref a75]) (by rw [ea75]; rfl) ?_
  refine y_lald B K.2.1 hH ka75 q4 dX9_readRow_40 (hYσ71.2 _) ?_
  refine lv_aload_nQ B.1 B.2.1 dX9_readRow_41 rfl (lv_at hl 2 rfl) ?_
  refine W.eq (g2 := F0 m 42 ls [.ref a69, .long (gJ σ71 a75 (gI σ a69 6 * 5).toNat)]) (by rw [ea69]; rfl) ?_
  refine f_getl B hH (ka69.up (xσ70.trans xσ71)) (by decide) rfl wu_X10 7 (by decide) wf_X9_127 rfl rfl dX9_readRow_42 ?_
  refine W.lcmp B.1 B.2.1 dX9_readRow_45 ?_
  refine lv_if_gt (tgt := 60) B.1 B.2.1 dX9_readRow_46 (by decide) (fun h9 => ?_) (fun h9 => ?_)
  · rw [if_pos ((lg_cmp_gt _ _).mp h9)] at h
    exact a_X9_readRow_60 K hQ hX hTh _ _ _ _ (g1.up (xσ70.trans xσ71)) (g2.up (xσ70.trans xσ71)) (hGσ _ _) h hGσ71 hYσ71 ((hE.trans xσ70).trans xσ71) (hth.up (xσ70.trans xσ71)) _ _ _ hH (lv_sub (l' := [(0, .ref th), (1, va_rf v1), (2, va_rf v2), (3, .int (i32 (gI σ a69 6)))]) hl [1, 2, 3, 0] rfl) hc
  · rw [if_neg (fun q => h9 ((lg_cmp_gt _ _).mpr q))] at h
    exact a_X9_readRow_49 K hQ hX hTh _ _ (g1.up (xσ70.trans xσ71)) h hGσ71 hYσ71 ((hE.trans xσ70).trans xσ71) (hth.up (xσ70.trans xσ71)) _ _ _ hH (lv_sub (l' := [(0, .ref th), (1, va_rf v1)]) hl [1, 2] rfl) hc
theorem ok_X9_readRow (hl0 : l.stackTraces = false) (hT : TyC cA tys) {Q : Sg → Unit → Prop} {X : Sg → String → Prop} (σ : Sg) (th : Nat) (v1 : Option Nat) (v2 : Option Nat) (g1 : tyV σ 10 v1) (g2 : tyV σ 5 v2) (hth : kO σ th 9) (hG : RG σ) (hY : TY σ) (h : wp_X9_readRow th v1 v2 σ Q X) : Ok l D cA tys A yX9_readRow (.code yX9_readRow cX9_readRow 8 none) 8 139 [.ref th, va_rf v1, va_rf v2] σ (QcV σ Q) (QxC σ X) := by
  unfold wp_X9_readRow at h
  exact oc_V hl0 (by decide) (by cases v1 <;> cases v2 <;> exact Nat.le_of_ble_eq_true rfl) hT (fun p e R s m args below meth c K hQ hX hTh hin9 H locs ls hH hl hc => a_X9_readRow_0 K hQ hX hTh σ v1 v2 g1 g2 h hG hY (Ext.rfl' σ) hth H locs ls hH (lv_sub (l' := [(0, .ref th), (1, va_rf v1), (2, va_rf v2)]) hl [0, 1, 2] (by cases v1 <;> cases v2 <;> rfl)) hc)
theorem dX3_keepPart_0 : decode cX3_keepPart 0 = .ok (.aload_n 1, 1) := by decide +kernel
theorem dX3_keepPart_1 : decode cX3_keepPart 1 = .ok (.getfield 40, 3) := by decide +kernel
theorem dX3_keepPart_4 : decode cX3_keepPart 4 = .ok (.iconst 4, 1) := by decide +kernel
theorem dX3_keepPart_5 : decode cX3_keepPart 5 = .ok (.imul, 1) := by decide +kernel
theorem dX3_keepPart_6 : decode cX3_keepPart 6 = .ok (.aload_n 1, 1) := by decide +kernel
theorem dX3_keepPart_7 : decode cX3_keepPart 7 = .ok (.getfield 43, 3) := by decide +kernel
theorem dX3_keepPart_10 : decode cX3_keepPart 10 = .ok (.iadd, 1) := by decide +kernel
theorem dX3_keepPart_11 : decode cX3_keepPart 11 = .ok (.istore_n 2, 1) := by decide +kernel
theorem dX3_keepPart_12 : decode cX3_keepPart 12 = .ok (.aload_n 0, 1) := by decide +kernel
theorem dX3_keepPart_13 : decode cX3_keepPart 13 = .ok (.getfield 11, 3) := by decide +kernel
theorem dX3_keepPart_16 : decode cX3_keepPart 16 = .ok (.iload_n 2, 1) := by decide +kernel
theorem dX3_keepPart_17 : decode cX3_keepPart 17 = .ok (.aaload, 1) := by decide +kernel
theorem dX3_keepPart_18 : decode cX3_keepPart 18 = .ok (.ifnonnull 16, 3) := by decide +kernel
theorem dX3_keepPart_21 : decode cX3_keepPart 21 = .ok (.aload_n 0, 1) := by decide +kernel
theorem dX3_keepPart_22 : decode cX3_keepPart 22 = .ok (.getfield 11, 3) := by decide +kernel
theorem dX3_keepPart_25 : decode cX3_keepPart 25 = .ok (.iload_n 2, 1) := by decide +kernel
theorem dX3_keepPart_26 : decode cX3_keepPart 26 = .ok (.new 9, 3) := by decide +kernel
theorem dX3_keepPart_29 : decode cX3_keepPart 29 = .ok (.dup, 1) := by decide +kernel
theorem dX3_keepPart_30 : decode cX3_keepPart 30 = .ok (.invokespecial 46, 3) := by decide +kernel
theorem dX3_keepPart_33 : decode cX3_keepPart 33 = .ok (.aastore, 1) := by decide +kernel
theorem dX3_keepPart_34 : decode cX3_keepPart 34 = .ok (.aload_n 0, 1) := by decide +kernel
theorem dX3_keepPart_35 : decode cX3_keepPart 35 = .ok (.getfield 11, 3) := by decide +kernel
theorem dX3_keepPart_38 : decode cX3_keepPart 38 = .ok (.iload_n 2, 1) := by decide +kernel
theorem dX3_keepPart_39 : decode cX3_keepPart 39 = .ok (.aaload, 1) := by decide +kernel
theorem dX3_keepPart_40 : decode cX3_keepPart 40 = .ok (.astore_n 3, 1) := by decide +kernel
theorem dX3_keepPart_41 : decode cX3_keepPart 41 = .ok (.aload_n 3, 1) := by decide +kernel
theorem dX3_keepPart_42 : decode cX3_keepPart 42 = .ok (.aload_n 1, 1) := by decide +kernel
theorem dX3_keepPart_43 : decode cX3_keepPart 43 = .ok (.getfield 40, 3) := by decide +kernel
theorem dX3_keepPart_46 : decode cX3_keepPart 46 = .ok (.aload_n 1, 1) := by decide +kernel
theorem dX3_keepPart_47 : decode cX3_keepPart 47 = .ok (.getfield 43, 3) := by decide +kernel
theorem dX3_keepPart_50 : decode cX3_keepPart 50 = .ok (.invokevirtual 47, 3) := by decide +kernel
theorem dX3_keepPart_53 : decode cX3_keepPart 53 = .ok (.aload_n 3, 1) := by decide +kernel
theorem dX3_keepPart_54 : decode cX3_keepPart 54 = .ok (.aload_n 1, 1) := by decide +kernel
theorem dX3_keepPart_55 : decode cX3_keepPart 55 = .ok (.getfield 51, 3) := by decide +kernel
theorem dX3_keepPart_58 : decode cX3_keepPart 58 = .ok (.putfield 51, 3) := by decide +kernel
theorem dX3_keepPart_61 : decode cX3_keepPart 61 = .ok (.aload_n 3, 1) := by decide +kernel
theorem dX3_keepPart_62 : decode cX3_keepPart 62 = .ok (.aload_n 1, 1) := by decide +kernel
theorem dX3_keepPart_63 : decode cX3_keepPart 63 = .ok (.getfield 54, 3) := by decide +kernel
theorem dX3_keepPart_66 : decode cX3_keepPart 66 = .ok (.putfield 54, 3) := by decide +kernel
theorem dX3_keepPart_69 : decode cX3_keepPart 69 = .ok (.aload_n 3, 1) := by decide +kernel
theorem dX3_keepPart_70 : decode cX3_keepPart 70 = .ok (.aload_n 1, 1) := by decide +kernel
theorem dX3_keepPart_71 : decode cX3_keepPart 71 = .ok (.getfield 57, 3) := by decide +kernel
theorem dX3_keepPart_74 : decode cX3_keepPart 74 = .ok (.putfield 57, 3) := by decide +kernel
theorem dX3_keepPart_77 : decode cX3_keepPart 77 = .ok (.aload_n 0, 1) := by decide +kernel
theorem dX3_keepPart_78 : decode cX3_keepPart 78 = .ok (.dup, 1) := by decide +kernel
theorem dX3_keepPart_79 : decode cX3_keepPart 79 = .ok (.getfield 30, 3) := by decide +kernel
theorem dX3_keepPart_82 : decode cX3_keepPart 82 = .ok (.iconst 1, 1) := by decide +kernel
theorem dX3_keepPart_83 : decode cX3_keepPart 83 = .ok (.iadd, 1) := by decide +kernel
theorem dX3_keepPart_84 : decode cX3_keepPart 84 = .ok (.putfield 30, 3) := by decide +kernel
theorem dX3_keepPart_87 : decode cX3_keepPart 87 = .ok (.aload_n 0, 1) := by decide +kernel
theorem dX3_keepPart_88 : decode cX3_keepPart 88 = .ok (.dup, 1) := by decide +kernel
theorem dX3_keepPart_89 : decode cX3_keepPart 89 = .ok (.getfield 33, 3) := by decide +kernel
theorem dX3_keepPart_92 : decode cX3_keepPart 92 = .ok (.aload_n 1, 1) := by decide +kernel
theorem dX3_keepPart_93 : decode cX3_keepPart 93 = .ok (.invokevirtual 61, 3) := by decide +kernel
theorem dX3_keepPart_96 : decode cX3_keepPart 96 = .ok (.iadd, 1) := by decide +kernel
theorem dX3_keepPart_97 : decode cX3_keepPart 97 = .ok (.putfield 33, 3) := by decide +kernel
theorem dX3_keepPart_100 : decode cX3_keepPart 100 = .ok (.aload_n 3, 1) := by decide +kernel
theorem dX3_keepPart_101 : decode cX3_keepPart 101 = .ok (.areturn, 1) := by decide +kernel
set_option maxRecDepth 20000 in
theorem a_X3_keepPart_34 {Q : Sg → Option Nat → Prop} {X : Sg → String → Prop} {th : Nat} (K : MD l R p s m args c cX3_keepPart 4 RX3 D cA tys A n0 s0 3 52 []) (hQ : CQA p l e R s m args below meth c cX3_keepPart D cA A n0 s0 QM σi 10 Q) (hX : CX p l e R s m args below meth c 4 D cA A n0 s0 QM σi X) (hTh : CT p l e R s m args below meth c cX3_keepPart 4 D cA A n0 s0 QM σi RX3 X) : ∀ (σ : Sg) (v1 : Option Nat) (v2 : Int) (g1 : tyV σ 10 v1) (g2 : rng v2), w_X3_keepPart_34 th Q X σ v1 v2 → RG σ → TY σ → Ext σi σ → kO σ th 3 → JJ p l e R s m args below meth c 4 D cA A n0 s0 QM σ 34 [(0, .ref th), (1, va_rf v1), (2, .int (i32 v2))] [] := by
  intro σ v1 v2 g1 g2 h hGσ hYσ hE hth H locs ls hH hl hc
  have B := K.1
  have hl9 := K.2.2.2.2.2.2
  unfold w_X3_keepPart_34 at h
  refine lv_aload_n B.1 B.2.1 dX3_keepPart_34 rfl (lv_at hl 0 rfl) ?_
  refine f_getp B hH hth (by decide) rfl wu_X3 0 (by decide) wf_X3_11 rfl rfl dX3_keepPart_35 ?_
  refine lv_iload_n B.1 B.2.1 dX3_keepPart_38 rfl (lv_at hl 2 rfl) ?_
  obtain ⟨a37, ea37, h⟩ := h
  have ka37 : kO σ a37 120 := (hYσ.get hth (by decide)) a37 ea37
  have h := h ka37
  obtain ⟨q1, h⟩ := h
  refine W.eq (g2 := F0 m 39 ls [.int (i32 v2), .ref a37]) (by rw [ea37]; rfl) ?_
  refine y_aald B hH (t0 := 7) ka37 (by decide) K.2.1.2.2.2.2.1 q1 (hYσ.2 _) dX3_keepPart_39 ?_
  refine lv_astore_nQ (lv' := [(3, va_rf (gP σ a37 v2.toNat)), (0, .ref th), (1, va_rf v1), (2, .int (i32 v2))]) B.1 B.2.1 dX3_keepPart_40 rfl hl (by decide) rfl (fun ls hl => ?_)
  refine lv_aload_nQ B.1 B.2.1 dX3_keepPart_41 rfl (lv_at hl 0 rfl) ?_
  refine lv_aload_nQ B.1 B.2.1 dX3_keepPart_42 rfl (lv_at hl 2 rfl) ?_
  obtain ⟨a38, ea38, h⟩ := h
  have ka38 : kO σ a38 10 := g1 a38 ea38
  have h := h ka38
  refine W.eq (g2 := F0 m 43 ls [.ref a38, va_rf (gP σ a37 v2.toNat)]) (by rw [ea38]; rfl) ?_
  refine f_geti B hH ka38 (by decide) rfl wu_X10 0 (by decide) wf_X3_40 rfl rfl dX3_keepPart_43 ?_
  refine lv_aload_nQ B.1 B.2.1 dX3_keepPart_46 rfl (lv_at hl 2 rfl) ?_
  refine W.eq (g2 := F0 m 47 ls [.ref a38, .int (i32 (gI σ a38 0)), va_rf (gP σ a37 v2.toNat)]) (by rw [ea38]; rfl) ?_
  refine f_geti B hH ka38 (by decide) rfl wu_X10 1 (by decide) wf_X3_43 rfl rfl dX3_keepPart_47 ?_
  obtain ⟨a40, ea40, h⟩ := h
  have ka40 : kO σ a40 10 := (hYσ.get ka37 rfl) a40 ea40
  have h := h ka40
  refine W.eq (g2 := F0 m 50 ls [.int (i32 (gI σ a38 1)), .int (i32 (gI σ a38 0)), .ref a40]) (by rw [ea40]; rfl) ?_
  refine c_V B hH hl hc K.2.2.1 (C := RX10) (T := TX10) (N := 16) (ci := 10) (As := [.int (i32 (gI σ a38 0)), .int (i32 (gI σ a38 1))]) (ok_X10_lay hl9 K.2.1 σ a40 (gI σ a38 0) (gI σ a38 1) (hGσ _ _) (hGσ _ _) ka40 hGσ hYσ h) wc_X3_47 2 hd_X10_lay ⟨Nat.le_trans (Nat.le_of_ble_eq_true rfl) K.2.2.2.1, Nat.le_trans (Nat.le_of_ble_eq_true rfl) K.2.2.2.2.1⟩ ka40.1 ka40.2 (by decide) rfl rfl (rest := []) rfl (Nat.le_of_ble_eq_true rfl) dX3_keepPart_50 (fun σ39 w hq => ?_) (fun σ9 E9 hx9 => hX σ9 E9 _ _ _ (tb_out K.2.2.2.2.2.1 rfl) hx9.1 hx9.2.1 hx9.2.2.1 (hE.trans hx9.2.2.2))
  obtain ⟨rfl, h, hGσ39, hYσ39, xσ39⟩ := hq
  have h := h xσ39
  intro H locs ls hH hl hc
  refine W.eq (g2 := F0 m 53 ls []) (rfl) ?_
  try dsimp only at h
  refine lv_aload_nQ B.1 B.2.1 dX3_keepPart_53 rfl (lv_at hl 0 rfl) ?_
  refine lv_aload_nQ B.1 B.2.1 dX3_keepPart_54 rfl (lv_at hl 2 rfl) ?_
  refine W.eq (g2 := F0 m 55 ls [.ref a38, va_rf (gP σ a37 v2.toNat)]) (by rw [ea38]; rfl) ?_
  refine f_geti B hH (ka38.up xσ39) (by decide) rfl wu_X10 5 (by decide) wf_X3_51 rfl rfl dX3_keepPart_55 ?_
  obtain ⟨σ41, eσ41⟩ : ∃ z, z = pI σ39 a40 5 (gI σ39 a38 5) := ⟨_, rfl⟩
  have h := h σ41 eσ41
  refine W.eq (g2 := F0 m 58 ls [.int (i32 (gI σ39 a38 5)), .ref a40]) (by rw [ea40]; rfl) ?_
  refine f_puti B hH (ka40.up xσ39) (by decide) rfl wu_X10 tyX10 tyX10_ok nmX10 5 (by decide) wf_X3_51 rfl (ty := .int) rfl rfl rfl rfl rfl dX3_keepPart_58 (fun H locs hH => ?_)
  have hH : Hd D cA A s (pI σ39 a40 5 (gI σ39 a38 5)) H locs := hH
  rw [← eσ41] at hH
  have hGσ41 : RG σ41 := by rw [eσ41]; exact hGσ39.pI (hGσ39 _ _)
  have hYσ41 : TY σ41 := by rw [eσ41]; exact hYσ39.pI
  have xσ41 : Ext σ39 σ41 := by rw [eσ41]; exact Ext.pI
  have hc : CB n0 s0 σ41 := by rw [eσ41]; exact hc
  rw [show gc σ39 = gc σ41 by rw [eσ41]; try rfl, show gs σ39 = gs σ41 by rw [eσ41]; try rfl]
  refine lv_aload_nQ B.1 B.2.1 dX3_keepPart_61 rfl (lv_at hl 0 rfl) ?_
  refine lv_aload_nQ B.1 B.2.1 dX3_keepPart_62 rfl (lv_at hl 2 rfl) ?_
  refine W.eq (g2 := F0 m 63 ls [.ref a38, va_rf (gP σ a37 v2.toNat)]) (by rw [ea38]; rfl) ?_
  refine f_geti B hH (ka38.up (xσ39.trans xσ41)) (by decide) rfl wu_X10 6 (by decide) wf_X3_54 rfl rfl dX3_keepPart_63 ?_
  obtain ⟨σ42, eσ42⟩ : ∃ z, z = pI σ41 a40 6 (gI σ41 a38 6) := ⟨_, rfl⟩
  have h := h σ42 eσ42
  refine W.eq (g2 := F0 m 66 ls [.int (i32 (gI σ41 a38 6)), .ref a40]) (by rw [ea40]; rfl) ?_
  refine f_puti B hH (ka40.up (xσ39.trans xσ41)) (by decide) rfl wu_X10 tyX10 tyX10_ok nmX10 6 (by decide) wf_X3_54 rfl (ty := .int) rfl rfl rfl rfl rfl dX3_keepPart_66 (fun H locs hH => ?_)
  have hH : Hd D cA A s (pI σ41 a40 6 (gI σ41 a38 6)) H locs := hH
  rw [← eσ42] at hH
  have hGσ42 : RG σ42 := by rw [eσ42]; exact hGσ41.pI (hGσ41 _ _)
  have hYσ42 : TY σ42 := by rw [eσ42]; exact hYσ41.pI
  have xσ42 : Ext σ41 σ42 := by rw [eσ42]; exact Ext.pI
  have hc : CB n0 s0 σ42 := by rw [eσ42]; exact hc
  rw [show gc σ41 = gc σ42 by rw [eσ42]; try rfl, show gs σ41 = gs σ42 by rw [eσ42]; try rfl]
  refine lv_aload_nQ B.1 B.2.1 dX3_keepPart_69 rfl (lv_at hl 0 rfl) ?_
  refine lv_aload_nQ B.1 B.2.1 dX3_keepPart_70 rfl (lv_at hl 2 rfl) ?_
  refine W.eq (g2 := F0 m 71 ls [.ref a38, va_rf (gP σ a37 v2.toNat)]) (by rw [ea38]; rfl) ?_
  refine f_getl B hH (ka38.up (xσ39.trans (xσ41.trans xσ42))) (by decide) rfl wu_X10 7 (by decide) wf_X3_57 rfl rfl dX3_keepPart_71 ?_
  obtain ⟨σ43, eσ43⟩ : ∃ z, z = pJ σ42 a40 7 (gJ σ42 a38 7) := ⟨_, rfl⟩
  have h := h σ43 eσ43
  refine W.eq (g2 := F0 m 74 ls [.long (gJ σ42 a38 7), .ref a40]) (by rw [ea40]; rfl) ?_
  refine f_putl B hH (ka40.up (xσ39.trans (xσ41.trans xσ42))) (by decide) rfl wu_X10 tyX10 tyX10_ok nmX10 7 (by decide) wf_X3_57 rfl (ty := .long) rfl rfl rfl rfl rfl dX3_keepPart_74 (fun H locs hH => ?_)
  have hH : Hd D cA A s (pJ σ42 a40 7 (gJ σ42 a38 7)) H locs := hH
  rw [← eσ43] at hH
  have hGσ43 : RG σ43 := by rw [eσ43]; exact hGσ42.pJ
  have hYσ43 : TY σ43 := by rw [eσ43]; exact hYσ42.pJ
  have xσ43 : Ext σ42 σ43 := by rw [eσ43]; exact Ext.pJ
  have hc : CB n0 s0 σ43 := by rw [eσ43]; exact hc
  rw [show gc σ42 = gc σ43 by rw [eσ43]; try rfl, show gs σ42 = gs σ43 by rw [eσ43]; try rfl]
  refine lv_aload_n B.1 B.2.1 dX3_keepPart_77 rfl (lv_at hl 1 rfl) ?_
  refine lv_dup B.1 B.2.1 dX3_keepPart_78 rfl ?_
  refine f_geti B hH (hth.up (xσ39.trans (xσ41.trans (xσ42.trans xσ43)))) (by decide) rfl wu_X3 6 (by decide) wf_X3_30 rfl rfl dX3_keepPart_79 ?_
  refine lv_iconst (v := i32 1) B.1 B.2.1 dX3_keepPart_82 (by decide) ?_
  refine lv_iadd B.1 B.2.1 dX3_keepPart_83 ?_
  rw [i32_add]
  refine W.eq (g2 := F0 m 84 ls [.int (i32 (wr (gI σ43 th 6 + 1))), .ref th]) (by rw [i32_wr]) ?_
  obtain ⟨σ44, eσ44⟩ : ∃ z, z = pI σ43 th 6 (wr (gI σ43 th 6 + 1)) := ⟨_, rfl⟩
  have h := h σ44 eσ44
  refine f_puti B hH (hth.up (xσ39.trans (xσ41.trans (xσ42.trans xσ43)))) (by decide) rfl wu_X3 tyX3 tyX3_ok nmX3 6 (by decide) wf_X3_30 rfl (ty := .int) rfl rfl rfl rfl rfl dX3_keepPart_84 (fun H locs hH => ?_)
  have hH : Hd D cA A s (pI σ43 th 6 (wr (gI σ43 th 6 + 1))) H locs := hH
  rw [← eσ44] at hH
  have hGσ44 : RG σ44 := by rw [eσ44]; exact hGσ43.pI (rng_wr _)
  have hYσ44 : TY σ44 := by rw [eσ44]; exact hYσ43.pI
  have xσ44 : Ext σ43 σ44 := by rw [eσ44]; exact Ext.pI
  have hc : CB n0 s0 σ44 := by rw [eσ44]; exact hc
  rw [show gc σ43 = gc σ44 by rw [eσ44]; try rfl, show gs σ43 = gs σ44 by rw [eσ44]; try rfl]
  refine lv_aload_n B.1 B.2.1 dX3_keepPart_87 rfl (lv_at hl 1 rfl) ?_
  refine lv_dup B.1 B.2.1 dX3_keepPart_88 rfl ?_
  refine f_geti B hH (hth.up (xσ39.trans (xσ41.trans (xσ42.trans (xσ43.trans xσ44))))) (by decide) rfl wu_X3 7 (by decide) wf_X3_33 rfl rfl dX3_keepPart_89 ?_
  refine lv_aload_nQ B.1 B.2.1 dX3_keepPart_92 rfl (lv_at hl 2 rfl) ?_
  refine W.eq (g2 := F0 m 93 ls [.ref a38, .int (i32 (gI σ44 th 7)), .ref th]) (by rw [ea38]; rfl) ?_
  refine c_V B hH hl hc K.2.2.1 (C := RX10) (T := TX10) (N := 16) (ci := 10) (As := []) (ok_X10_held hl9 K.2.1 σ44 a38 (ka38.up (xσ39.trans (xσ41.trans (xσ42.trans (xσ43.trans xσ44))))) hGσ44 hYσ44 h) wc_X3_61 0 hd_X10_held ⟨Nat.le_trans (Nat.le_of_ble_eq_true rfl) K.2.2.2.1, Nat.le_trans (Nat.le_of_ble_eq_true rfl) K.2.2.2.2.1⟩ (ka38.up (xσ39.trans (xσ41.trans (xσ42.trans (xσ43.trans xσ44))))).1 (ka38.up (xσ39.trans (xσ41.trans (xσ42.trans (xσ43.trans xσ44))))).2 (by decide) rfl rfl (rest := [.int (i32 (gI σ44 th 7)), .ref th]) rfl (Nat.le_of_ble_eq_true rfl) dX3_keepPart_93 (fun σ45 w hq => ?_) (fun σ9 E9 hx9 => hX σ9 E9 _ _ _ (tb_out K.2.2.2.2.2.1 rfl) hx9.1 hx9.2.1 hx9.2.2.1 ((((((hE.trans xσ39).trans xσ41).trans xσ42).trans xσ43).trans xσ44).trans hx9.2.2.2))
  obtain ⟨r46, rfl, gr46, h, hGσ45, hYσ45, xσ45⟩ := hq
  have h := h xσ45
  intro H locs ls hH hl hc
  refine W.eq (g2 := F0 m 96 ls [.int (i32 r46), .int (i32 (gI σ44 th 7)), .ref th]) (rfl) ?_
  try dsimp only at h
  obtain ⟨q2, h⟩ := h
  refine lv_iadd B.1 B.2.1 dX3_keepPart_96 ?_
  rw [i32_add]
  obtain ⟨σ47, eσ47⟩ : ∃ z, z = pI σ45 th 7 (gI σ44 th 7 + r46) := ⟨_, rfl⟩
  have h := h σ47 eσ47
  refine f_puti B hH (hth.up (xσ39.trans (xσ41.trans (xσ42.trans (xσ43.trans (xσ44.trans xσ45)))))) (by decide) rfl wu_X3 tyX3 tyX3_ok nmX3 7 (by decide) wf_X3_33 rfl (ty := .int) rfl rfl rfl rfl rfl dX3_keepPart_97 (fun H locs hH => ?_)
  have hH : Hd D cA A s (pI σ45 th 7 (gI σ44 th 7 + r46)) H locs := hH
  rw [← eσ47] at hH
  have hGσ47 : RG σ47 := by rw [eσ47]; exact hGσ45.pI q2
  have hYσ47 : TY σ47 := by rw [eσ47]; exact hYσ45.pI
  have xσ47 : Ext σ45 σ47 := by rw [eσ47]; exact Ext.pI
  have hc : CB n0 s0 σ47 := by rw [eσ47]; exact hc
  rw [show gc σ45 = gc σ47 by rw [eσ47]; try rfl, show gs σ45 = gs σ47 by rw [eσ47]; try rfl]
  refine lv_aload_nQ B.1 B.2.1 dX3_keepPart_100 rfl (lv_at hl 0 rfl) ?_
  exact hQ _ _ _ _ _ _ ((hYσ.get ka37 rfl).up (xσ39.trans (xσ41.trans (xσ42.trans (xσ43.trans (xσ44.trans (xσ45.trans xσ47))))))) dX3_keepPart_101 hH hc h hGσ47 hYσ47 (((((((hE.trans xσ39).trans xσ41).trans xσ42).trans xσ43).trans xσ44).trans xσ45).trans xσ47)
set_option maxRecDepth 20000 in
theorem a_X3_keepPart_21 {Q : Sg → Option Nat → Prop} {X : Sg → String → Prop} {th : Nat} (K : MD l R p s m args c cX3_keepPart 4 RX3 D cA tys A n0 s0 3 52 []) (hQ : CQA p l e R s m args below meth c cX3_keepPart D cA A n0 s0 QM σi 10 Q) (hX : CX p l e R s m args below meth c 4 D cA A n0 s0 QM σi X) (hTh : CT p l e R s m args below meth c cX3_keepPart 4 D cA A n0 s0 QM σi RX3 X) : ∀ (σ : Sg) (v1 : Option Nat) (v2 : Int) (g1 : tyV σ 10 v1) (g2 : rng v2), w_X3_keepPart_21 th Q X σ v1 v2 → RG σ → TY σ → Ext σi σ → kO σ th 3 → JJ p l e R s m args below meth c 4 D cA A n0 s0 QM σ 21 [(0, .ref th), (1, va_rf v1), (2, .int (i32 v2))] [] := by
  intro σ v1 v2 g1 g2 h hGσ hYσ hE hth H locs ls hH hl hc
  have B := K.1
  have hl9 := K.2.2.2.2.2.2
  unfold w_X3_keepPart_21 at h
  refine lv_aload_n B.1 B.2.1 dX3_keepPart_21 rfl (lv_at hl 0 rfl) ?_
  refine f_getp B hH hth (by decide) rfl wu_X3 0 (by decide) wf_X3_11 rfl rfl dX3_keepPart_22 ?_
  refine lv_iload_n B.1 B.2.1 dX3_keepPart_25 rfl (lv_at hl 2 rfl) ?_
  obtain ⟨zq48, h⟩ := h
  refine c_new B hH hc K.2.2.1 (ci := 10) rfl (by decide) wu_X10 tyX10 tyX10_ok (by decide) wn_X3_9 zq48 dX3_keepPart_26 (fun q48 H hq48 hH hc => ?_)
  obtain ⟨σ49, eσ49⟩ : ∃ z, z = new1 σ q48 10 16 := ⟨_, rfl⟩
  have h := h q48 hq48 σ49 eσ49
  rw [← eσ49] at hH hc ⊢
  have hGσ49 : RG σ49 := by rw [eσ49]; exact hGσ.new1
  have hYσ49 : TY σ49 := by rw [eσ49]; exact hYσ.new1 hq48
  have xσ49 : Ext σ σ49 := by rw [eσ49]; exact Ext.new1 hq48
  have kq48 : kO σ49 q48 10 := by rw [eσ49]; exact kO.new1
  refine lv_dup B.1 B.2.1 dX3_keepPart_29 rfl ?_
  refine W.eq (g2 := F0 m 30 ls [.ref q48, .ref q48, .int (i32 v2), va_rf (gP σ th 0)]) (rfl) ?_
  refine c_IN B hH hl hc K.2.2.1 (As := []) (ok_X10_init hl9 K.2.1 σ49 q48 kq48 hGσ49 hYσ49 (nx_X10_init h)) (fun _ _ h9 => h9.1) (List.mem_of_getElem? (l := nmL) (i := 16) rfl) rfl wq_X10_init 0 hd_X10_init ⟨Nat.le_trans (Nat.le_of_ble_eq_true rfl) K.2.2.2.1, Nat.le_trans (Nat.le_of_ble_eq_true rfl) K.2.2.2.2.1⟩ rfl (rest := [.ref q48, .int (i32 v2), va_rf (gP σ th 0)]) rfl (by simp only [List.map_cons, List.map_nil, rf_cat]; exact Nat.le_of_ble_eq_true rfl) dX3_keepPart_30 (fun σ50 w hq => ?_)
  obtain ⟨rfl, h, hGσ50, hYσ50, xσ50⟩ := hq
  have h := h xσ50
  intro H locs ls hH hl hc
  refine W.eq (g2 := F0 m 33 ls [.ref q48, .int (i32 v2), va_rf (gP σ th 0)]) (rfl) ?_
  try dsimp only at h
  obtain ⟨a51, ea51, h⟩ := h
  have ka51 : kO σ50 a51 120 := ((hYσ.get hth (by decide)).up (xσ49.trans xσ50)) a51 ea51
  have h := h ka51
  obtain ⟨q1, h⟩ := h
  obtain ⟨σ52, eσ52⟩ : ∃ z, z = pP σ50 a51 v2.toNat (some q48) := ⟨_, rfl⟩
  have h := h σ52 eσ52
  refine W.eq (g2 := F0 m 33 ls [.ref q48, .int (i32 v2), .ref a51]) (by rw [ea51]; rfl) ?_
  refine h_aast B hH ka51.1 (by decide) ka51.2 7 K.2.1.2.2.2.2.1 (kq48.up xσ50).1 (kq48.up xσ50).2 (by decide) rfl q1.1 q1.2 (hYσ50.2 _) dX3_keepPart_33 (fun H locs hH => ?_)
  have hH : Hd D cA A s (pP σ50 a51 v2.toNat (some q48)) H locs := hH
  rw [← eσ52] at hH
  have hGσ52 : RG σ52 := by rw [eσ52]; exact hGσ50.pP
  have hYσ52 : TY σ52 := by rw [eσ52]; exact hYσ50.pP ka51 (d := 10) rfl (tyS1 (kq48.up xσ50))
  have xσ52 : Ext σ50 σ52 := by rw [eσ52]; exact Ext.pP
  have hc : CB n0 s0 σ52 := by rw [eσ52]; exact hc
  rw [show gc σ50 = gc σ52 by rw [eσ52]; try rfl, show gs σ50 = gs σ52 by rw [eσ52]; try rfl]
  exact a_X3_keepPart_34 K hQ hX hTh _ _ _ (g1.up (xσ49.trans (xσ50.trans xσ52))) g2 h hGσ52 hYσ52 (((hE.trans xσ49).trans xσ50).trans xσ52) (hth.up (xσ49.trans (xσ50.trans xσ52))) _ _ _ hH (lv_sub (l' := [(0, .ref th), (1, va_rf v1), (2, .int (i32 v2))]) hl [0, 1, 2] rfl) hc
set_option maxRecDepth 20000 in
theorem a_X3_keepPart_0 {Q : Sg → Option Nat → Prop} {X : Sg → String → Prop} {th : Nat} (K : MD l R p s m args c cX3_keepPart 4 RX3 D cA tys A n0 s0 3 52 []) (hQ : CQA p l e R s m args below meth c cX3_keepPart D cA A n0 s0 QM σi 10 Q) (hX : CX p l e R s m args below meth c 4 D cA A n0 s0 QM σi X) (hTh : CT p l e R s m args below meth c cX3_keepPart 4 D cA A n0 s0 QM σi RX3 X) : ∀ (σ : Sg) (v1 : Option Nat) (g1 : tyV σ 10 v1), w_X3_keepPart_0 th Q X σ v1 → RG σ → TY σ → Ext σi σ → kO σ th 3 → JJ p l e R s m args below meth c 4 D cA A n0 s0 QM σ 0 [(0, .ref th), (1, va_rf v1)] [] := by
  intro σ v1 g1 h hGσ hYσ hE hth H locs ls hH hl hc
  have B := K.1
  have hl9 := K.2.2.2.2.2.2
  unfold w_X3_keepPart_0 at h
  refine lv_aload_nQ B.1 B.2.1 dX3_keepPart_0 rfl (lv_at hl 1 rfl) ?_
  obtain ⟨a53, ea53, h⟩ := h
  have ka53 : kO σ a53 10 := g1 a53 ea53
  have h := h ka53
  refine W.eq (g2 := F0 m 1 ls [.ref a53]) (by rw [ea53]; rfl) ?_
  refine f_geti B hH ka53 (by decide) rfl wu_X10 0 (by decide) wf_X3_40 rfl rfl dX3_keepPart_1 ?_
  refine lv_iconst (v := i32 4) B.1 B.2.1 dX3_keepPart_4 (by decide) ?_
  obtain ⟨q1, h⟩ := h
  refine lv_imul B.1 B.2.1 dX3_keepPart_5 ?_
  rw [i32_mul]
  refine lv_aload_nQ B.1 B.2.1 dX3_keepPart_6 rfl (lv_at hl 1 rfl) ?_
  refine W.eq (g2 := F0 m 7 ls [.ref a53, .int (i32 (gI σ a53 0 * 4))]) (by rw [ea53]; rfl) ?_
  refine f_geti B hH ka53 (by decide) rfl wu_X10 1 (by decide) wf_X3_43 rfl rfl dX3_keepPart_7 ?_
  obtain ⟨q2, h⟩ := h
  refine lv_iadd B.1 B.2.1 dX3_keepPart_10 ?_
  rw [i32_add]
  refine lv_istore_n (lv' := [(2, .int (i32 ((gI σ a53 0 * 4) + gI σ a53 1))), (0, .ref th), (1, va_rf v1)]) B.1 B.2.1 dX3_keepPart_11 rfl hl (by decide) (by generalize v1 = w9; cases w9 <;> rfl) (fun ls hl => ?_)
  refine lv_aload_n B.1 B.2.1 dX3_keepPart_12 rfl (lv_at hl 1 rfl) ?_
  refine f_getp B hH hth (by decide) rfl wu_X3 0 (by decide) wf_X3_11 rfl rfl dX3_keepPart_13 ?_
  refine lv_iload_n B.1 B.2.1 dX3_keepPart_16 rfl (lv_at hl 0 rfl) ?_
  obtain ⟨a54, ea54, h⟩ := h
  have ka54 : kO σ a54 120 := (hYσ.get hth (by decide)) a54 ea54
  have h := h ka54
  obtain ⟨q3, h⟩ := h
  refine W.eq (g2 := F0 m 17 ls [.int (i32 ((gI σ a53 0 * 4) + gI σ a53 1)), .ref a54]) (by rw [ea54]; rfl) ?_
  refine y_aald B hH (t0 := 7) ka54 (by decide) K.2.1.2.2.2.2.1 q3 (hYσ.2 _) dX3_keepPart_17 ?_
  refine lv_ifnonnullQ (tgt := 34) B.1 B.2.1 dX3_keepPart_18 (by decide) (fun h9 => ?_) (fun h9 => ?_)
  · rw [if_pos (h9)] at h
    exact a_X3_keepPart_34 K hQ hX hTh _ _ _ g1 q2 h hGσ hYσ hE hth _ _ _ hH (lv_sub (l' := [(0, .ref th), (1, va_rf v1), (2, .int (i32 ((gI σ a53 0 * 4) + gI σ a53 1)))]) hl [1, 2, 0] rfl) hc
  · rw [if_neg (h9)] at h
    exact a_X3_keepPart_21 K hQ hX hTh _ _ _ g1 q2 h hGσ hYσ hE hth _ _ _ hH (lv_sub (l' := [(0, .ref th), (1, va_rf v1), (2, .int (i32 ((gI σ a53 0 * 4) + gI σ a53 1)))]) hl [1, 2, 0] rfl) hc
theorem ok_X3_keepPart (hl0 : l.stackTraces = false) (hT : TyC cA tys) {Q : Sg → Option Nat → Prop} {X : Sg → String → Prop} (σ : Sg) (th : Nat) (v1 : Option Nat) (g1 : tyV σ 10 v1) (hth : kO σ th 3) (hG : RG σ) (hY : TY σ) (h : wp_X3_keepPart th v1 σ Q X) : Ok l D cA tys A yX3_keepPart (.code yX3_keepPart cX3_keepPart 4 (some (.object "StreamHouse$Task"))) 3 52 [.ref th, va_rf v1] σ (QcA σ 10 Q) (QxC σ X) := by
  unfold wp_X3_keepPart at h
  exact oc_A hl0 (by decide) (by cases v1 <;> exact Nat.le_of_ble_eq_true rfl) hT (fun p e R s m args below meth c K hQ hX hTh H locs ls hH hl hc => a_X3_keepPart_0 K hQ hX hTh σ v1 g1 h hG hY (Ext.rfl' σ) hth H locs ls hH (lv_sub (l' := [(0, .ref th), (1, va_rf v1)]) hl [0, 1] (by cases v1 <;> rfl)) hc)
theorem dX3_write_0 : decode cX3_write 0 = .ok (.aload_n 0, 1) := by decide +kernel
theorem dX3_write_1 : decode cX3_write 1 = .ok (.getfield 20, 3) := by decide +kernel
theorem dX3_write_4 : decode cX3_write 4 = .ok (.ifCond .ne 10, 3) := by decide +kernel
theorem dX3_write_7 : decode cX3_write 7 = .ok (.aload_n 0, 1) := by decide +kernel
theorem dX3_write_8 : decode cX3_write 8 = .ok (.iconst 1, 1) := by decide +kernel
theorem dX3_write_9 : decode cX3_write 9 = .ok (.putfield 36, 3) := by decide +kernel
theorem dX3_write_12 : decode cX3_write 12 = .ok (.iconst 0, 1) := by decide +kernel
theorem dX3_write_13 : decode cX3_write 13 = .ok (.ireturn, 1) := by decide +kernel
theorem dX3_write_14 : decode cX3_write 14 = .ok (.aload_n 0, 1) := by decide +kernel
theorem dX3_write_15 : decode cX3_write 15 = .ok (.getfield 20, 3) := by decide +kernel
theorem dX3_write_18 : decode cX3_write 18 = .ok (.ifCond .le 13, 3) := by decide +kernel
theorem dX3_write_21 : decode cX3_write 21 = .ok (.aload_n 0, 1) := by decide +kernel
theorem dX3_write_22 : decode cX3_write 22 = .ok (.dup, 1) := by decide +kernel
theorem dX3_write_23 : decode cX3_write 23 = .ok (.getfield 20, 3) := by decide +kernel
theorem dX3_write_26 : decode cX3_write 26 = .ok (.iconst 1, 1) := by decide +kernel
theorem dX3_write_27 : decode cX3_write 27 = .ok (.isub, 1) := by decide +kernel
theorem dX3_write_28 : decode cX3_write 28 = .ok (.putfield 20, 3) := by decide +kernel
theorem dX3_write_31 : decode cX3_write 31 = .ok (.iconst 1, 1) := by decide +kernel
theorem dX3_write_32 : decode cX3_write 32 = .ok (.ireturn, 1) := by decide +kernel
set_option maxRecDepth 20000 in
theorem a_X3_write_31 {Q : Sg → Int → Prop} {X : Sg → String → Prop} {th : Nat} (K : MD l R p s m args c cX3_write 1 RX3 D cA tys A n0 s0 0 0 []) (hQ : CQZ p l e R s m args below meth c cX3_write D cA A n0 s0 QM σi Q) (hX : CX p l e R s m args below meth c 1 D cA A n0 s0 QM σi X) (hTh : CT p l e R s m args below meth c cX3_write 1 D cA A n0 s0 QM σi RX3 X) : ∀ (σ : Sg), w_X3_write_31 th Q X σ → RG σ → TY σ → Ext σi σ → kO σ th 3 → JJ p l e R s m args below meth c 1 D cA A n0 s0 QM σ 31 [(0, .ref th)] [] := by
  intro σ h hGσ hYσ hE hth H locs ls hH hl hc
  have B := K.1
  have hl9 := K.2.2.2.2.2.2
  unfold w_X3_write_31 at h
  refine lv_iconst (v := i32 1) B.1 B.2.1 dX3_write_31 (by decide) ?_
  exact hQ _ _ _ _ _ _ (by unfold rng; omega) (Or.inr rfl) dX3_write_32 hH hc h hGσ hYσ hE
set_option maxRecDepth 20000 in
theorem a_X3_write_21 {Q : Sg → Int → Prop} {X : Sg → String → Prop} {th : Nat} (K : MD l R p s m args c cX3_write 1 RX3 D cA tys A n0 s0 0 0 []) (hQ : CQZ p l e R s m args below meth c cX3_write D cA A n0 s0 QM σi Q) (hX : CX p l e R s m args below meth c 1 D cA A n0 s0 QM σi X) (hTh : CT p l e R s m args below meth c cX3_write 1 D cA A n0 s0 QM σi RX3 X) : ∀ (σ : Sg), w_X3_write_21 th Q X σ → RG σ → TY σ → Ext σi σ → kO σ th 3 → JJ p l e R s m args below meth c 1 D cA A n0 s0 QM σ 21 [(0, .ref th)] [] := by
  intro σ h hGσ hYσ hE hth H locs ls hH hl hc
  have B := K.1
  have hl9 := K.2.2.2.2.2.2
  unfold w_X3_write_21 at h
  refine lv_aload_n B.1 B.2.1 dX3_write_21 rfl (lv_at hl 0 rfl) ?_
  refine lv_dup B.1 B.2.1 dX3_write_22 rfl ?_
  refine f_geti B hH hth (by decide) rfl wu_X3 8 (by decide) wf_X3_20 rfl rfl dX3_write_23 ?_
  refine lv_iconst (v := i32 1) B.1 B.2.1 dX3_write_26 (by decide) ?_
  obtain ⟨q1, h⟩ := h
  refine lv_isub B.1 B.2.1 dX3_write_27 ?_
  rw [i32_sub]
  obtain ⟨σ5, eσ5⟩ : ∃ z, z = pI σ th 8 (gI σ th 8 - 1) := ⟨_, rfl⟩
  have h := h σ5 eσ5
  refine f_puti B hH hth (by decide) rfl wu_X3 tyX3 tyX3_ok nmX3 8 (by decide) wf_X3_20 rfl (ty := .int) rfl rfl rfl rfl rfl dX3_write_28 (fun H locs hH => ?_)
  have hH : Hd D cA A s (pI σ th 8 (gI σ th 8 - 1)) H locs := hH
  rw [← eσ5] at hH
  have hGσ5 : RG σ5 := by rw [eσ5]; exact hGσ.pI q1
  have hYσ5 : TY σ5 := by rw [eσ5]; exact hYσ.pI
  have xσ5 : Ext σ σ5 := by rw [eσ5]; exact Ext.pI
  have hc : CB n0 s0 σ5 := by rw [eσ5]; exact hc
  rw [show gc σ = gc σ5 by rw [eσ5]; try rfl, show gs σ = gs σ5 by rw [eσ5]; try rfl]
  exact a_X3_write_31 K hQ hX hTh _ h hGσ5 hYσ5 (hE.trans xσ5) (hth.up xσ5) _ _ _ hH (lv_sub (l' := [(0, .ref th)]) hl [0] rfl) hc
set_option maxRecDepth 20000 in
theorem a_X3_write_14 {Q : Sg → Int → Prop} {X : Sg → String → Prop} {th : Nat} (K : MD l R p s m args c cX3_write 1 RX3 D cA tys A n0 s0 0 0 []) (hQ : CQZ p l e R s m args below meth c cX3_write D cA A n0 s0 QM σi Q) (hX : CX p l e R s m args below meth c 1 D cA A n0 s0 QM σi X) (hTh : CT p l e R s m args below meth c cX3_write 1 D cA A n0 s0 QM σi RX3 X) : ∀ (σ : Sg), w_X3_write_14 th Q X σ → RG σ → TY σ → Ext σi σ → kO σ th 3 → JJ p l e R s m args below meth c 1 D cA A n0 s0 QM σ 14 [(0, .ref th)] [] := by
  intro σ h hGσ hYσ hE hth H locs ls hH hl hc
  have B := K.1
  have hl9 := K.2.2.2.2.2.2
  unfold w_X3_write_14 at h
  refine lv_aload_n B.1 B.2.1 dX3_write_14 rfl (lv_at hl 0 rfl) ?_
  refine f_geti B hH hth (by decide) rfl wu_X3 8 (by decide) wf_X3_20 rfl rfl dX3_write_15 ?_
  refine lv_if_le (tgt := 31) B.1 B.2.1 dX3_write_18 (by decide) (fun h9 => ?_) (fun h9 => ?_)
  · rw [if_pos ((z_le (hGσ _ _)).mp h9)] at h
    exact a_X3_write_31 K hQ hX hTh _ h hGσ hYσ hE hth _ _ _ hH (lv_sub (l' := [(0, .ref th)]) hl [0] rfl) hc
  · rw [if_neg (fun q => h9 ((z_le (hGσ _ _)).mpr q))] at h
    exact a_X3_write_21 K hQ hX hTh _ h hGσ hYσ hE hth _ _ _ hH (lv_sub (l' := [(0, .ref th)]) hl [0] rfl) hc
set_option maxRecDepth 20000 in
theorem a_X3_write_7 {Q : Sg → Int → Prop} {X : Sg → String → Prop} {th : Nat} (K : MD l R p s m args c cX3_write 1 RX3 D cA tys A n0 s0 0 0 []) (hQ : CQZ p l e R s m args below meth c cX3_write D cA A n0 s0 QM σi Q) (hX : CX p l e R s m args below meth c 1 D cA A n0 s0 QM σi X) (hTh : CT p l e R s m args below meth c cX3_write 1 D cA A n0 s0 QM σi RX3 X) : ∀ (σ : Sg), w_X3_write_7 th Q X σ → RG σ → TY σ → Ext σi σ → kO σ th 3 → JJ p l e R s m args below meth c 1 D cA A n0 s0 QM σ 7 [(0, .ref th)] [] := by
  intro σ h hGσ hYσ hE hth H locs ls hH hl hc
  have B := K.1
  have hl9 := K.2.2.2.2.2.2
  unfold w_X3_write_7 at h
  refine lv_aload_n B.1 B.2.1 dX3_write_7 rfl (lv_at hl 0 rfl) ?_
  refine lv_iconst (v := i32 1) B.1 B.2.1 dX3_write_8 (by decide) ?_
  obtain ⟨σ6, eσ6⟩ : ∃ z, z = pI σ th 9 1 := ⟨_, rfl⟩
  have h := h σ6 eσ6
  refine f_puti B hH hth (by decide) rfl wu_X3 tyX3 tyX3_ok nmX3 9 (by decide) wf_X3_36 rfl (ty := .boolean) rfl rfl rfl rfl rfl dX3_write_9 (fun H locs hH => ?_)
  have hH : Hd D cA A s (pI σ th 9 1) H locs := hH
  rw [← eσ6] at hH
  have hGσ6 : RG σ6 := by rw [eσ6]; exact hGσ.pI (by unfold rng; omega)
  have hYσ6 : TY σ6 := by rw [eσ6]; exact hYσ.pI
  have xσ6 : Ext σ σ6 := by rw [eσ6]; exact Ext.pI
  have hc : CB n0 s0 σ6 := by rw [eσ6]; exact hc
  rw [show gc σ = gc σ6 by rw [eσ6]; try rfl, show gs σ = gs σ6 by rw [eσ6]; try rfl]
  refine lv_iconst (v := i32 0) B.1 B.2.1 dX3_write_12 (by decide) ?_
  exact hQ _ _ _ _ _ _ (by unfold rng; omega) (Or.inl rfl) dX3_write_13 hH hc h hGσ6 hYσ6 (hE.trans xσ6)
set_option maxRecDepth 20000 in
theorem a_X3_write_0 {Q : Sg → Int → Prop} {X : Sg → String → Prop} {th : Nat} (K : MD l R p s m args c cX3_write 1 RX3 D cA tys A n0 s0 0 0 []) (hQ : CQZ p l e R s m args below meth c cX3_write D cA A n0 s0 QM σi Q) (hX : CX p l e R s m args below meth c 1 D cA A n0 s0 QM σi X) (hTh : CT p l e R s m args below meth c cX3_write 1 D cA A n0 s0 QM σi RX3 X) : ∀ (σ : Sg), w_X3_write_0 th Q X σ → RG σ → TY σ → Ext σi σ → kO σ th 3 → JJ p l e R s m args below meth c 1 D cA A n0 s0 QM σ 0 [(0, .ref th)] [] := by
  intro σ h hGσ hYσ hE hth H locs ls hH hl hc
  have B := K.1
  have hl9 := K.2.2.2.2.2.2
  unfold w_X3_write_0 at h
  refine lv_aload_n B.1 B.2.1 dX3_write_0 rfl (lv_at hl 0 rfl) ?_
  refine f_geti B hH hth (by decide) rfl wu_X3 8 (by decide) wf_X3_20 rfl rfl dX3_write_1 ?_
  refine lv_if_ne (tgt := 14) B.1 B.2.1 dX3_write_4 (by decide) (fun h9 => ?_) (fun h9 => ?_)
  · rw [if_pos (fun q => h9 ((z_eq (hGσ _ _)).mpr q))] at h
    exact a_X3_write_14 K hQ hX hTh _ h hGσ hYσ hE hth _ _ _ hH (lv_sub (l' := [(0, .ref th)]) hl [0] rfl) hc
  · rw [if_neg (fun q => q ((z_eq (hGσ _ _)).mp h9))] at h
    exact a_X3_write_7 K hQ hX hTh _ h hGσ hYσ hE hth _ _ _ hH (lv_sub (l' := [(0, .ref th)]) hl [0] rfl) hc
theorem ok_X3_write (hl0 : l.stackTraces = false) (hT : TyC cA tys) {Q : Sg → Int → Prop} {X : Sg → String → Prop} (σ : Sg) (th : Nat) (hth : kO σ th 3) (hG : RG σ) (hY : TY σ) (h : wp_X3_write th σ Q X) : Ok l D cA tys A yX3_write (.code yX3_write cX3_write 1 (some .boolean)) 0 0 [.ref th] σ (QcZ σ Q) (QxC σ X) := by
  unfold wp_X3_write at h
  exact oc_Z hl0 (by decide) (by exact Nat.le_of_ble_eq_true rfl) hT (fun p e R s m args below meth c K hQ hX hTh H locs ls hH hl hc => a_X3_write_0 K hQ hX hTh σ h hG hY (Ext.rfl' σ) hth H locs ls hH (lv_sub (l' := [(0, .ref th)]) hl [0] rfl) hc)
theorem dX8_copyAll_0 : decode cX8_copyAll 0 = .ok (.aload_n 1, 1) := by decide +kernel
theorem dX8_copyAll_1 : decode cX8_copyAll 1 = .ok (.getfield 63, 3) := by decide +kernel
theorem dX8_copyAll_4 : decode cX8_copyAll 4 = .ok (.astore_n 3, 1) := by decide +kernel
theorem dX8_copyAll_5 : decode cX8_copyAll 5 = .ok (.aload_n 3, 1) := by decide +kernel
theorem dX8_copyAll_6 : decode cX8_copyAll 6 = .ok (.ifnull 20, 3) := by decide +kernel
theorem dX8_copyAll_9 : decode cX8_copyAll 9 = .ok (.aload_n 2, 1) := by decide +kernel
theorem dX8_copyAll_10 : decode cX8_copyAll 10 = .ok (.aload_n 0, 1) := by decide +kernel
theorem dX8_copyAll_11 : decode cX8_copyAll 11 = .ok (.aload_n 3, 1) := by decide +kernel
theorem dX8_copyAll_12 : decode cX8_copyAll 12 = .ok (.invokevirtual 69, 3) := by decide +kernel
theorem dX8_copyAll_15 : decode cX8_copyAll 15 = .ok (.invokevirtual 73, 3) := by decide +kernel
theorem dX8_copyAll_18 : decode cX8_copyAll 18 = .ok (.aload_n 3, 1) := by decide +kernel
theorem dX8_copyAll_19 : decode cX8_copyAll 19 = .ok (.getfield 22, 3) := by decide +kernel
theorem dX8_copyAll_22 : decode cX8_copyAll 22 = .ok (.astore_n 3, 1) := by decide +kernel
theorem dX8_copyAll_23 : decode cX8_copyAll 23 = .ok (.goto (-18), 3) := by decide +kernel
theorem dX8_copyAll_26 : decode cX8_copyAll 26 = .ok (.return_, 1) := by decide +kernel
set_option maxRecDepth 20000 in
theorem a_X8_copyAll_26 {Q : Sg → Unit → Prop} {X : Sg → String → Prop} {th : Nat} (K : MD l R p s m args c cX8_copyAll 4 RX8 D cA tys A n0 s0 4 82 []) (hQ : CQV p l e R s m args below meth c cX8_copyAll D cA A n0 s0 QM σi Q) (hX : CX p l e R s m args below meth c 4 D cA A n0 s0 QM σi X) (hTh : CT p l e R s m args below meth c cX8_copyAll 4 D cA A n0 s0 QM σi RX8 X) : ∀ (σ : Sg), w_X8_copyAll_26 th Q X σ → RG σ → TY σ → Ext σi σ → kO σ th 8 → JJ p l e R s m args below meth c 4 D cA A n0 s0 QM σ 26 [(0, .ref th)] [] := by
  intro σ h hGσ hYσ hE hth H locs ls hH hl hc
  have B := K.1
  have hl9 := K.2.2.2.2.2.2
  unfold w_X8_copyAll_26 at h
  exact hQ _ _ _ _ _ dX8_copyAll_26 hH hc h hGσ hYσ hE
set_option maxRecDepth 20000 in
theorem a_X8_copyAll_9 {Q : Sg → Unit → Prop} {X : Sg → String → Prop} {th : Nat} (K : MD l R p s m args c cX8_copyAll 4 RX8 D cA tys A n0 s0 4 82 []) (hQ : CQV p l e R s m args below meth c cX8_copyAll D cA A n0 s0 QM σi Q) (hX : CX p l e R s m args below meth c 4 D cA A n0 s0 QM σi X) (hTh : CT p l e R s m args below meth c cX8_copyAll 4 D cA A n0 s0 QM σi RX8 X) {K5 : Sg → Option Nat → Option Nat → Prop} (hK5 : ∀ (σ : Sg) (v2 : Option Nat) (v3 : Option Nat) (g2 : tyV σ 1 v2) (g3 : tyV σ 0 v3), K5 σ v2 v3 → RG σ → TY σ → Ext σi σ → kO σ th 8 → JJ p l e R s m args below meth c 4 D cA A n0 s0 QM σ 5 [(0, .ref th), (2, va_rf v2), (3, va_rf v3)] []) : ∀ (σ : Sg) (v2 : Option Nat) (v3 : Option Nat) (g2 : tyV σ 1 v2) (g3 : tyV σ 0 v3), w_X8_copyAll_9 th K5 Q X σ v2 v3 → RG σ → TY σ → Ext σi σ → kO σ th 8 → JJ p l e R s m args below meth c 4 D cA A n0 s0 QM σ 9 [(0, .ref th), (2, va_rf v2), (3, va_rf v3)] [] := by
  intro σ v2 v3 g2 g3 h hGσ hYσ hE hth H locs ls hH hl hc
  have B := K.1
  have hl9 := K.2.2.2.2.2.2
  unfold w_X8_copyAll_9 at h
  refine lv_aload_nQ B.1 B.2.1 dX8_copyAll_9 rfl (lv_at hl 1 rfl) ?_
  refine lv_aload_n B.1 B.2.1 dX8_copyAll_10 rfl (lv_at hl 0 rfl) ?_
  refine lv_aload_nQ B.1 B.2.1 dX8_copyAll_11 rfl (lv_at hl 2 rfl) ?_
  refine W.eq (g2 := F0 m 12 ls [va_rf v3, .ref th, va_rf v2]) (rfl) ?_
  refine c_V B hH hl hc K.2.2.1 (C := RX8) (T := TX8) (N := 3) (ci := 8) (As := [va_rf v3]) (ok_X8_copyOf hl9 K.2.1 σ th v3 g3 hth hGσ hYσ h) wc_X8_69 1 hd_X8_copyOf ⟨Nat.le_trans (Nat.le_of_ble_eq_true rfl) K.2.2.2.1, Nat.le_trans (Nat.le_of_ble_eq_true rfl) K.2.2.2.2.1⟩ hth.1 hth.2 (by decide) rfl rfl (rest := [va_rf v2]) rfl (by simp only [List.map_cons, List.map_nil, rf_cat]; exact Nat.le_of_ble_eq_true rfl) dX8_copyAll_12 (fun σ13 w hq => ?_) (fun σ9 E9 hx9 => hX σ9 E9 _ _ _ (tb_out K.2.2.2.2.2.1 rfl) hx9.1 hx9.2.1 hx9.2.2.1 (hE.trans hx9.2.2.2))
  obtain ⟨r14, rfl, tr14, h, hGσ13, hYσ13, xσ13⟩ := hq
  have h := h xσ13 tr14
  intro H locs ls hH hl hc
  refine W.eq (g2 := F0 m 15 ls [va_rf r14, va_rf v2]) (rfl) ?_
  try dsimp only at h
  obtain ⟨a16, ea16, h⟩ := h
  have ka16 : kO σ13 a16 1 := (g2.up xσ13) a16 ea16
  have h := h ka16
  refine W.eq (g2 := F0 m 15 ls [va_rf r14, .ref a16]) (by rw [ea16]; rfl) ?_
  refine c_V B hH hl hc K.2.2.1 (C := RX1) (T := TX1) (N := 3) (ci := 1) (As := [va_rf r14]) (ok_X1_add hl9 K.2.1 σ13 a16 r14 tr14 ka16 hGσ13 hYσ13 h) wc_X8_73 1 hd_X1_add ⟨Nat.le_trans (Nat.le_of_ble_eq_true rfl) K.2.2.2.1, Nat.le_trans (Nat.le_of_ble_eq_true rfl) K.2.2.2.2.1⟩ ka16.1 ka16.2 (by decide) rfl rfl (rest := []) rfl (Nat.le_of_ble_eq_true rfl) dX8_copyAll_15 (fun σ15 w hq => ?_) (fun σ9 E9 hx9 => hX σ9 E9 _ _ _ (tb_out K.2.2.2.2.2.1 rfl) hx9.1 hx9.2.1 hx9.2.2.1 ((hE.trans xσ13).trans hx9.2.2.2))
  obtain ⟨rfl, h, hGσ15, hYσ15, xσ15⟩ := hq
  have h := h xσ15
  intro H locs ls hH hl hc
  refine W.eq (g2 := F0 m 18 ls []) (rfl) ?_
  try dsimp only at h
  refine lv_aload_nQ B.1 B.2.1 dX8_copyAll_18 rfl (lv_at hl 2 rfl) ?_
  obtain ⟨a17, ea17, h⟩ := h
  have ka17 : kO σ15 a17 0 := (g3.up (xσ13.trans xσ15)) a17 ea17
  have h := h ka17
  refine W.eq (g2 := F0 m 19 ls [.ref a17]) (by rw [ea17]; rfl) ?_
  refine f_getp B hH ka17 (by decide) rfl wu_X0 1 (by decide) wf_X8_22 rfl rfl dX8_copyAll_19 ?_
  refine lv_astore_nQ (lv' := [(3, va_rf (gP σ15 a17 1)), (0, .ref th), (2, va_rf v2)]) B.1 B.2.1 dX8_copyAll_22 rfl hl (by decide) (by generalize v2 = w9; cases w9 <;> rfl) (fun ls hl => ?_)
  refine lv_goto (tgt := 5) B.1 B.2.1 dX8_copyAll_23 (by decide) ?_
  exact hK5 _ _ _ (g2.up (xσ13.trans xσ15)) (hYσ15.get ka17 (by decide)) h hGσ15 hYσ15 ((hE.trans xσ13).trans xσ15) (hth.up (xσ13.trans xσ15)) _ _ _ hH (lv_sub (l' := [(0, .ref th), (2, va_rf v2), (3, va_rf (gP σ15 a17 1))]) hl [1, 2, 0] rfl) hc
set_option maxRecDepth 20000 in
theorem a_X8_copyAll_5 {Q : Sg → Unit → Prop} {X : Sg → String → Prop} {th : Nat} (K : MD l R p s m args c cX8_copyAll 4 RX8 D cA tys A n0 s0 4 82 []) (hQ : CQV p l e R s m args below meth c cX8_copyAll D cA A n0 s0 QM σi Q) (hX : CX p l e R s m args below meth c 4 D cA A n0 s0 QM σi X) (hTh : CT p l e R s m args below meth c cX8_copyAll 4 D cA A n0 s0 QM σi RX8 X) {K5 : Sg → Option Nat → Option Nat → Prop} (hK5 : ∀ (σ : Sg) (v2 : Option Nat) (v3 : Option Nat) (g2 : tyV σ 1 v2) (g3 : tyV σ 0 v3), K5 σ v2 v3 → RG σ → TY σ → Ext σi σ → kO σ th 8 → JJ p l e R s m args below meth c 4 D cA A n0 s0 QM σ 5 [(0, .ref th), (2, va_rf v2), (3, va_rf v3)] []) : ∀ (σ : Sg) (v2 : Option Nat) (v3 : Option Nat) (g2 : tyV σ 1 v2) (g3 : tyV σ 0 v3), w_X8_copyAll_5 th K5 Q X σ v2 v3 → RG σ → TY σ → Ext σi σ → kO σ th 8 → JJ p l e R s m args below meth c 4 D cA A n0 s0 QM σ 5 [(0, .ref th), (2, va_rf v2), (3, va_rf v3)] [] := by
  intro σ v2 v3 g2 g3 h hGσ hYσ hE hth H locs ls hH hl hc
  have B := K.1
  have hl9 := K.2.2.2.2.2.2
  unfold w_X8_copyAll_5 at h
  refine lv_aload_nQ B.1 B.2.1 dX8_copyAll_5 rfl (lv_at hl 2 rfl) ?_
  refine lv_ifnullQ (tgt := 26) B.1 B.2.1 dX8_copyAll_6 (by decide) (fun h9 => ?_) (fun h9 => ?_)
  · rw [if_pos (h9)] at h
    exact a_X8_copyAll_26 K hQ hX hTh _ h hGσ hYσ hE hth _ _ _ hH (lv_sub (l' := [(0, .ref th)]) hl [0] rfl) hc
  · rw [if_neg (h9)] at h
    exact a_X8_copyAll_9 K hQ hX hTh hK5 _ _ _ g2 g3 h hGσ hYσ hE hth _ _ _ hH (lv_sub (l' := [(0, .ref th), (2, va_rf v2), (3, va_rf v3)]) hl [0, 1, 2] rfl) hc
theorem al_X8_copyAll_5 {Q : Sg → Unit → Prop} {X : Sg → String → Prop} {th : Nat} (K : MD l R p s m args c cX8_copyAll 4 RX8 D cA tys A n0 s0 4 82 []) (hQ : CQV p l e R s m args below meth c cX8_copyAll D cA A n0 s0 QM σi Q) (hX : CX p l e R s m args below meth c 4 D cA A n0 s0 QM σi X) (hTh : CT p l e R s m args below meth c cX8_copyAll 4 D cA A n0 s0 QM σi RX8 X) : ∀ (n : Nat), ∀ (σ : Sg) (v2 : Option Nat) (v3 : Option Nat) (g2 : tyV σ 1 v2) (g3 : tyV σ 0 v3), wl_X8_copyAll_5 th Q X n σ v2 v3 → RG σ → TY σ → Ext σi σ → kO σ th 8 → JJ p l e R s m args below meth c 4 D cA A n0 s0 QM σ 5 [(0, .ref th), (2, va_rf v2), (3, va_rf v3)] [] := by
  intro n
  induction n with
  | zero => intro σ v2 v3 g2 g3 h; exact h.elim
  | succ n ih => exact fun σ v2 v3 g2 g3 h => a_X8_copyAll_5 K hQ hX hTh ih σ v2 v3 g2 g3 h
set_option maxRecDepth 20000 in
theorem a_X8_copyAll_0 {Q : Sg → Unit → Prop} {X : Sg → String → Prop} {th : Nat} (K : MD l R p s m args c cX8_copyAll 4 RX8 D cA tys A n0 s0 4 82 []) (hQ : CQV p l e R s m args below meth c cX8_copyAll D cA A n0 s0 QM σi Q) (hX : CX p l e R s m args below meth c 4 D cA A n0 s0 QM σi X) (hTh : CT p l e R s m args below meth c cX8_copyAll 4 D cA A n0 s0 QM σi RX8 X) : ∀ (σ : Sg) (v1 : Option Nat) (v2 : Option Nat) (g1 : tyV σ 1 v1) (g2 : tyV σ 1 v2), w_X8_copyAll_0 th Q X σ v1 v2 → RG σ → TY σ → Ext σi σ → kO σ th 8 → JJ p l e R s m args below meth c 4 D cA A n0 s0 QM σ 0 [(0, .ref th), (1, va_rf v1), (2, va_rf v2)] [] := by
  intro σ v1 v2 g1 g2 h hGσ hYσ hE hth H locs ls hH hl hc
  have B := K.1
  have hl9 := K.2.2.2.2.2.2
  unfold w_X8_copyAll_0 at h
  refine lv_aload_nQ B.1 B.2.1 dX8_copyAll_0 rfl (lv_at hl 1 rfl) ?_
  obtain ⟨a18, ea18, h⟩ := h
  have ka18 : kO σ a18 1 := g1 a18 ea18
  have h := h ka18
  refine W.eq (g2 := F0 m 1 ls [.ref a18]) (by rw [ea18]; rfl) ?_
  refine f_getp B hH ka18 (by decide) rfl wu_X1 0 (by decide) wf_X8_63 rfl rfl dX8_copyAll_1 ?_
  refine lv_astore_nQ (lv' := [(3, va_rf (gP σ a18 0)), (0, .ref th), (1, va_rf v1), (2, va_rf v2)]) B.1 B.2.1 dX8_copyAll_4 rfl hl (by decide) (by generalize v2 = w9; cases w9 <;> rfl) (fun ls hl => ?_)
  obtain ⟨n9, h⟩ := h
  exact al_X8_copyAll_5 K hQ hX hTh n9 _ _ _ g2 (hYσ.get ka18 (by decide)) h hGσ hYσ hE hth _ _ _ hH (lv_sub (l' := [(0, .ref th), (2, va_rf v2), (3, va_rf (gP σ a18 0))]) hl [1, 3, 0] rfl) hc
theorem ok_X8_copyAll (hl0 : l.stackTraces = false) (hT : TyC cA tys) {Q : Sg → Unit → Prop} {X : Sg → String → Prop} (σ : Sg) (th : Nat) (v1 : Option Nat) (v2 : Option Nat) (g1 : tyV σ 1 v1) (g2 : tyV σ 1 v2) (hth : kO σ th 8) (hG : RG σ) (hY : TY σ) (h : wp_X8_copyAll th v1 v2 σ Q X) : Ok l D cA tys A yX8_copyAll (.code yX8_copyAll cX8_copyAll 4 none) 4 82 [.ref th, va_rf v1, va_rf v2] σ (QcV σ Q) (QxC σ X) := by
  unfold wp_X8_copyAll at h
  exact oc_V hl0 (by decide) (by cases v1 <;> cases v2 <;> exact Nat.le_of_ble_eq_true rfl) hT (fun p e R s m args below meth c K hQ hX hTh hin9 H locs ls hH hl hc => a_X8_copyAll_0 K hQ hX hTh σ v1 v2 g1 g2 h hG hY (Ext.rfl' σ) hth H locs ls hH (lv_sub (l' := [(0, .ref th), (1, va_rf v1), (2, va_rf v2)]) hl [0, 1, 2] (by cases v1 <;> cases v2 <;> rfl)) hc)
theorem dX3_seal_0 : decode cX3_seal 0 = .ok (.aload_n 0, 1) := by decide +kernel
theorem dX3_seal_1 : decode cX3_seal 1 = .ok (.getfield 17, 3) := by decide +kernel
theorem dX3_seal_4 : decode cX3_seal 4 = .ok (.astore_n 3, 1) := by decide +kernel
theorem dX3_seal_5 : decode cX3_seal 5 = .ok (.aload_n 0, 1) := by decide +kernel
theorem dX3_seal_6 : decode cX3_seal 6 = .ok (.aload_n 0, 1) := by decide +kernel
theorem dX3_seal_7 : decode cX3_seal 7 = .ok (.getfield 11, 3) := by decide +kernel
theorem dX3_seal_10 : decode cX3_seal 10 = .ok (.putfield 17, 3) := by decide +kernel
theorem dX3_seal_13 : decode cX3_seal 13 = .ok (.aload_n 0, 1) := by decide +kernel
theorem dX3_seal_14 : decode cX3_seal 14 = .ok (.aload_n 3, 1) := by decide +kernel
theorem dX3_seal_15 : decode cX3_seal 15 = .ok (.putfield 11, 3) := by decide +kernel
theorem dX3_seal_18 : decode cX3_seal 18 = .ok (.aload_n 0, 1) := by decide +kernel
theorem dX3_seal_19 : decode cX3_seal 19 = .ok (.aload_n 0, 1) := by decide +kernel
theorem dX3_seal_20 : decode cX3_seal 20 = .ok (.getfield 27, 3) := by decide +kernel
theorem dX3_seal_23 : decode cX3_seal 23 = .ok (.putfield 64, 3) := by decide +kernel
theorem dX3_seal_26 : decode cX3_seal 26 = .ok (.aload_n 0, 1) := by decide +kernel
theorem dX3_seal_27 : decode cX3_seal 27 = .ok (.iload_n 2, 1) := by decide +kernel
theorem dX3_seal_28 : decode cX3_seal 28 = .ok (.putfield 67, 3) := by decide +kernel
theorem dX3_seal_31 : decode cX3_seal 31 = .ok (.aload_n 0, 1) := by decide +kernel
theorem dX3_seal_32 : decode cX3_seal 32 = .ok (.iconst 0, 1) := by decide +kernel
theorem dX3_seal_33 : decode cX3_seal 33 = .ok (.putfield 27, 3) := by decide +kernel
theorem dX3_seal_36 : decode cX3_seal 36 = .ok (.aload_n 1, 1) := by decide +kernel
theorem dX3_seal_37 : decode cX3_seal 37 = .ok (.aload_n 0, 1) := by decide +kernel
theorem dX3_seal_38 : decode cX3_seal 38 = .ok (.getfield 11, 3) := by decide +kernel
theorem dX3_seal_41 : decode cX3_seal 41 = .ok (.invokestatic 70, 3) := by decide +kernel
theorem dX3_seal_44 : decode cX3_seal 44 = .ok (.return_, 1) := by decide +kernel
set_option maxRecDepth 20000 in
theorem a_X3_seal_0 {Q : Sg → Unit → Prop} {X : Sg → String → Prop} {th : Nat} (K : MD l R p s m args c cX3_seal 4 RX3 D cA tys A n0 s0 2 43 []) (hQ : CQV p l e R s m args below meth c cX3_seal D cA A n0 s0 QM σi Q) (hX : CX p l e R s m args below meth c 4 D cA A n0 s0 QM σi X) (hTh : CT p l e R s m args below meth c cX3_seal 4 D cA A n0 s0 QM σi RX3 X) : ∀ (σ : Sg) (v1 : Option Nat) (v2 : Int) (g1 : tyV σ 8 v1) (g2 : rng v2), w_X3_seal_0 th Q X σ v1 v2 → RG σ → TY σ → Ext σi σ → kO σ th 3 → JJ p l e R s m args below meth c 4 D cA A n0 s0 QM σ 0 [(0, .ref th), (1, va_rf v1), (2, .int (i32 v2))] [] := by
  intro σ v1 v2 g1 g2 h hGσ hYσ hE hth H locs ls hH hl hc
  have B := K.1
  have hl9 := K.2.2.2.2.2.2
  unfold w_X3_seal_0 at h
  refine lv_aload_n B.1 B.2.1 dX3_seal_0 rfl (lv_at hl 0 rfl) ?_
  refine f_getp B hH hth (by decide) rfl wu_X3 1 (by decide) wf_X3_17 rfl rfl dX3_seal_1 ?_
  refine lv_astore_nQ (lv' := [(3, va_rf (gP σ th 1)), (0, .ref th), (1, va_rf v1), (2, .int (i32 v2))]) B.1 B.2.1 dX3_seal_4 rfl hl (by decide) rfl (fun ls hl => ?_)
  refine lv_aload_n B.1 B.2.1 dX3_seal_5 rfl (lv_at hl 1 rfl) ?_
  refine lv_aload_n B.1 B.2.1 dX3_seal_6 rfl (lv_at hl 1 rfl) ?_
  refine f_getp B hH hth (by decide) rfl wu_X3 0 (by decide) wf_X3_11 rfl rfl dX3_seal_7 ?_
  obtain ⟨σ13, eσ13⟩ : ∃ z, z = pP σ th 1 (gP σ th 0) := ⟨_, rfl⟩
  have h := h σ13 eσ13
  refine W.eq (g2 := F0 m 10 ls [va_rf (gP σ th 0), .ref th]) (rfl) ?_
  refine f_putp B hH hth (by decide) rfl wu_X3 tyX3 tyX3_ok nmX3 1 (by decide) wf_X3_17 rfl (r := (gP σ th 0)) (ty := .array (.object "StreamHouse$Task")) rfl rfl rfl (nrA _ _) (ftA _ _) dX3_seal_10 (fun H locs hH => ?_)
  have hH : Hd D cA A s (pP σ th 1 (gP σ th 0)) H locs := hH
  rw [← eσ13] at hH
  have hGσ13 : RG σ13 := by rw [eσ13]; exact hGσ.pP
  have hYσ13 : TY σ13 := by rw [eσ13]; exact hYσ.pP hth (d := 120) (by decide) (hYσ.get hth (by decide))
  have xσ13 : Ext σ σ13 := by rw [eσ13]; exact Ext.pP
  have hc : CB n0 s0 σ13 := by rw [eσ13]; exact hc
  rw [show gc σ = gc σ13 by rw [eσ13]; try rfl, show gs σ = gs σ13 by rw [eσ13]; try rfl]
  refine lv_aload_n B.1 B.2.1 dX3_seal_13 rfl (lv_at hl 1 rfl) ?_
  refine lv_aload_nQ B.1 B.2.1 dX3_seal_14 rfl (lv_at hl 0 rfl) ?_
  obtain ⟨σ14, eσ14⟩ : ∃ z, z = pP σ13 th 0 (gP σ th 1) := ⟨_, rfl⟩
  have h := h σ14 eσ14
  refine W.eq (g2 := F0 m 15 ls [va_rf (gP σ th 1), .ref th]) (rfl) ?_
  refine f_putp B hH (hth.up xσ13) (by decide) rfl wu_X3 tyX3 tyX3_ok nmX3 0 (by decide) wf_X3_11 rfl (r := (gP σ th 1)) (ty := .array (.object "StreamHouse$Task")) rfl rfl rfl (nrA _ _) (ftA _ _) dX3_seal_15 (fun H locs hH => ?_)
  have hH : Hd D cA A s (pP σ13 th 0 (gP σ th 1)) H locs := hH
  rw [← eσ14] at hH
  have hGσ14 : RG σ14 := by rw [eσ14]; exact hGσ13.pP
  have hYσ14 : TY σ14 := by rw [eσ14]; exact hYσ13.pP (hth.up xσ13) (d := 120) (by decide) ((hYσ.get hth (by decide)).up xσ13)
  have xσ14 : Ext σ13 σ14 := by rw [eσ14]; exact Ext.pP
  have hc : CB n0 s0 σ14 := by rw [eσ14]; exact hc
  rw [show gc σ13 = gc σ14 by rw [eσ14]; try rfl, show gs σ13 = gs σ14 by rw [eσ14]; try rfl]
  refine lv_aload_n B.1 B.2.1 dX3_seal_18 rfl (lv_at hl 1 rfl) ?_
  refine lv_aload_n B.1 B.2.1 dX3_seal_19 rfl (lv_at hl 1 rfl) ?_
  refine f_geti B hH (hth.up (xσ13.trans xσ14)) (by decide) rfl wu_X3 3 (by decide) wf_X3_27 rfl rfl dX3_seal_20 ?_
  obtain ⟨σ15, eσ15⟩ : ∃ z, z = pI σ14 th 4 (gI σ14 th 3) := ⟨_, rfl⟩
  have h := h σ15 eσ15
  refine f_puti B hH (hth.up (xσ13.trans xσ14)) (by decide) rfl wu_X3 tyX3 tyX3_ok nmX3 4 (by decide) wf_X3_64 rfl (ty := .int) rfl rfl rfl rfl rfl dX3_seal_23 (fun H locs hH => ?_)
  have hH : Hd D cA A s (pI σ14 th 4 (gI σ14 th 3)) H locs := hH
  rw [← eσ15] at hH
  have hGσ15 : RG σ15 := by rw [eσ15]; exact hGσ14.pI (hGσ14 _ _)
  have hYσ15 : TY σ15 := by rw [eσ15]; exact hYσ14.pI
  have xσ15 : Ext σ14 σ15 := by rw [eσ15]; exact Ext.pI
  have hc : CB n0 s0 σ15 := by rw [eσ15]; exact hc
  rw [show gc σ14 = gc σ15 by rw [eσ15]; try rfl, show gs σ14 = gs σ15 by rw [eσ15]; try rfl]
  refine lv_aload_n B.1 B.2.1 dX3_seal_26 rfl (lv_at hl 1 rfl) ?_
  refine lv_iload_n B.1 B.2.1 dX3_seal_27 rfl (lv_at hl 3 rfl) ?_
  obtain ⟨σ16, eσ16⟩ : ∃ z, z = pI σ15 th 5 v2 := ⟨_, rfl⟩
  have h := h σ16 eσ16
  refine f_puti B hH (hth.up (xσ13.trans (xσ14.trans xσ15))) (by decide) rfl wu_X3 tyX3 tyX3_ok nmX3 5 (by decide) wf_X3_67 rfl (ty := .int) rfl rfl rfl rfl rfl dX3_seal_28 (fun H locs hH => ?_)
  have hH : Hd D cA A s (pI σ15 th 5 v2) H locs := hH
  rw [← eσ16] at hH
  have hGσ16 : RG σ16 := by rw [eσ16]; exact hGσ15.pI g2
  have hYσ16 : TY σ16 := by rw [eσ16]; exact hYσ15.pI
  have xσ16 : Ext σ15 σ16 := by rw [eσ16]; exact Ext.pI
  have hc : CB n0 s0 σ16 := by rw [eσ16]; exact hc
  rw [show gc σ15 = gc σ16 by rw [eσ16]; try rfl, show gs σ15 = gs σ16 by rw [eσ16]; try rfl]
  refine lv_aload_n B.1 B.2.1 dX3_seal_31 rfl (lv_at hl 1 rfl) ?_
  refine lv_iconst (v := i32 0) B.1 B.2.1 dX3_seal_32 (by decide) ?_
  obtain ⟨σ17, eσ17⟩ : ∃ z, z = pI σ16 th 3 0 := ⟨_, rfl⟩
  have h := h σ17 eσ17
  refine f_puti B hH (hth.up (xσ13.trans (xσ14.trans (xσ15.trans xσ16)))) (by decide) rfl wu_X3 tyX3 tyX3_ok nmX3 3 (by decide) wf_X3_27 rfl (ty := .int) rfl rfl rfl rfl rfl dX3_seal_33 (fun H locs hH => ?_)
  have hH : Hd D cA A s (pI σ16 th 3 0) H locs := hH
  rw [← eσ17] at hH
  have hGσ17 : RG σ17 := by rw [eσ17]; exact hGσ16.pI (by unfold rng; omega)
  have hYσ17 : TY σ17 := by rw [eσ17]; exact hYσ16.pI
  have xσ17 : Ext σ16 σ17 := by rw [eσ17]; exact Ext.pI
  have hc : CB n0 s0 σ17 := by rw [eσ17]; exact hc
  rw [show gc σ16 = gc σ17 by rw [eσ17]; try rfl, show gs σ16 = gs σ17 by rw [eσ17]; try rfl]
  refine lv_aload_nQ B.1 B.2.1 dX3_seal_36 rfl (lv_at hl 2 rfl) ?_
  refine lv_aload_n B.1 B.2.1 dX3_seal_37 rfl (lv_at hl 1 rfl) ?_
  refine f_getp B hH (hth.up (xσ13.trans (xσ14.trans (xσ15.trans (xσ16.trans xσ17))))) (by decide) rfl wu_X3 0 (by decide) wf_X3_11 rfl rfl dX3_seal_38 ?_
  refine W.eq (g2 := F0 m 41 ls [va_rf (gP σ17 th 0), va_rf v1]) (rfl) ?_
  refine c_S B hH hl hc K.2.2.1 (As := [va_rf v1, va_rf (gP σ17 th 0)]) (ok_X3_releaseParts hl9 K.2.1 σ17 v1 (gP σ17 th 0) (g1.up (xσ13.trans (xσ14.trans (xσ15.trans (xσ16.trans xσ17))))) (hYσ17.get (hth.up (xσ13.trans (xσ14.trans (xσ15.trans (xσ16.trans xσ17))))) (by decide)) hGσ17 hYσ17 h) wc_X3_70 2 hd_X3_releaseParts ⟨Nat.le_trans (Nat.le_of_ble_eq_true rfl) K.2.2.2.1, Nat.le_trans (Nat.le_of_ble_eq_true rfl) K.2.2.2.2.1⟩ rfl (rest := []) rfl (Nat.le_of_ble_eq_true rfl) dX3_seal_41 (fun σ18 w hq => ?_) (fun σ9 E9 hx9 => hX σ9 E9 _ _ _ (tb_out K.2.2.2.2.2.1 rfl) hx9.1 hx9.2.1 hx9.2.2.1 ((((((hE.trans xσ13).trans xσ14).trans xσ15).trans xσ16).trans xσ17).trans hx9.2.2.2))
  obtain ⟨rfl, h, hGσ18, hYσ18, xσ18⟩ := hq
  have h := h xσ18
  intro H locs ls hH hl hc
  refine W.eq (g2 := F0 m 44 ls []) (rfl) ?_
  try dsimp only at h
  exact hQ _ _ _ _ _ dX3_seal_44 hH hc h hGσ18 hYσ18 ((((((hE.trans xσ13).trans xσ14).trans xσ15).trans xσ16).trans xσ17).trans xσ18)
theorem ok_X3_seal (hl0 : l.stackTraces = false) (hT : TyC cA tys) {Q : Sg → Unit → Prop} {X : Sg → String → Prop} (σ : Sg) (th : Nat) (v1 : Option Nat) (v2 : Int) (g1 : tyV σ 8 v1) (g2 : rng v2) (hth : kO σ th 3) (hG : RG σ) (hY : TY σ) (h : wp_X3_seal th v1 v2 σ Q X) : Ok l D cA tys A yX3_seal (.code yX3_seal cX3_seal 4 none) 2 43 [.ref th, va_rf v1, .int (i32 v2)] σ (QcV σ Q) (QxC σ X) := by
  unfold wp_X3_seal at h
  exact oc_V hl0 (by decide) (by cases v1 <;> exact Nat.le_of_ble_eq_true rfl) hT (fun p e R s m args below meth c K hQ hX hTh hin9 H locs ls hH hl hc => a_X3_seal_0 K hQ hX hTh σ v1 v2 g1 g2 h hG hY (Ext.rfl' σ) hth H locs ls hH (lv_sub (l' := [(0, .ref th), (1, va_rf v1), (2, .int (i32 v2))]) hl [0, 1, 2] (by cases v1 <;> rfl)) hc)
theorem dX9_seal_0 : decode cX9_seal 0 = .ok (.aload_n 0, 1) := by decide +kernel
theorem dX9_seal_1 : decode cX9_seal 1 = .ok (.getfield 12, 3) := by decide +kernel
theorem dX9_seal_4 : decode cX9_seal 4 = .ok (.invokevirtual 413, 3) := by decide +kernel
theorem dX9_seal_7 : decode cX9_seal 7 = .ok (.ifCond .ne 5, 3) := by decide +kernel
theorem dX9_seal_10 : decode cX9_seal 10 = .ok (.iconst 0, 1) := by decide +kernel
theorem dX9_seal_11 : decode cX9_seal 11 = .ok (.ireturn, 1) := by decide +kernel
theorem dX9_seal_12 : decode cX9_seal 12 = .ok (.aload_n 0, 1) := by decide +kernel
theorem dX9_seal_13 : decode cX9_seal 13 = .ok (.getfield 12, 3) := by decide +kernel
theorem dX9_seal_16 : decode cX9_seal 16 = .ok (.aload_n 0, 1) := by decide +kernel
theorem dX9_seal_17 : decode cX9_seal 17 = .ok (.getfield 48, 3) := by decide +kernel
theorem dX9_seal_20 : decode cX9_seal 20 = .ok (.aload_n 0, 1) := by decide +kernel
theorem dX9_seal_21 : decode cX9_seal 21 = .ok (.getfield 157, 3) := by decide +kernel
theorem dX9_seal_24 : decode cX9_seal 24 = .ok (.invokevirtual 434, 3) := by decide +kernel
theorem dX9_seal_27 : decode cX9_seal 27 = .ok (.iconst 0, 1) := by decide +kernel
theorem dX9_seal_28 : decode cX9_seal 28 = .ok (.istore_n 1, 1) := by decide +kernel
theorem dX9_seal_29 : decode cX9_seal 29 = .ok (.iload_n 1, 1) := by decide +kernel
theorem dX9_seal_30 : decode cX9_seal 30 = .ok (.aload_n 0, 1) := by decide +kernel
theorem dX9_seal_31 : decode cX9_seal 31 = .ok (.getfield 78, 3) := by decide +kernel
theorem dX9_seal_34 : decode cX9_seal 34 = .ok (.if_icmp .ge 19, 3) := by decide +kernel
theorem dX9_seal_37 : decode cX9_seal 37 = .ok (.aload_n 0, 1) := by decide +kernel
theorem dX9_seal_38 : decode cX9_seal 38 = .ok (.getfield 20, 3) := by decide +kernel
theorem dX9_seal_41 : decode cX9_seal 41 = .ok (.iload_n 1, 1) := by decide +kernel
theorem dX9_seal_42 : decode cX9_seal 42 = .ok (.aaload, 1) := by decide +kernel
theorem dX9_seal_43 : decode cX9_seal 43 = .ok (.iconst 0, 1) := by decide +kernel
theorem dX9_seal_44 : decode cX9_seal 44 = .ok (.putfield 353, 3) := by decide +kernel
theorem dX9_seal_47 : decode cX9_seal 47 = .ok (.iinc 1 1, 3) := by decide +kernel
theorem dX9_seal_50 : decode cX9_seal 50 = .ok (.goto (-21), 3) := by decide +kernel
theorem dX9_seal_53 : decode cX9_seal 53 = .ok (.aload_n 0, 1) := by decide +kernel
theorem dX9_seal_54 : decode cX9_seal 54 = .ok (.getfield 57, 3) := by decide +kernel
theorem dX9_seal_57 : decode cX9_seal 57 = .ok (.getfield 280, 3) := by decide +kernel
theorem dX9_seal_60 : decode cX9_seal 60 = .ok (.astore_n 1, 1) := by decide +kernel
theorem dX9_seal_61 : decode cX9_seal 61 = .ok (.iconst 0, 1) := by decide +kernel
theorem dX9_seal_62 : decode cX9_seal 62 = .ok (.istore_n 2, 1) := by decide +kernel
theorem dX9_seal_63 : decode cX9_seal 63 = .ok (.iload_n 2, 1) := by decide +kernel
theorem dX9_seal_64 : decode cX9_seal 64 = .ok (.aload_n 0, 1) := by decide +kernel
theorem dX9_seal_65 : decode cX9_seal 65 = .ok (.getfield 100, 3) := by decide +kernel
theorem dX9_seal_68 : decode cX9_seal 68 = .ok (.getfield 436, 3) := by decide +kernel
theorem dX9_seal_71 : decode cX9_seal 71 = .ok (.if_icmp .ge 69, 3) := by decide +kernel
theorem dX9_seal_74 : decode cX9_seal 74 = .ok (.aload_n 0, 1) := by decide +kernel
theorem dX9_seal_75 : decode cX9_seal 75 = .ok (.getfield 100, 3) := by decide +kernel
theorem dX9_seal_78 : decode cX9_seal 78 = .ok (.iload_n 2, 1) := by decide +kernel
theorem dX9_seal_79 : decode cX9_seal 79 = .ok (.invokevirtual 439, 3) := by decide +kernel
theorem dX9_seal_82 : decode cX9_seal 82 = .ok (.getfield 443, 3) := by decide +kernel
theorem dX9_seal_85 : decode cX9_seal 85 = .ok (.istore_n 3, 1) := by decide +kernel
theorem dX9_seal_86 : decode cX9_seal 86 = .ok (.aload_n 0, 1) := by decide +kernel
theorem dX9_seal_87 : decode cX9_seal 87 = .ok (.getfield 42, 3) := by decide +kernel
theorem dX9_seal_90 : decode cX9_seal 90 = .ok (.iload_n 2, 1) := by decide +kernel
theorem dX9_seal_91 : decode cX9_seal 91 = .ok (.aaload, 1) := by decide +kernel
theorem dX9_seal_92 : decode cX9_seal 92 = .ok (.invokevirtual 287, 3) := by decide +kernel
theorem dX9_seal_95 : decode cX9_seal 95 = .ok (.astore 4, 2) := by decide +kernel
theorem dX9_seal_97 : decode cX9_seal 97 = .ok (.aload 4, 2) := by decide +kernel
theorem dX9_seal_99 : decode cX9_seal 99 = .ok (.ifnull 25, 3) := by decide +kernel
theorem dX9_seal_102 : decode cX9_seal 102 = .ok (.aload_n 1, 1) := by decide +kernel
theorem dX9_seal_103 : decode cX9_seal 103 = .ok (.aload 4, 2) := by decide +kernel
theorem dX9_seal_105 : decode cX9_seal 105 = .ok (.iconst 1, 1) := by decide +kernel
theorem dX9_seal_106 : decode cX9_seal 106 = .ok (.iload_n 3, 1) := by decide +kernel
theorem dX9_seal_107 : decode cX9_seal 107 = .ok (.invokevirtual 446, 3) := by decide +kernel
theorem dX9_seal_110 : decode cX9_seal 110 = .ok (.aload_n 0, 1) := by decide +kernel
theorem dX9_seal_111 : decode cX9_seal 111 = .ok (.getfield 42, 3) := by decide +kernel
theorem dX9_seal_114 : decode cX9_seal 114 = .ok (.iload_n 2, 1) := by decide +kernel
theorem dX9_seal_115 : decode cX9_seal 115 = .ok (.aaload, 1) := by decide +kernel
theorem dX9_seal_116 : decode cX9_seal 116 = .ok (.invokevirtual 287, 3) := by decide +kernel
theorem dX9_seal_119 : decode cX9_seal 119 = .ok (.astore 4, 2) := by decide +kernel
theorem dX9_seal_121 : decode cX9_seal 121 = .ok (.goto (-24), 3) := by decide +kernel
theorem dX9_seal_124 : decode cX9_seal 124 = .ok (.aload_n 1, 1) := by decide +kernel
theorem dX9_seal_125 : decode cX9_seal 125 = .ok (.aload_n 0, 1) := by decide +kernel
theorem dX9_seal_126 : decode cX9_seal 126 = .ok (.getfield 45, 3) := by decide +kernel
theorem dX9_seal_129 : decode cX9_seal 129 = .ok (.iload_n 2, 1) := by decide +kernel
theorem dX9_seal_130 : decode cX9_seal 130 = .ok (.aaload, 1) := by decide +kernel
theorem dX9_seal_131 : decode cX9_seal 131 = .ok (.invokevirtual 425, 3) := by decide +kernel
theorem dX9_seal_134 : decode cX9_seal 134 = .ok (.iinc 2 1, 3) := by decide +kernel
theorem dX9_seal_137 : decode cX9_seal 137 = .ok (.goto (-74), 3) := by decide +kernel
theorem dX9_seal_140 : decode cX9_seal 140 = .ok (.iconst 1, 1) := by decide +kernel
theorem dX9_seal_141 : decode cX9_seal 141 = .ok (.ireturn, 1) := by decide +kernel
set_option maxRecDepth 20000 in
theorem a_X9_seal_140 {Q : Sg → Int → Prop} {X : Sg → String → Prop} {th : Nat} (K : MD l R p s m args c cX9_seal 5 RX9 D cA tys A n0 s0 3 73 []) (hQ : CQZ p l e R s m args below meth c cX9_seal D cA A n0 s0 QM σi Q) (hX : CX p l e R s m args below meth c 5 D cA A n0 s0 QM σi X) (hTh : CT p l e R s m args below meth c cX9_seal 5 D cA A n0 s0 QM σi RX9 X) : ∀ (σ : Sg), w_X9_seal_140 th Q X σ → RG σ → TY σ → Ext σi σ → kO σ th 9 → JJ p l e R s m args below meth c 5 D cA A n0 s0 QM σ 140 [(0, .ref th)] [] := by
  intro σ h hGσ hYσ hE hth H locs ls hH hl hc
  have B := K.1
  have hl9 := K.2.2.2.2.2.2
  unfold w_X9_seal_140 at h
  refine lv_iconst (v := i32 1) B.1 B.2.1 dX9_seal_140 (by decide) ?_
  exact hQ _ _ _ _ _ _ (by unfold rng; omega) (Or.inr rfl) dX9_seal_141 hH hc h hGσ hYσ hE
set_option maxRecDepth 20000 in
theorem a_X9_seal_124 {Q : Sg → Int → Prop} {X : Sg → String → Prop} {th : Nat} (K : MD l R p s m args c cX9_seal 5 RX9 D cA tys A n0 s0 3 73 []) (hQ : CQZ p l e R s m args below meth c cX9_seal D cA A n0 s0 QM σi Q) (hX : CX p l e R s m args below meth c 5 D cA A n0 s0 QM σi X) (hTh : CT p l e R s m args below meth c cX9_seal 5 D cA A n0 s0 QM σi RX9 X) {K63 : Sg → Option Nat → Int → Prop} (hK63 : ∀ (σ : Sg) (v1 : Option Nat) (v2 : Int) (g1 : tyV σ 1 v1) (g2 : rng v2), K63 σ v1 v2 → RG σ → TY σ → Ext σi σ → kO σ th 9 → JJ p l e R s m args below meth c 5 D cA A n0 s0 QM σ 63 [(0, .ref th), (1, va_rf v1), (2, .int (i32 v2))] []) : ∀ (σ : Sg) (v1 : Option Nat) (v2 : Int) (g1 : tyV σ 1 v1) (g2 : rng v2), w_X9_seal_124 th K63 Q X σ v1 v2 → RG σ → TY σ → Ext σi σ → kO σ th 9 → JJ p l e R s m args below meth c 5 D cA A n0 s0 QM σ 124 [(0, .ref th), (1, va_rf v1), (2, .int (i32 v2))] [] := by
  intro σ v1 v2 g1 g2 h hGσ hYσ hE hth H locs ls hH hl hc
  have B := K.1
  have hl9 := K.2.2.2.2.2.2
  unfold w_X9_seal_124 at h
  refine lv_aload_nQ B.1 B.2.1 dX9_seal_124 rfl (lv_at hl 1 rfl) ?_
  refine lv_aload_n B.1 B.2.1 dX9_seal_125 rfl (lv_at hl 0 rfl) ?_
  refine f_getp B hH hth (by decide) rfl wu_X9 8 (by decide) wf_X9_45 rfl rfl dX9_seal_126 ?_
  refine lv_iload_n B.1 B.2.1 dX9_seal_129 rfl (lv_at hl 2 rfl) ?_
  obtain ⟨a55, ea55, h⟩ := h
  have ka55 : kO σ a55 111 := (hYσ.get hth (by decide)) a55 ea55
  have h := h ka55
  obtain ⟨q1, h⟩ := h
  refine W.eq (g2 := F0 m 130 ls [.int (i32 v2), .ref a55, va_rf v1]) (by rw [ea55]; rfl) ?_
  refine y_aald B hH (t0 := 4) ka55 (by decide) K.2.1.2.1 q1 (hYσ.2 _) dX9_seal_130 ?_
  obtain ⟨a57, ea57, h⟩ := h
  have ka57 : kO σ a57 1 := g1 a57 ea57
  have h := h ka57
  refine W.eq (g2 := F0 m 131 ls [va_rf (gP σ a55 v2.toNat), .ref a57]) (by rw [ea57]; rfl) ?_
  refine c_V B hH hl hc K.2.2.1 (C := RX1) (T := TX1) (N := 3) (ci := 1) (As := [va_rf (gP σ a55 v2.toNat)]) (ok_X1_moveAllTo hl9 K.2.1 σ a57 (gP σ a55 v2.toNat) (hYσ.get ka55 rfl) ka57 hGσ hYσ h) wc_X9_425 1 hd_X1_moveAllTo ⟨Nat.le_trans (Nat.le_of_ble_eq_true rfl) K.2.2.2.1, Nat.le_trans (Nat.le_of_ble_eq_true rfl) K.2.2.2.2.1⟩ ka57.1 ka57.2 (by decide) rfl rfl (rest := []) rfl (Nat.le_of_ble_eq_true rfl) dX9_seal_131 (fun σ56 w hq => ?_) (fun σ9 E9 hx9 => hX σ9 E9 _ _ _ (tb_out K.2.2.2.2.2.1 rfl) hx9.1 hx9.2.1 hx9.2.2.1 (hE.trans hx9.2.2.2))
  obtain ⟨rfl, h, hGσ56, hYσ56, xσ56⟩ := hq
  have h := h xσ56
  intro H locs ls hH hl hc
  refine W.eq (g2 := F0 m 134 ls []) (rfl) ?_
  try dsimp only at h
  obtain ⟨q2, h⟩ := h
  refine lv_iinc (k := 2) (v := i32 (v2 + 1)) (lv' := [(2, .int (i32 (v2 + 1))), (0, .ref th), (1, va_rf v1)]) B.1 B.2.1 dX9_seal_134 hl rfl (i32_add _ _) (by decide) (by generalize v1 = w9; cases w9 <;> rfl) (fun ls hl => ?_)
  refine lv_goto (tgt := 63) B.1 B.2.1 dX9_seal_137 (by decide) ?_
  exact hK63 _ _ _ (g1.up xσ56) q2 h hGσ56 hYσ56 (hE.trans xσ56) (hth.up xσ56) _ _ _ hH (lv_sub (l' := [(0, .ref th), (1, va_rf v1), (2, .int (i32 (v2 + 1)))]) hl [1, 2, 0] rfl) hc
set_option maxRecDepth 20000 in
theorem a_X9_seal_102 {Q : Sg → Int → Prop} {X : Sg → String → Prop} {th : Nat} (K : MD l R p s m args c cX9_seal 5 RX9 D cA tys A n0 s0 3 73 []) (hQ : CQZ p l e R s m args below meth c cX9_seal D cA A n0 s0 QM σi Q) (hX : CX p l e R s m args below meth c 5 D cA A n0 s0 QM σi X) (hTh : CT p l e R s m args below meth c cX9_seal 5 D cA A n0 s0 QM σi RX9 X) {K63 : Sg → Option Nat → Int → Prop} (hK63 : ∀ (σ : Sg) (v1 : Option Nat) (v2 : Int) (g1 : tyV σ 1 v1) (g2 : rng v2), K63 σ v1 v2 → RG σ → TY σ → Ext σi σ → kO σ th 9 → JJ p l e R s m args below meth c 5 D cA A n0 s0 QM σ 63 [(0, .ref th), (1, va_rf v1), (2, .int (i32 v2))] []) {K97 : Sg → Option Nat → Int → Int → Option Nat → Prop} (hK97 : ∀ (σ : Sg) (v1 : Option Nat) (v2 : Int) (v3 : Int) (v4 : Option Nat) (g1 : tyV σ 1 v1) (g2 : rng v2) (g3 : rng v3) (g4 : tyV σ 0 v4), K97 σ v1 v2 v3 v4 → RG σ → TY σ → Ext σi σ → kO σ th 9 → JJ p l e R s m args below meth c 5 D cA A n0 s0 QM σ 97 [(0, .ref th), (1, va_rf v1), (2, .int (i32 v2)), (3, .int (i32 v3)), (4, va_rf v4)] []) : ∀ (σ : Sg) (v1 : Option Nat) (v2 : Int) (v3 : Int) (v4 : Option Nat) (g1 : tyV σ 1 v1) (g2 : rng v2) (g3 : rng v3) (g4 : tyV σ 0 v4), w_X9_seal_102 th K63 K97 Q X σ v1 v2 v3 v4 → RG σ → TY σ → Ext σi σ → kO σ th 9 → JJ p l e R s m args below meth c 5 D cA A n0 s0 QM σ 102 [(0, .ref th), (1, va_rf v1), (2, .int (i32 v2)), (3, .int (i32 v3)), (4, va_rf v4)] [] := by
  intro σ v1 v2 v3 v4 g1 g2 g3 g4 h hGσ hYσ hE hth H locs ls hH hl hc
  have B := K.1
  have hl9 := K.2.2.2.2.2.2
  unfold w_X9_seal_102 at h
  refine lv_aload_nQ B.1 B.2.1 dX9_seal_102 rfl (lv_at hl 1 rfl) ?_
  refine lv_aloadQ B.1 B.2.1 dX9_seal_103 (lv_at hl 4 rfl) ?_
  refine lv_iconst (v := i32 1) B.1 B.2.1 dX9_seal_105 (by decide) ?_
  refine lv_iload_n B.1 B.2.1 dX9_seal_106 rfl (lv_at hl 3 rfl) ?_
  obtain ⟨a59, ea59, h⟩ := h
  have ka59 : kO σ a59 1 := g1 a59 ea59
  have h := h ka59
  refine W.eq (g2 := F0 m 107 ls [.int (i32 v3), .int (i32 1), va_rf v4, .ref a59]) (by rw [ea59]; rfl) ?_
  refine c_V B hH hl hc K.2.2.1 (C := RX1) (T := TX1) (N := 3) (ci := 1) (As := [va_rf v4, .int (i32 1), .int (i32 v3)]) (ok_X1_insert hl9 K.2.1 σ a59 v4 1 v3 g4 (by unfold rng; omega) g3 ka59 hGσ hYσ h) wc_X9_446 3 hd_X1_insert ⟨Nat.le_trans (Nat.le_of_ble_eq_true rfl) K.2.2.2.1, Nat.le_trans (Nat.le_of_ble_eq_true rfl) K.2.2.2.2.1⟩ ka59.1 ka59.2 (by decide) rfl rfl (rest := []) rfl (Nat.le_of_ble_eq_true rfl) dX9_seal_107 (fun σ58 w hq => ?_) (fun σ9 E9 hx9 => hX σ9 E9 _ _ _ (tb_out K.2.2.2.2.2.1 rfl) hx9.1 hx9.2.1 hx9.2.2.1 (hE.trans hx9.2.2.2))
  obtain ⟨rfl, h, hGσ58, hYσ58, xσ58⟩ := hq
  have h := h xσ58
  intro H locs ls hH hl hc
  refine W.eq (g2 := F0 m 110 ls []) (rfl) ?_
  try dsimp only at h
  refine lv_aload_n B.1 B.2.1 dX9_seal_110 rfl (lv_at hl 0 rfl) ?_
  refine f_getp B hH (hth.up xσ58) (by decide) rfl wu_X9 7 (by decide) wf_X9_42 rfl rfl dX9_seal_111 ?_
  refine lv_iload_n B.1 B.2.1 dX9_seal_114 rfl (lv_at hl 2 rfl) ?_
  obtain ⟨a60, ea60, h⟩ := h
  have ka60 : kO σ58 a60 111 := (hYσ58.get (hth.up xσ58) (by decide)) a60 ea60
  have h := h ka60
  obtain ⟨q1, h⟩ := h
  refine W.eq (g2 := F0 m 115 ls [.int (i32 v2), .ref a60]) (by rw [ea60]; rfl) ?_
  refine y_aald B hH (t0 := 4) ka60 (by decide) K.2.1.2.1 q1 (hYσ58.2 _) dX9_seal_115 ?_
  obtain ⟨a63, ea63, h⟩ := h
  have ka63 : kO σ58 a63 1 := (hYσ58.get ka60 rfl) a63 ea63
  have h := h ka63
  refine W.eq (g2 := F0 m 116 ls [.ref a63]) (by rw [ea63]; rfl) ?_
  refine c_V B hH hl hc K.2.2.1 (C := RX1) (T := TX1) (N := 3) (ci := 1) (As := []) (ok_X1_takeFirst hl9 K.2.1 σ58 a63 ka63 hGσ58 hYσ58 h) wc_X9_287 0 hd_X1_takeFirst ⟨Nat.le_trans (Nat.le_of_ble_eq_true rfl) K.2.2.2.1, Nat.le_trans (Nat.le_of_ble_eq_true rfl) K.2.2.2.2.1⟩ ka63.1 ka63.2 (by decide) rfl rfl (rest := []) rfl (Nat.le_of_ble_eq_true rfl) dX9_seal_116 (fun σ61 w hq => ?_) (fun σ9 E9 hx9 => hX σ9 E9 _ _ _ (tb_out K.2.2.2.2.2.1 rfl) hx9.1 hx9.2.1 hx9.2.2.1 ((hE.trans xσ58).trans hx9.2.2.2))
  obtain ⟨r62, rfl, tr62, h, hGσ61, hYσ61, xσ61⟩ := hq
  have h := h xσ61 tr62
  intro H locs ls hH hl hc
  refine W.eq (g2 := F0 m 119 ls [va_rf r62]) (rfl) ?_
  try dsimp only at h
  refine lv_astoreQ (lv' := [(4, va_rf r62), (0, .ref th), (1, va_rf v1), (2, .int (i32 v2)), (3, .int (i32 v3))]) B.1 B.2.1 dX9_seal_119 hl (by decide) rfl (fun ls hl => ?_)
  refine lv_goto (tgt := 97) B.1 B.2.1 dX9_seal_121 (by decide) ?_
  exact hK97 _ _ _ _ _ (g1.up (xσ58.trans xσ61)) g2 g3 tr62 h hGσ61 hYσ61 ((hE.trans xσ58).trans xσ61) (hth.up (xσ58.trans xσ61)) _ _ _ hH (lv_sub (l' := [(0, .ref th), (1, va_rf v1), (2, .int (i32 v2)), (3, .int (i32 v3)), (4, va_rf r62)]) hl [1, 2, 3, 4, 0] rfl) hc
set_option maxRecDepth 20000 in
theorem a_X9_seal_97 {Q : Sg → Int → Prop} {X : Sg → String → Prop} {th : Nat} (K : MD l R p s m args c cX9_seal 5 RX9 D cA tys A n0 s0 3 73 []) (hQ : CQZ p l e R s m args below meth c cX9_seal D cA A n0 s0 QM σi Q) (hX : CX p l e R s m args below meth c 5 D cA A n0 s0 QM σi X) (hTh : CT p l e R s m args below meth c cX9_seal 5 D cA A n0 s0 QM σi RX9 X) {K63 : Sg → Option Nat → Int → Prop} (hK63 : ∀ (σ : Sg) (v1 : Option Nat) (v2 : Int) (g1 : tyV σ 1 v1) (g2 : rng v2), K63 σ v1 v2 → RG σ → TY σ → Ext σi σ → kO σ th 9 → JJ p l e R s m args below meth c 5 D cA A n0 s0 QM σ 63 [(0, .ref th), (1, va_rf v1), (2, .int (i32 v2))] []) {K97 : Sg → Option Nat → Int → Int → Option Nat → Prop} (hK97 : ∀ (σ : Sg) (v1 : Option Nat) (v2 : Int) (v3 : Int) (v4 : Option Nat) (g1 : tyV σ 1 v1) (g2 : rng v2) (g3 : rng v3) (g4 : tyV σ 0 v4), K97 σ v1 v2 v3 v4 → RG σ → TY σ → Ext σi σ → kO σ th 9 → JJ p l e R s m args below meth c 5 D cA A n0 s0 QM σ 97 [(0, .ref th), (1, va_rf v1), (2, .int (i32 v2)), (3, .int (i32 v3)), (4, va_rf v4)] []) : ∀ (σ : Sg) (v1 : Option Nat) (v2 : Int) (v3 : Int) (v4 : Option Nat) (g1 : tyV σ 1 v1) (g2 : rng v2) (g3 : rng v3) (g4 : tyV σ 0 v4), w_X9_seal_97 th K63 K97 Q X σ v1 v2 v3 v4 → RG σ → TY σ → Ext σi σ → kO σ th 9 → JJ p l e R s m args below meth c 5 D cA A n0 s0 QM σ 97 [(0, .ref th), (1, va_rf v1), (2, .int (i32 v2)), (3, .int (i32 v3)), (4, va_rf v4)] [] := by
  intro σ v1 v2 v3 v4 g1 g2 g3 g4 h hGσ hYσ hE hth H locs ls hH hl hc
  have B := K.1
  have hl9 := K.2.2.2.2.2.2
  unfold w_X9_seal_97 at h
  refine lv_aloadQ B.1 B.2.1 dX9_seal_97 (lv_at hl 4 rfl) ?_
  refine lv_ifnullQ (tgt := 124) B.1 B.2.1 dX9_seal_99 (by decide) (fun h9 => ?_) (fun h9 => ?_)
  · rw [if_pos (h9)] at h
    exact a_X9_seal_124 K hQ hX hTh hK63 _ _ _ g1 g2 h hGσ hYσ hE hth _ _ _ hH (lv_sub (l' := [(0, .ref th), (1, va_rf v1), (2, .int (i32 v2))]) hl [0, 1, 2] rfl) hc
  · rw [if_neg (h9)] at h
    exact a_X9_seal_102 K hQ hX hTh hK63 hK97 _ _ _ _ _ g1 g2 g3 g4 h hGσ hYσ hE hth _ _ _ hH (lv_sub (l' := [(0, .ref th), (1, va_rf v1), (2, .int (i32 v2)), (3, .int (i32 v3)), (4, va_rf v4)]) hl [0, 1, 2, 3, 4] rfl) hc
theorem al_X9_seal_97 {Q : Sg → Int → Prop} {X : Sg → String → Prop} {th : Nat} (K : MD l R p s m args c cX9_seal 5 RX9 D cA tys A n0 s0 3 73 []) (hQ : CQZ p l e R s m args below meth c cX9_seal D cA A n0 s0 QM σi Q) (hX : CX p l e R s m args below meth c 5 D cA A n0 s0 QM σi X) (hTh : CT p l e R s m args below meth c cX9_seal 5 D cA A n0 s0 QM σi RX9 X) {K63 : Sg → Option Nat → Int → Prop} (hK63 : ∀ (σ : Sg) (v1 : Option Nat) (v2 : Int) (g1 : tyV σ 1 v1) (g2 : rng v2), K63 σ v1 v2 → RG σ → TY σ → Ext σi σ → kO σ th 9 → JJ p l e R s m args below meth c 5 D cA A n0 s0 QM σ 63 [(0, .ref th), (1, va_rf v1), (2, .int (i32 v2))] []) : ∀ (n : Nat), ∀ (σ : Sg) (v1 : Option Nat) (v2 : Int) (v3 : Int) (v4 : Option Nat) (g1 : tyV σ 1 v1) (g2 : rng v2) (g3 : rng v3) (g4 : tyV σ 0 v4), wl_X9_seal_97 th K63 Q X n σ v1 v2 v3 v4 → RG σ → TY σ → Ext σi σ → kO σ th 9 → JJ p l e R s m args below meth c 5 D cA A n0 s0 QM σ 97 [(0, .ref th), (1, va_rf v1), (2, .int (i32 v2)), (3, .int (i32 v3)), (4, va_rf v4)] [] := by
  intro n
  induction n with
  | zero => intro σ v1 v2 v3 v4 g1 g2 g3 g4 h; exact h.elim
  | succ n ih => exact fun σ v1 v2 v3 v4 g1 g2 g3 g4 h => a_X9_seal_97 K hQ hX hTh hK63 ih σ v1 v2 v3 v4 g1 g2 g3 g4 h
set_option maxRecDepth 20000 in
theorem a_X9_seal_74 {Q : Sg → Int → Prop} {X : Sg → String → Prop} {th : Nat} (K : MD l R p s m args c cX9_seal 5 RX9 D cA tys A n0 s0 3 73 []) (hQ : CQZ p l e R s m args below meth c cX9_seal D cA A n0 s0 QM σi Q) (hX : CX p l e R s m args below meth c 5 D cA A n0 s0 QM σi X) (hTh : CT p l e R s m args below meth c cX9_seal 5 D cA A n0 s0 QM σi RX9 X) {K63 : Sg → Option Nat → Int → Prop} (hK63 : ∀ (σ : Sg) (v1 : Option Nat) (v2 : Int) (g1 : tyV σ 1 v1) (g2 : rng v2), K63 σ v1 v2 → RG σ → TY σ → Ext σi σ → kO σ th 9 → JJ p l e R s m args below meth c 5 D cA A n0 s0 QM σ 63 [(0, .ref th), (1, va_rf v1), (2, .int (i32 v2))] []) : ∀ (σ : Sg) (v1 : Option Nat) (v2 : Int) (g1 : tyV σ 1 v1) (g2 : rng v2), w_X9_seal_74 th K63 Q X σ v1 v2 → RG σ → TY σ → Ext σi σ → kO σ th 9 → JJ p l e R s m args below meth c 5 D cA A n0 s0 QM σ 74 [(0, .ref th), (1, va_rf v1), (2, .int (i32 v2))] [] := by
  intro σ v1 v2 g1 g2 h hGσ hYσ hE hth H locs ls hH hl hc
  have B := K.1
  have hl9 := K.2.2.2.2.2.2
  unfold w_X9_seal_74 at h
  refine lv_aload_n B.1 B.2.1 dX9_seal_74 rfl (lv_at hl 0 rfl) ?_
  refine f_getp B hH hth (by decide) rfl wu_X9 9 (by decide) wf_X9_100 rfl rfl dX9_seal_75 ?_
  refine lv_iload_n B.1 B.2.1 dX9_seal_78 rfl (lv_at hl 2 rfl) ?_
  obtain ⟨a66, ea66, h⟩ := h
  have ka66 : kO σ a66 4 := (hYσ.get hth (by decide)) a66 ea66
  have h := h ka66
  refine W.eq (g2 := F0 m 79 ls [.int (i32 v2), .ref a66]) (by rw [ea66]; rfl) ?_
  refine c_V B hH hl hc K.2.2.1 (C := RX4) (T := TX4) (N := 14) (ci := 4) (As := [.int (i32 v2)]) (ok_X4_outputOp hl9 K.2.1 σ a66 v2 g2 ka66 hGσ hYσ h) wc_X9_439 1 hd_X4_outputOp ⟨Nat.le_trans (Nat.le_of_ble_eq_true rfl) K.2.2.2.1, Nat.le_trans (Nat.le_of_ble_eq_true rfl) K.2.2.2.2.1⟩ ka66.1 ka66.2 (by decide) rfl rfl (rest := []) rfl (Nat.le_of_ble_eq_true rfl) dX9_seal_79 (fun σ64 w hq => ?_) (fun σ9 E9 hx9 => hX σ9 E9 _ _ _ (tb_out K.2.2.2.2.2.1 rfl) hx9.1 hx9.2.1 hx9.2.2.1 (hE.trans hx9.2.2.2))
  obtain ⟨r65, rfl, tr65, h, hGσ64, hYσ64, xσ64⟩ := hq
  have h := h xσ64 tr65
  intro H locs ls hH hl hc
  refine W.eq (g2 := F0 m 82 ls [va_rf r65]) (rfl) ?_
  try dsimp only at h
  obtain ⟨a67, ea67, h⟩ := h
  have ka67 : kO σ64 a67 5 := tr65 a67 ea67
  have h := h ka67
  refine W.eq (g2 := F0 m 82 ls [.ref a67]) (by rw [ea67]; rfl) ?_
  refine f_geti B hH ka67 (by decide) rfl wu_X5 3 (by decide) wf_X9_443 rfl rfl dX9_seal_82 ?_
  refine lv_istore_n (lv' := [(3, .int (i32 (gI σ64 a67 3))), (0, .ref th), (1, va_rf v1), (2, .int (i32 v2))]) B.1 B.2.1 dX9_seal_85 rfl hl (by decide) rfl (fun ls hl => ?_)
  refine lv_aload_n B.1 B.2.1 dX9_seal_86 rfl (lv_at hl 1 rfl) ?_
  refine f_getp B hH (hth.up xσ64) (by decide) rfl wu_X9 7 (by decide) wf_X9_42 rfl rfl dX9_seal_87 ?_
  refine lv_iload_n B.1 B.2.1 dX9_seal_90 rfl (lv_at hl 3 rfl) ?_
  obtain ⟨a68, ea68, h⟩ := h
  have ka68 : kO σ64 a68 111 := (hYσ64.get (hth.up xσ64) (by decide)) a68 ea68
  have h := h ka68
  obtain ⟨q1, h⟩ := h
  refine W.eq (g2 := F0 m 91 ls [.int (i32 v2), .ref a68]) (by rw [ea68]; rfl) ?_
  refine y_aald B hH (t0 := 4) ka68 (by decide) K.2.1.2.1 q1 (hYσ64.2 _) dX9_seal_91 ?_
  obtain ⟨a71, ea71, h⟩ := h
  have ka71 : kO σ64 a71 1 := (hYσ64.get ka68 rfl) a71 ea71
  have h := h ka71
  refine W.eq (g2 := F0 m 92 ls [.ref a71]) (by rw [ea71]; rfl) ?_
  refine c_V B hH hl hc K.2.2.1 (C := RX1) (T := TX1) (N := 3) (ci := 1) (As := []) (ok_X1_takeFirst hl9 K.2.1 σ64 a71 ka71 hGσ64 hYσ64 h) wc_X9_287 0 hd_X1_takeFirst ⟨Nat.le_trans (Nat.le_of_ble_eq_true rfl) K.2.2.2.1, Nat.le_trans (Nat.le_of_ble_eq_true rfl) K.2.2.2.2.1⟩ ka71.1 ka71.2 (by decide) rfl rfl (rest := []) rfl (Nat.le_of_ble_eq_true rfl) dX9_seal_92 (fun σ69 w hq => ?_) (fun σ9 E9 hx9 => hX σ9 E9 _ _ _ (tb_out K.2.2.2.2.2.1 rfl) hx9.1 hx9.2.1 hx9.2.2.1 ((hE.trans xσ64).trans hx9.2.2.2))
  obtain ⟨r70, rfl, tr70, h, hGσ69, hYσ69, xσ69⟩ := hq
  have h := h xσ69 tr70
  intro H locs ls hH hl hc
  refine W.eq (g2 := F0 m 95 ls [va_rf r70]) (rfl) ?_
  try dsimp only at h
  refine lv_astoreQ (lv' := [(4, va_rf r70), (3, .int (i32 (gI σ64 a67 3))), (0, .ref th), (1, va_rf v1), (2, .int (i32 v2))]) B.1 B.2.1 dX9_seal_95 hl (by decide) rfl (fun ls hl => ?_)
  obtain ⟨n9, h⟩ := h
  exact al_X9_seal_97 K hQ hX hTh hK63 n9 _ _ _ _ _ (g1.up (xσ64.trans xσ69)) g2 (hGσ64 _ _) tr70 h hGσ69 hYσ69 ((hE.trans xσ64).trans xσ69) (hth.up (xσ64.trans xσ69)) _ _ _ hH (lv_sub (l' := [(0, .ref th), (1, va_rf v1), (2, .int (i32 v2)), (3, .int (i32 (gI σ64 a67 3))), (4, va_rf r70)]) hl [2, 3, 4, 1, 0] rfl) hc
set_option maxRecDepth 20000 in
theorem a_X9_seal_63 {Q : Sg → Int → Prop} {X : Sg → String → Prop} {th : Nat} (K : MD l R p s m args c cX9_seal 5 RX9 D cA tys A n0 s0 3 73 []) (hQ : CQZ p l e R s m args below meth c cX9_seal D cA A n0 s0 QM σi Q) (hX : CX p l e R s m args below meth c 5 D cA A n0 s0 QM σi X) (hTh : CT p l e R s m args below meth c cX9_seal 5 D cA A n0 s0 QM σi RX9 X) {K63 : Sg → Option Nat → Int → Prop} (hK63 : ∀ (σ : Sg) (v1 : Option Nat) (v2 : Int) (g1 : tyV σ 1 v1) (g2 : rng v2), K63 σ v1 v2 → RG σ → TY σ → Ext σi σ → kO σ th 9 → JJ p l e R s m args below meth c 5 D cA A n0 s0 QM σ 63 [(0, .ref th), (1, va_rf v1), (2, .int (i32 v2))] []) : ∀ (σ : Sg) (v1 : Option Nat) (v2 : Int) (g1 : tyV σ 1 v1) (g2 : rng v2), w_X9_seal_63 th K63 Q X σ v1 v2 → RG σ → TY σ → Ext σi σ → kO σ th 9 → JJ p l e R s m args below meth c 5 D cA A n0 s0 QM σ 63 [(0, .ref th), (1, va_rf v1), (2, .int (i32 v2))] [] := by
  intro σ v1 v2 g1 g2 h hGσ hYσ hE hth H locs ls hH hl hc
  have B := K.1
  have hl9 := K.2.2.2.2.2.2
  unfold w_X9_seal_63 at h
  refine lv_iload_n B.1 B.2.1 dX9_seal_63 rfl (lv_at hl 2 rfl) ?_
  refine lv_aload_n B.1 B.2.1 dX9_seal_64 rfl (lv_at hl 0 rfl) ?_
  refine f_getp B hH hth (by decide) rfl wu_X9 9 (by decide) wf_X9_100 rfl rfl dX9_seal_65 ?_
  obtain ⟨a72, ea72, h⟩ := h
  have ka72 : kO σ a72 4 := (hYσ.get hth (by decide)) a72 ea72
  have h := h ka72
  refine W.eq (g2 := F0 m 68 ls [.ref a72, .int (i32 v2)]) (by rw [ea72]; rfl) ?_
  refine f_geti B hH ka72 (by decide) rfl wu_X4 2 (by decide) wf_X9_436 rfl rfl dX9_seal_68 ?_
  refine lv_icmp_ge (tgt := 140) B.1 B.2.1 dX9_seal_71 (by decide) (fun h9 => ?_) (fun h9 => ?_)
  · rw [if_pos ((i32_le (hGσ _ _) g2).mp h9)] at h
    exact a_X9_seal_140 K hQ hX hTh _ h hGσ hYσ hE hth _ _ _ hH (lv_sub (l' := [(0, .ref th)]) hl [0] rfl) hc
  · rw [if_neg (fun q => h9 ((i32_le (hGσ _ _) g2).mpr q))] at h
    exact a_X9_seal_74 K hQ hX hTh hK63 _ _ _ g1 g2 h hGσ hYσ hE hth _ _ _ hH (lv_sub (l' := [(0, .ref th), (1, va_rf v1), (2, .int (i32 v2))]) hl [0, 1, 2] rfl) hc
theorem al_X9_seal_63 {Q : Sg → Int → Prop} {X : Sg → String → Prop} {th : Nat} (K : MD l R p s m args c cX9_seal 5 RX9 D cA tys A n0 s0 3 73 []) (hQ : CQZ p l e R s m args below meth c cX9_seal D cA A n0 s0 QM σi Q) (hX : CX p l e R s m args below meth c 5 D cA A n0 s0 QM σi X) (hTh : CT p l e R s m args below meth c cX9_seal 5 D cA A n0 s0 QM σi RX9 X) : ∀ (n : Nat), ∀ (σ : Sg) (v1 : Option Nat) (v2 : Int) (g1 : tyV σ 1 v1) (g2 : rng v2), wl_X9_seal_63 th Q X n σ v1 v2 → RG σ → TY σ → Ext σi σ → kO σ th 9 → JJ p l e R s m args below meth c 5 D cA A n0 s0 QM σ 63 [(0, .ref th), (1, va_rf v1), (2, .int (i32 v2))] [] := by
  intro n
  induction n with
  | zero => intro σ v1 v2 g1 g2 h; exact h.elim
  | succ n ih => exact fun σ v1 v2 g1 g2 h => a_X9_seal_63 K hQ hX hTh ih σ v1 v2 g1 g2 h
set_option maxRecDepth 20000 in
theorem a_X9_seal_53 {Q : Sg → Int → Prop} {X : Sg → String → Prop} {th : Nat} (K : MD l R p s m args c cX9_seal 5 RX9 D cA tys A n0 s0 3 73 []) (hQ : CQZ p l e R s m args below meth c cX9_seal D cA A n0 s0 QM σi Q) (hX : CX p l e R s m args below meth c 5 D cA A n0 s0 QM σi X) (hTh : CT p l e R s m args below meth c cX9_seal 5 D cA A n0 s0 QM σi RX9 X) : ∀ (σ : Sg), w_X9_seal_53 th Q X σ → RG σ → TY σ → Ext σi σ → kO σ th 9 → JJ p l e R s m args below meth c 5 D cA A n0 s0 QM σ 53 [(0, .ref th)] [] := by
  intro σ h hGσ hYσ hE hth H locs ls hH hl hc
  have B := K.1
  have hl9 := K.2.2.2.2.2.2
  unfold w_X9_seal_53 at h
  refine lv_aload_n B.1 B.2.1 dX9_seal_53 rfl (lv_at hl 0 rfl) ?_
  refine f_getp B hH hth (by decide) rfl wu_X9 1 (by decide) wf_X9_57 rfl rfl dX9_seal_54 ?_
  obtain ⟨a73, ea73, h⟩ := h
  have ka73 : kO σ a73 11 := (hYσ.get hth (by decide)) a73 ea73
  have h := h ka73
  refine W.eq (g2 := F0 m 57 ls [.ref a73]) (by rw [ea73]; rfl) ?_
  refine f_getp B hH ka73 (by decide) rfl wu_X11 2 (by decide) wf_X9_280 rfl rfl dX9_seal_57 ?_
  refine lv_astore_nQ (lv' := [(1, va_rf (gP σ a73 2)), (0, .ref th)]) B.1 B.2.1 dX9_seal_60 rfl hl (by decide) rfl (fun ls hl => ?_)
  refine lv_iconst (v := i32 0) B.1 B.2.1 dX9_seal_61 (by decide) ?_
  refine lv_istore_n (lv' := [(2, .int (i32 0)), (1, va_rf (gP σ a73 2)), (0, .ref th)]) B.1 B.2.1 dX9_seal_62 rfl hl (by decide) (by generalize (gP σ a73 2) = w9; cases w9 <;> rfl) (fun ls hl => ?_)
  obtain ⟨n9, h⟩ := h
  exact al_X9_seal_63 K hQ hX hTh n9 _ _ _ (hYσ.get ka73 (by decide)) (by unfold rng; omega) h hGσ hYσ hE hth _ _ _ hH (lv_sub (l' := [(0, .ref th), (1, va_rf (gP σ a73 2)), (2, .int (i32 0))]) hl [2, 1, 0] rfl) hc
set_option maxRecDepth 20000 in
theorem a_X9_seal_37 {Q : Sg → Int → Prop} {X : Sg → String → Prop} {th : Nat} (K : MD l R p s m args c cX9_seal 5 RX9 D cA tys A n0 s0 3 73 []) (hQ : CQZ p l e R s m args below meth c cX9_seal D cA A n0 s0 QM σi Q) (hX : CX p l e R s m args below meth c 5 D cA A n0 s0 QM σi X) (hTh : CT p l e R s m args below meth c cX9_seal 5 D cA A n0 s0 QM σi RX9 X) {K29 : Sg → Int → Prop} (hK29 : ∀ (σ : Sg) (v1 : Int) (g1 : rng v1), K29 σ v1 → RG σ → TY σ → Ext σi σ → kO σ th 9 → JJ p l e R s m args below meth c 5 D cA A n0 s0 QM σ 29 [(0, .ref th), (1, .int (i32 v1))] []) : ∀ (σ : Sg) (v1 : Int) (g1 : rng v1), w_X9_seal_37 th K29 Q X σ v1 → RG σ → TY σ → Ext σi σ → kO σ th 9 → JJ p l e R s m args below meth c 5 D cA A n0 s0 QM σ 37 [(0, .ref th), (1, .int (i32 v1))] [] := by
  intro σ v1 g1 h hGσ hYσ hE hth H locs ls hH hl hc
  have B := K.1
  have hl9 := K.2.2.2.2.2.2
  unfold w_X9_seal_37 at h
  refine lv_aload_n B.1 B.2.1 dX9_seal_37 rfl (lv_at hl 0 rfl) ?_
  refine f_getp B hH hth (by decide) rfl wu_X9 3 (by decide) wf_X9_20 rfl rfl dX9_seal_38 ?_
  refine lv_iload_n B.1 B.2.1 dX9_seal_41 rfl (lv_at hl 1 rfl) ?_
  obtain ⟨a74, ea74, h⟩ := h
  have ka74 : kO σ a74 120 := (hYσ.get hth (by decide)) a74 ea74
  have h := h ka74
  obtain ⟨q1, h⟩ := h
  refine W.eq (g2 := F0 m 42 ls [.int (i32 v1), .ref a74]) (by rw [ea74]; rfl) ?_
  refine y_aald B hH (t0 := 7) ka74 (by decide) K.2.1.2.2.2.2.1 q1 (hYσ.2 _) dX9_seal_42 ?_
  refine lv_iconst (v := i32 0) B.1 B.2.1 dX9_seal_43 (by decide) ?_
  obtain ⟨a75, ea75, h⟩ := h
  have ka75 : kO σ a75 10 := (hYσ.get ka74 rfl) a75 ea75
  have h := h ka75
  obtain ⟨σ76, eσ76⟩ : ∃ z, z = pI σ a75 10 0 := ⟨_, rfl⟩
  have h := h σ76 eσ76
  refine W.eq (g2 := F0 m 44 ls [.int (i32 0), .ref a75]) (by rw [ea75]; rfl) ?_
  refine f_puti B hH ka75 (by decide) rfl wu_X10 tyX10 tyX10_ok nmX10 10 (by decide) wf_X9_353 rfl (ty := .boolean) rfl rfl rfl rfl rfl dX9_seal_44 (fun H locs hH => ?_)
  have hH : Hd D cA A s (pI σ a75 10 0) H locs := hH
  rw [← eσ76] at hH
  have hGσ76 : RG σ76 := by rw [eσ76]; exact hGσ.pI (by unfold rng; omega)
  have hYσ76 : TY σ76 := by rw [eσ76]; exact hYσ.pI
  have xσ76 : Ext σ σ76 := by rw [eσ76]; exact Ext.pI
  have hc : CB n0 s0 σ76 := by rw [eσ76]; exact hc
  rw [show gc σ = gc σ76 by rw [eσ76]; try rfl, show gs σ = gs σ76 by rw [eσ76]; try rfl]
  obtain ⟨q2, h⟩ := h
  refine lv_iinc (k := 1) (v := i32 (v1 + 1)) (lv' := [(1, .int (i32 (v1 + 1))), (0, .ref th)]) B.1 B.2.1 dX9_seal_47 hl rfl (i32_add _ _) (by decide) rfl (fun ls hl => ?_)
  refine lv_goto (tgt := 29) B.1 B.2.1 dX9_seal_50 (by decide) ?_
  exact hK29 _ _ q2 h hGσ76 hYσ76 (hE.trans xσ76) (hth.up xσ76) _ _ _ hH (lv_sub (l' := [(0, .ref th), (1, .int (i32 (v1 + 1)))]) hl [1, 0] rfl) hc
set_option maxRecDepth 20000 in
theorem a_X9_seal_29 {Q : Sg → Int → Prop} {X : Sg → String → Prop} {th : Nat} (K : MD l R p s m args c cX9_seal 5 RX9 D cA tys A n0 s0 3 73 []) (hQ : CQZ p l e R s m args below meth c cX9_seal D cA A n0 s0 QM σi Q) (hX : CX p l e R s m args below meth c 5 D cA A n0 s0 QM σi X) (hTh : CT p l e R s m args below meth c cX9_seal 5 D cA A n0 s0 QM σi RX9 X) {K29 : Sg → Int → Prop} (hK29 : ∀ (σ : Sg) (v1 : Int) (g1 : rng v1), K29 σ v1 → RG σ → TY σ → Ext σi σ → kO σ th 9 → JJ p l e R s m args below meth c 5 D cA A n0 s0 QM σ 29 [(0, .ref th), (1, .int (i32 v1))] []) : ∀ (σ : Sg) (v1 : Int) (g1 : rng v1), w_X9_seal_29 th K29 Q X σ v1 → RG σ → TY σ → Ext σi σ → kO σ th 9 → JJ p l e R s m args below meth c 5 D cA A n0 s0 QM σ 29 [(0, .ref th), (1, .int (i32 v1))] [] := by
  intro σ v1 g1 h hGσ hYσ hE hth H locs ls hH hl hc
  have B := K.1
  have hl9 := K.2.2.2.2.2.2
  unfold w_X9_seal_29 at h
  refine lv_iload_n B.1 B.2.1 dX9_seal_29 rfl (lv_at hl 1 rfl) ?_
  refine lv_aload_n B.1 B.2.1 dX9_seal_30 rfl (lv_at hl 0 rfl) ?_
  refine f_geti B hH hth (by decide) rfl wu_X9 10 (by decide) wf_X9_78 rfl rfl dX9_seal_31 ?_
  refine lv_icmp_ge (tgt := 53) B.1 B.2.1 dX9_seal_34 (by decide) (fun h9 => ?_) (fun h9 => ?_)
  · rw [if_pos ((i32_le (hGσ _ _) g1).mp h9)] at h
    exact a_X9_seal_53 K hQ hX hTh _ h hGσ hYσ hE hth _ _ _ hH (lv_sub (l' := [(0, .ref th)]) hl [0] rfl) hc
  · rw [if_neg (fun q => h9 ((i32_le (hGσ _ _) g1).mpr q))] at h
    exact a_X9_seal_37 K hQ hX hTh hK29 _ _ g1 h hGσ hYσ hE hth _ _ _ hH (lv_sub (l' := [(0, .ref th), (1, .int (i32 v1))]) hl [0, 1] rfl) hc
theorem al_X9_seal_29 {Q : Sg → Int → Prop} {X : Sg → String → Prop} {th : Nat} (K : MD l R p s m args c cX9_seal 5 RX9 D cA tys A n0 s0 3 73 []) (hQ : CQZ p l e R s m args below meth c cX9_seal D cA A n0 s0 QM σi Q) (hX : CX p l e R s m args below meth c 5 D cA A n0 s0 QM σi X) (hTh : CT p l e R s m args below meth c cX9_seal 5 D cA A n0 s0 QM σi RX9 X) : ∀ (n : Nat), ∀ (σ : Sg) (v1 : Int) (g1 : rng v1), wl_X9_seal_29 th Q X n σ v1 → RG σ → TY σ → Ext σi σ → kO σ th 9 → JJ p l e R s m args below meth c 5 D cA A n0 s0 QM σ 29 [(0, .ref th), (1, .int (i32 v1))] [] := by
  intro n
  induction n with
  | zero => intro σ v1 g1 h; exact h.elim
  | succ n ih => exact fun σ v1 g1 h => a_X9_seal_29 K hQ hX hTh ih σ v1 g1 h
set_option maxRecDepth 20000 in
theorem a_X9_seal_12 {Q : Sg → Int → Prop} {X : Sg → String → Prop} {th : Nat} (K : MD l R p s m args c cX9_seal 5 RX9 D cA tys A n0 s0 3 73 []) (hQ : CQZ p l e R s m args below meth c cX9_seal D cA A n0 s0 QM σi Q) (hX : CX p l e R s m args below meth c 5 D cA A n0 s0 QM σi X) (hTh : CT p l e R s m args below meth c cX9_seal 5 D cA A n0 s0 QM σi RX9 X) : ∀ (σ : Sg), w_X9_seal_12 th Q X σ → RG σ → TY σ → Ext σi σ → kO σ th 9 → JJ p l e R s m args below meth c 5 D cA A n0 s0 QM σ 12 [(0, .ref th)] [] := by
  intro σ h hGσ hYσ hE hth H locs ls hH hl hc
  have B := K.1
  have hl9 := K.2.2.2.2.2.2
  unfold w_X9_seal_12 at h
  refine lv_aload_n B.1 B.2.1 dX9_seal_12 rfl (lv_at hl 0 rfl) ?_
  refine f_getp B hH hth (by decide) rfl wu_X9 2 (by decide) wf_X9_12 rfl rfl dX9_seal_13 ?_
  refine lv_aload_n B.1 B.2.1 dX9_seal_16 rfl (lv_at hl 0 rfl) ?_
  refine f_getp B hH hth (by decide) rfl wu_X9 0 (by decide) wf_X9_48 rfl rfl dX9_seal_17 ?_
  refine lv_aload_n B.1 B.2.1 dX9_seal_20 rfl (lv_at hl 0 rfl) ?_
  refine f_geti B hH hth (by decide) rfl wu_X9 12 (by decide) wf_X9_157 rfl rfl dX9_seal_21 ?_
  obtain ⟨a78, ea78, h⟩ := h
  have ka78 : kO σ a78 3 := (hYσ.get hth (by decide)) a78 ea78
  have h := h ka78
  refine W.eq (g2 := F0 m 24 ls [.int (i32 (gI σ th 12)), va_rf (gP σ th 0), .ref a78]) (by rw [ea78]; rfl) ?_
  refine c_V B hH hl hc K.2.2.1 (C := RX3) (T := TX3) (N := 10) (ci := 3) (As := [va_rf (gP σ th 0), .int (i32 (gI σ th 12))]) (ok_X3_seal hl9 K.2.1 σ a78 (gP σ th 0) (gI σ th 12) (hYσ.get hth (by decide)) (hGσ _ _) ka78 hGσ hYσ h) wc_X9_434 2 hd_X3_seal ⟨Nat.le_trans (Nat.le_of_ble_eq_true rfl) K.2.2.2.1, Nat.le_trans (Nat.le_of_ble_eq_true rfl) K.2.2.2.2.1⟩ ka78.1 ka78.2 (by decide) rfl rfl (rest := []) rfl (Nat.le_of_ble_eq_true rfl) dX9_seal_24 (fun σ77 w hq => ?_) (fun σ9 E9 hx9 => hX σ9 E9 _ _ _ (tb_out K.2.2.2.2.2.1 rfl) hx9.1 hx9.2.1 hx9.2.2.1 (hE.trans hx9.2.2.2))
  obtain ⟨rfl, h, hGσ77, hYσ77, xσ77⟩ := hq
  have h := h xσ77
  intro H locs ls hH hl hc
  refine W.eq (g2 := F0 m 27 ls []) (rfl) ?_
  try dsimp only at h
  refine lv_iconst (v := i32 0) B.1 B.2.1 dX9_seal_27 (by decide) ?_
  refine lv_istore_n (lv' := [(1, .int (i32 0)), (0, .ref th)]) B.1 B.2.1 dX9_seal_28 rfl hl (by decide) rfl (fun ls hl => ?_)
  obtain ⟨n9, h⟩ := h
  exact al_X9_seal_29 K hQ hX hTh n9 _ _ (by unfold rng; omega) h hGσ77 hYσ77 (hE.trans xσ77) (hth.up xσ77) _ _ _ hH (lv_sub (l' := [(0, .ref th), (1, .int (i32 0))]) hl [1, 0] rfl) hc
set_option maxRecDepth 20000 in
theorem a_X9_seal_10 {Q : Sg → Int → Prop} {X : Sg → String → Prop} {th : Nat} (K : MD l R p s m args c cX9_seal 5 RX9 D cA tys A n0 s0 3 73 []) (hQ : CQZ p l e R s m args below meth c cX9_seal D cA A n0 s0 QM σi Q) (hX : CX p l e R s m args below meth c 5 D cA A n0 s0 QM σi X) (hTh : CT p l e R s m args below meth c cX9_seal 5 D cA A n0 s0 QM σi RX9 X) : ∀ (σ : Sg), w_X9_seal_10 th Q X σ → RG σ → TY σ → Ext σi σ → kO σ th 9 → JJ p l e R s m args below meth c 5 D cA A n0 s0 QM σ 10 [(0, .ref th)] [] := by
  intro σ h hGσ hYσ hE hth H locs ls hH hl hc
  have B := K.1
  have hl9 := K.2.2.2.2.2.2
  unfold w_X9_seal_10 at h
  refine lv_iconst (v := i32 0) B.1 B.2.1 dX9_seal_10 (by decide) ?_
  exact hQ _ _ _ _ _ _ (by unfold rng; omega) (Or.inl rfl) dX9_seal_11 hH hc h hGσ hYσ hE
set_option maxRecDepth 20000 in
theorem a_X9_seal_0 {Q : Sg → Int → Prop} {X : Sg → String → Prop} {th : Nat} (K : MD l R p s m args c cX9_seal 5 RX9 D cA tys A n0 s0 3 73 []) (hQ : CQZ p l e R s m args below meth c cX9_seal D cA A n0 s0 QM σi Q) (hX : CX p l e R s m args below meth c 5 D cA A n0 s0 QM σi X) (hTh : CT p l e R s m args below meth c cX9_seal 5 D cA A n0 s0 QM σi RX9 X) : ∀ (σ : Sg), w_X9_seal_0 th Q X σ → RG σ → TY σ → Ext σi σ → kO σ th 9 → JJ p l e R s m args below meth c 5 D cA A n0 s0 QM σ 0 [(0, .ref th)] [] := by
  intro σ h hGσ hYσ hE hth H locs ls hH hl hc
  have B := K.1
  have hl9 := K.2.2.2.2.2.2
  unfold w_X9_seal_0 at h
  refine lv_aload_n B.1 B.2.1 dX9_seal_0 rfl (lv_at hl 0 rfl) ?_
  refine f_getp B hH hth (by decide) rfl wu_X9 2 (by decide) wf_X9_12 rfl rfl dX9_seal_1 ?_
  obtain ⟨a81, ea81, h⟩ := h
  have ka81 : kO σ a81 3 := (hYσ.get hth (by decide)) a81 ea81
  have h := h ka81
  refine W.eq (g2 := F0 m 4 ls [.ref a81]) (by rw [ea81]; rfl) ?_
  refine c_V B hH hl hc K.2.2.1 (C := RX3) (T := TX3) (N := 10) (ci := 3) (As := []) (ok_X3_write hl9 K.2.1 σ a81 ka81 hGσ hYσ h) wc_X9_413 0 hd_X3_write ⟨Nat.le_trans (Nat.le_of_ble_eq_true rfl) K.2.2.2.1, Nat.le_trans (Nat.le_of_ble_eq_true rfl) K.2.2.2.2.1⟩ ka81.1 ka81.2 (by decide) rfl rfl (rest := []) rfl (Nat.le_of_ble_eq_true rfl) dX9_seal_4 (fun σ79 w hq => ?_) (fun σ9 E9 hx9 => hX σ9 E9 _ _ _ (tb_out K.2.2.2.2.2.1 rfl) hx9.1 hx9.2.1 hx9.2.2.1 (hE.trans hx9.2.2.2))
  obtain ⟨r80, rfl, ⟨gr80, gzr80⟩, h, hGσ79, hYσ79, xσ79⟩ := hq
  have h := h xσ79
  intro H locs ls hH hl hc
  refine W.eq (g2 := F0 m 7 ls [.int (i32 r80)]) (rfl) ?_
  try dsimp only at h
  refine lv_if_ne (tgt := 12) B.1 B.2.1 dX9_seal_7 (by decide) (fun h9 => ?_) (fun h9 => ?_)
  · rw [if_pos (fun q => h9 ((z_eq gr80).mpr q))] at h
    exact a_X9_seal_12 K hQ hX hTh _ h hGσ79 hYσ79 (hE.trans xσ79) (hth.up xσ79) _ _ _ hH (lv_sub (l' := [(0, .ref th)]) hl [0] rfl) hc
  · rw [if_neg (fun q => q ((z_eq gr80).mp h9))] at h
    exact a_X9_seal_10 K hQ hX hTh _ h hGσ79 hYσ79 (hE.trans xσ79) (hth.up xσ79) _ _ _ hH (lv_sub (l' := [(0, .ref th)]) hl [0] rfl) hc
theorem ok_X9_seal (hl0 : l.stackTraces = false) (hT : TyC cA tys) {Q : Sg → Int → Prop} {X : Sg → String → Prop} (σ : Sg) (th : Nat) (hth : kO σ th 9) (hG : RG σ) (hY : TY σ) (h : wp_X9_seal th σ Q X) : Ok l D cA tys A yX9_seal (.code yX9_seal cX9_seal 5 (some .boolean)) 3 73 [.ref th] σ (QcZ σ Q) (QxC σ X) := by
  unfold wp_X9_seal at h
  exact oc_Z hl0 (by decide) (by exact Nat.le_of_ble_eq_true rfl) hT (fun p e R s m args below meth c K hQ hX hTh H locs ls hH hl hc => a_X9_seal_0 K hQ hX hTh σ h hG hY (Ext.rfl' σ) hth H locs ls hH (lv_sub (l' := [(0, .ref th)]) hl [0] rfl) hc)
theorem dX9_takePart_0 : decode cX9_takePart 0 = .ok (.aload_n 0, 1) := by decide +kernel
theorem dX9_takePart_1 : decode cX9_takePart 1 = .ok (.getfield 12, 3) := by decide +kernel
theorem dX9_takePart_4 : decode cX9_takePart 4 = .ok (.getfield 407, 3) := by decide +kernel
theorem dX9_takePart_7 : decode cX9_takePart 7 = .ok (.aload_n 1, 1) := by decide +kernel
theorem dX9_takePart_8 : decode cX9_takePart 8 = .ok (.invokevirtual 410, 3) := by decide +kernel
theorem dX9_takePart_11 : decode cX9_takePart 11 = .ok (.iadd, 1) := by decide +kernel
theorem dX9_takePart_12 : decode cX9_takePart 12 = .ok (.sipush 4000, 3) := by decide +kernel
theorem dX9_takePart_15 : decode cX9_takePart 15 = .ok (.if_icmp .le 11, 3) := by decide +kernel
theorem dX9_takePart_18 : decode cX9_takePart 18 = .ok (.new 278, 3) := by decide +kernel
theorem dX9_takePart_21 : decode cX9_takePart 21 = .ok (.dup, 1) := by decide +kernel
theorem dX9_takePart_22 : decode cX9_takePart 22 = .ok (.invokespecial 397, 3) := by decide +kernel
theorem dX9_takePart_25 : decode cX9_takePart 25 = .ok (.athrow, 1) := by decide +kernel
theorem dX9_takePart_26 : decode cX9_takePart 26 = .ok (.aload_n 0, 1) := by decide +kernel
theorem dX9_takePart_27 : decode cX9_takePart 27 = .ok (.getfield 12, 3) := by decide +kernel
theorem dX9_takePart_30 : decode cX9_takePart 30 = .ok (.invokevirtual 413, 3) := by decide +kernel
theorem dX9_takePart_33 : decode cX9_takePart 33 = .ok (.ifCond .ne 5, 3) := by decide +kernel
theorem dX9_takePart_36 : decode cX9_takePart 36 = .ok (.iconst 0, 1) := by decide +kernel
theorem dX9_takePart_37 : decode cX9_takePart 37 = .ok (.ireturn, 1) := by decide +kernel
theorem dX9_takePart_38 : decode cX9_takePart 38 = .ok (.aload_n 0, 1) := by decide +kernel
theorem dX9_takePart_39 : decode cX9_takePart 39 = .ok (.getfield 12, 3) := by decide +kernel
theorem dX9_takePart_42 : decode cX9_takePart 42 = .ok (.aload_n 1, 1) := by decide +kernel
theorem dX9_takePart_43 : decode cX9_takePart 43 = .ok (.invokevirtual 417, 3) := by decide +kernel
theorem dX9_takePart_46 : decode cX9_takePart 46 = .ok (.astore_n 3, 1) := by decide +kernel
theorem dX9_takePart_47 : decode cX9_takePart 47 = .ok (.aload_n 0, 1) := by decide +kernel
theorem dX9_takePart_48 : decode cX9_takePart 48 = .ok (.getfield 48, 3) := by decide +kernel
theorem dX9_takePart_51 : decode cX9_takePart 51 = .ok (.aload_n 1, 1) := by decide +kernel
theorem dX9_takePart_52 : decode cX9_takePart 52 = .ok (.getfield 138, 3) := by decide +kernel
theorem dX9_takePart_55 : decode cX9_takePart 55 = .ok (.aload_n 3, 1) := by decide +kernel
theorem dX9_takePart_56 : decode cX9_takePart 56 = .ok (.getfield 138, 3) := by decide +kernel
theorem dX9_takePart_59 : decode cX9_takePart 59 = .ok (.invokevirtual 421, 3) := by decide +kernel
theorem dX9_takePart_62 : decode cX9_takePart 62 = .ok (.aload_n 0, 1) := by decide +kernel
theorem dX9_takePart_63 : decode cX9_takePart 63 = .ok (.getfield 48, 3) := by decide +kernel
theorem dX9_takePart_66 : decode cX9_takePart 66 = .ok (.aload_n 1, 1) := by decide +kernel
theorem dX9_takePart_67 : decode cX9_takePart 67 = .ok (.getfield 142, 3) := by decide +kernel
theorem dX9_takePart_70 : decode cX9_takePart 70 = .ok (.aload_n 3, 1) := by decide +kernel
theorem dX9_takePart_71 : decode cX9_takePart 71 = .ok (.getfield 142, 3) := by decide +kernel
theorem dX9_takePart_74 : decode cX9_takePart 74 = .ok (.invokevirtual 421, 3) := by decide +kernel
theorem dX9_takePart_77 : decode cX9_takePart 77 = .ok (.aload_n 1, 1) := by decide +kernel
theorem dX9_takePart_78 : decode cX9_takePart 78 = .ok (.iconst 1, 1) := by decide +kernel
theorem dX9_takePart_79 : decode cX9_takePart 79 = .ok (.putfield 353, 3) := by decide +kernel
theorem dX9_takePart_82 : decode cX9_takePart 82 = .ok (.aload_n 2, 1) := by decide +kernel
theorem dX9_takePart_83 : decode cX9_takePart 83 = .ok (.getfield 164, 3) := by decide +kernel
theorem dX9_takePart_86 : decode cX9_takePart 86 = .ok (.bipush 11, 2) := by decide +kernel
theorem dX9_takePart_88 : decode cX9_takePart 88 = .ok (.if_icmp .ne 24, 3) := by decide +kernel
theorem dX9_takePart_91 : decode cX9_takePart 91 = .ok (.aload_n 0, 1) := by decide +kernel
theorem dX9_takePart_92 : decode cX9_takePart 92 = .ok (.getfield 38, 3) := by decide +kernel
theorem dX9_takePart_95 : decode cX9_takePart 95 = .ok (.aload_n 2, 1) := by decide +kernel
theorem dX9_takePart_96 : decode cX9_takePart 96 = .ok (.getfield 359, 3) := by decide +kernel
theorem dX9_takePart_99 : decode cX9_takePart 99 = .ok (.aaload, 1) := by decide +kernel
theorem dX9_takePart_100 : decode cX9_takePart 100 = .ok (.aload_n 0, 1) := by decide +kernel
theorem dX9_takePart_101 : decode cX9_takePart 101 = .ok (.getfield 42, 3) := by decide +kernel
theorem dX9_takePart_104 : decode cX9_takePart 104 = .ok (.aload_n 2, 1) := by decide +kernel
theorem dX9_takePart_105 : decode cX9_takePart 105 = .ok (.getfield 359, 3) := by decide +kernel
theorem dX9_takePart_108 : decode cX9_takePart 108 = .ok (.aaload, 1) := by decide +kernel
theorem dX9_takePart_109 : decode cX9_takePart 109 = .ok (.invokevirtual 425, 3) := by decide +kernel
theorem dX9_takePart_112 : decode cX9_takePart 112 = .ok (.aload_n 0, 1) := by decide +kernel
theorem dX9_takePart_113 : decode cX9_takePart 113 = .ok (.getfield 12, 3) := by decide +kernel
theorem dX9_takePart_116 : decode cX9_takePart 116 = .ok (.getfield 428, 3) := by decide +kernel
theorem dX9_takePart_119 : decode cX9_takePart 119 = .ok (.aload_n 0, 1) := by decide +kernel
theorem dX9_takePart_120 : decode cX9_takePart 120 = .ok (.getfield 78, 3) := by decide +kernel
theorem dX9_takePart_123 : decode cX9_takePart 123 = .ok (.if_icmp .lt 10, 3) := by decide +kernel
theorem dX9_takePart_126 : decode cX9_takePart 126 = .ok (.aload_n 0, 1) := by decide +kernel
theorem dX9_takePart_127 : decode cX9_takePart 127 = .ok (.invokevirtual 431, 3) := by decide +kernel
theorem dX9_takePart_130 : decode cX9_takePart 130 = .ok (.ifCond .eq 7, 3) := by decide +kernel
theorem dX9_takePart_133 : decode cX9_takePart 133 = .ok (.iconst 1, 1) := by decide +kernel
theorem dX9_takePart_134 : decode cX9_takePart 134 = .ok (.goto 4, 3) := by decide +kernel
theorem dX9_takePart_137 : decode cX9_takePart 137 = .ok (.iconst 0, 1) := by decide +kernel
theorem dX9_takePart_138 : decode cX9_takePart 138 = .ok (.ireturn, 1) := by decide +kernel
set_option maxRecDepth 20000 in
theorem a_X9_takePart_138 {Q : Sg → Int → Prop} {X : Sg → String → Prop} {th : Nat} (K : MD l R p s m args c cX9_takePart 4 RX9 D cA tys A n0 s0 6 105 []) (hQ : CQZ p l e R s m args below meth c cX9_takePart D cA A n0 s0 QM σi Q) (hX : CX p l e R s m args below meth c 4 D cA A n0 s0 QM σi X) (hTh : CT p l e R s m args below meth c cX9_takePart 4 D cA A n0 s0 QM σi RX9 X) : ∀ (σ : Sg) (u0 : Int) (gu0 : rng u0), w_X9_takePart_138 th Q X σ u0 → RG σ → TY σ → Ext σi σ → kO σ th 9 → JJ p l e R s m args below meth c 4 D cA A n0 s0 QM σ 138 [(0, .ref th)] [.int (i32 u0)] := by
  intro σ u0 gu0 h hGσ hYσ hE hth H locs ls hH hl hc
  have B := K.1
  have hl9 := K.2.2.2.2.2.2
  unfold w_X9_takePart_138 at h
  obtain ⟨qz, h⟩ := h
  exact hQ _ _ _ _ _ _ gu0 qz dX9_takePart_138 hH hc h hGσ hYσ hE
set_option maxRecDepth 20000 in
theorem a_X9_takePart_133 {Q : Sg → Int → Prop} {X : Sg → String → Prop} {th : Nat} (K : MD l R p s m args c cX9_takePart 4 RX9 D cA tys A n0 s0 6 105 []) (hQ : CQZ p l e R s m args below meth c cX9_takePart D cA A n0 s0 QM σi Q) (hX : CX p l e R s m args below meth c 4 D cA A n0 s0 QM σi X) (hTh : CT p l e R s m args below meth c cX9_takePart 4 D cA A n0 s0 QM σi RX9 X) : ∀ (σ : Sg), w_X9_takePart_133 th Q X σ → RG σ → TY σ → Ext σi σ → kO σ th 9 → JJ p l e R s m args below meth c 4 D cA A n0 s0 QM σ 133 [(0, .ref th)] [] := by
  intro σ h hGσ hYσ hE hth H locs ls hH hl hc
  have B := K.1
  have hl9 := K.2.2.2.2.2.2
  unfold w_X9_takePart_133 at h
  refine lv_iconst (v := i32 1) B.1 B.2.1 dX9_takePart_133 (by decide) ?_
  refine lv_goto (tgt := 138) B.1 B.2.1 dX9_takePart_134 (by decide) ?_
  exact a_X9_takePart_138 K hQ hX hTh _ _ (by unfold rng; omega) h hGσ hYσ hE hth _ _ _ hH (lv_sub (l' := [(0, .ref th)]) hl [0] rfl) hc
set_option maxRecDepth 20000 in
theorem a_X9_takePart_137 {Q : Sg → Int → Prop} {X : Sg → String → Prop} {th : Nat} (K : MD l R p s m args c cX9_takePart 4 RX9 D cA tys A n0 s0 6 105 []) (hQ : CQZ p l e R s m args below meth c cX9_takePart D cA A n0 s0 QM σi Q) (hX : CX p l e R s m args below meth c 4 D cA A n0 s0 QM σi X) (hTh : CT p l e R s m args below meth c cX9_takePart 4 D cA A n0 s0 QM σi RX9 X) : ∀ (σ : Sg), w_X9_takePart_137 th Q X σ → RG σ → TY σ → Ext σi σ → kO σ th 9 → JJ p l e R s m args below meth c 4 D cA A n0 s0 QM σ 137 [(0, .ref th)] [] := by
  intro σ h hGσ hYσ hE hth H locs ls hH hl hc
  have B := K.1
  have hl9 := K.2.2.2.2.2.2
  unfold w_X9_takePart_137 at h
  refine lv_iconst (v := i32 0) B.1 B.2.1 dX9_takePart_137 (by decide) ?_
  exact a_X9_takePart_138 K hQ hX hTh _ _ (by unfold rng; omega) h hGσ hYσ hE hth _ _ _ hH (lv_sub (l' := [(0, .ref th)]) hl [0] rfl) hc
set_option maxRecDepth 20000 in
theorem a_X9_takePart_126 {Q : Sg → Int → Prop} {X : Sg → String → Prop} {th : Nat} (K : MD l R p s m args c cX9_takePart 4 RX9 D cA tys A n0 s0 6 105 []) (hQ : CQZ p l e R s m args below meth c cX9_takePart D cA A n0 s0 QM σi Q) (hX : CX p l e R s m args below meth c 4 D cA A n0 s0 QM σi X) (hTh : CT p l e R s m args below meth c cX9_takePart 4 D cA A n0 s0 QM σi RX9 X) : ∀ (σ : Sg), w_X9_takePart_126 th Q X σ → RG σ → TY σ → Ext σi σ → kO σ th 9 → JJ p l e R s m args below meth c 4 D cA A n0 s0 QM σ 126 [(0, .ref th)] [] := by
  intro σ h hGσ hYσ hE hth H locs ls hH hl hc
  have B := K.1
  have hl9 := K.2.2.2.2.2.2
  unfold w_X9_takePart_126 at h
  refine lv_aload_n B.1 B.2.1 dX9_takePart_126 rfl (lv_at hl 0 rfl) ?_
  refine W.eq (g2 := F0 m 127 ls [.ref th]) (rfl) ?_
  refine c_V B hH hl hc K.2.2.1 (C := RX9) (T := TX9) (N := 20) (ci := 9) (As := []) (ok_X9_seal hl9 K.2.1 σ th hth hGσ hYσ h) wc_X9_431 0 hd_X9_seal ⟨Nat.le_trans (Nat.le_of_ble_eq_true rfl) K.2.2.2.1, Nat.le_trans (Nat.le_of_ble_eq_true rfl) K.2.2.2.2.1⟩ hth.1 hth.2 (by decide) rfl rfl (rest := []) rfl (Nat.le_of_ble_eq_true rfl) dX9_takePart_127 (fun σ53 w hq => ?_) (fun σ9 E9 hx9 => hX σ9 E9 _ _ _ (tb_out K.2.2.2.2.2.1 rfl) hx9.1 hx9.2.1 hx9.2.2.1 (hE.trans hx9.2.2.2))
  obtain ⟨r54, rfl, ⟨gr54, gzr54⟩, h, hGσ53, hYσ53, xσ53⟩ := hq
  have h := h xσ53
  intro H locs ls hH hl hc
  refine W.eq (g2 := F0 m 130 ls [.int (i32 r54)]) (rfl) ?_
  try dsimp only at h
  refine lv_if_eq (tgt := 137) B.1 B.2.1 dX9_takePart_130 (by decide) (fun h9 => ?_) (fun h9 => ?_)
  · rw [if_pos ((z_eq gr54).mp h9)] at h
    exact a_X9_takePart_137 K hQ hX hTh _ h hGσ53 hYσ53 (hE.trans xσ53) (hth.up xσ53) _ _ _ hH (lv_sub (l' := [(0, .ref th)]) hl [0] rfl) hc
  · rw [if_neg (fun q => h9 ((z_eq gr54).mpr q))] at h
    exact a_X9_takePart_133 K hQ hX hTh _ h hGσ53 hYσ53 (hE.trans xσ53) (hth.up xσ53) _ _ _ hH (lv_sub (l' := [(0, .ref th)]) hl [0] rfl) hc
set_option maxRecDepth 20000 in
theorem a_X9_takePart_112 {Q : Sg → Int → Prop} {X : Sg → String → Prop} {th : Nat} (K : MD l R p s m args c cX9_takePart 4 RX9 D cA tys A n0 s0 6 105 []) (hQ : CQZ p l e R s m args below meth c cX9_takePart D cA A n0 s0 QM σi Q) (hX : CX p l e R s m args below meth c 4 D cA A n0 s0 QM σi X) (hTh : CT p l e R s m args below meth c cX9_takePart 4 D cA A n0 s0 QM σi RX9 X) : ∀ (σ : Sg), w_X9_takePart_112 th Q X σ → RG σ → TY σ → Ext σi σ → kO σ th 9 → JJ p l e R s m args below meth c 4 D cA A n0 s0 QM σ 112 [(0, .ref th)] [] := by
  intro σ h hGσ hYσ hE hth H locs ls hH hl hc
  have B := K.1
  have hl9 := K.2.2.2.2.2.2
  unfold w_X9_takePart_112 at h
  refine lv_aload_n B.1 B.2.1 dX9_takePart_112 rfl (lv_at hl 0 rfl) ?_
  refine f_getp B hH hth (by decide) rfl wu_X9 2 (by decide) wf_X9_12 rfl rfl dX9_takePart_113 ?_
  obtain ⟨a55, ea55, h⟩ := h
  have ka55 : kO σ a55 3 := (hYσ.get hth (by decide)) a55 ea55
  have h := h ka55
  refine W.eq (g2 := F0 m 116 ls [.ref a55]) (by rw [ea55]; rfl) ?_
  refine f_geti B hH ka55 (by decide) rfl wu_X3 6 (by decide) wf_X9_428 rfl rfl dX9_takePart_116 ?_
  refine lv_aload_n B.1 B.2.1 dX9_takePart_119 rfl (lv_at hl 0 rfl) ?_
  refine f_geti B hH hth (by decide) rfl wu_X9 10 (by decide) wf_X9_78 rfl rfl dX9_takePart_120 ?_
  refine lv_icmp_lt (tgt := 133) B.1 B.2.1 dX9_takePart_123 (by decide) (fun h9 => ?_) (fun h9 => ?_)
  · rw [if_pos ((i32_lt (hGσ _ _) (hGσ _ _)).mp h9)] at h
    exact a_X9_takePart_133 K hQ hX hTh _ h hGσ hYσ hE hth _ _ _ hH (lv_sub (l' := [(0, .ref th)]) hl [0] rfl) hc
  · rw [if_neg (fun q => h9 ((i32_lt (hGσ _ _) (hGσ _ _)).mpr q))] at h
    exact a_X9_takePart_126 K hQ hX hTh _ h hGσ hYσ hE hth _ _ _ hH (lv_sub (l' := [(0, .ref th)]) hl [0] rfl) hc
set_option maxRecDepth 20000 in
theorem a_X9_takePart_91 {Q : Sg → Int → Prop} {X : Sg → String → Prop} {th : Nat} (K : MD l R p s m args c cX9_takePart 4 RX9 D cA tys A n0 s0 6 105 []) (hQ : CQZ p l e R s m args below meth c cX9_takePart D cA A n0 s0 QM σi Q) (hX : CX p l e R s m args below meth c 4 D cA A n0 s0 QM σi X) (hTh : CT p l e R s m args below meth c cX9_takePart 4 D cA A n0 s0 QM σi RX9 X) : ∀ (σ : Sg) (v2 : Option Nat) (g2 : tyV σ 5 v2), w_X9_takePart_91 th Q X σ v2 → RG σ → TY σ → Ext σi σ → kO σ th 9 → JJ p l e R s m args below meth c 4 D cA A n0 s0 QM σ 91 [(0, .ref th), (2, va_rf v2)] [] := by
  intro σ v2 g2 h hGσ hYσ hE hth H locs ls hH hl hc
  have B := K.1
  have hl9 := K.2.2.2.2.2.2
  unfold w_X9_takePart_91 at h
  refine lv_aload_n B.1 B.2.1 dX9_takePart_91 rfl (lv_at hl 0 rfl) ?_
  refine f_getp B hH hth (by decide) rfl wu_X9 6 (by decide) wf_X9_38 rfl rfl dX9_takePart_92 ?_
  refine lv_aload_nQ B.1 B.2.1 dX9_takePart_95 rfl (lv_at hl 1 rfl) ?_
  obtain ⟨a56, ea56, h⟩ := h
  have ka56 : kO σ a56 5 := g2 a56 ea56
  have h := h ka56
  refine W.eq (g2 := F0 m 96 ls [.ref a56, va_rf (gP σ th 6)]) (by rw [ea56]; rfl) ?_
  refine f_geti B hH ka56 (by decide) rfl wu_X5 9 (by decide) wf_X9_359 rfl rfl dX9_takePart_96 ?_
  obtain ⟨a57, ea57, h⟩ := h
  have ka57 : kO σ a57 111 := (hYσ.get hth (by decide)) a57 ea57
  have h := h ka57
  obtain ⟨q1, h⟩ := h
  refine W.eq (g2 := F0 m 99 ls [.int (i32 (gI σ a56 9)), .ref a57]) (by rw [ea57]; rfl) ?_
  refine y_aald B hH (t0 := 4) ka57 (by decide) K.2.1.2.1 q1 (hYσ.2 _) dX9_takePart_99 ?_
  refine lv_aload_n B.1 B.2.1 dX9_takePart_100 rfl (lv_at hl 0 rfl) ?_
  refine f_getp B hH hth (by decide) rfl wu_X9 7 (by decide) wf_X9_42 rfl rfl dX9_takePart_101 ?_
  refine lv_aload_nQ B.1 B.2.1 dX9_takePart_104 rfl (lv_at hl 1 rfl) ?_
  refine W.eq (g2 := F0 m 105 ls [.ref a56, va_rf (gP σ th 7), va_rf (gP σ a57 (gI σ a56 9).toNat)]) (by rw [ea56]; rfl) ?_
  refine f_geti B hH ka56 (by decide) rfl wu_X5 9 (by decide) wf_X9_359 rfl rfl dX9_takePart_105 ?_
  obtain ⟨a58, ea58, h⟩ := h
  have ka58 : kO σ a58 111 := (hYσ.get hth (by decide)) a58 ea58
  have h := h ka58
  obtain ⟨q2, h⟩ := h
  refine W.eq (g2 := F0 m 108 ls [.int (i32 (gI σ a56 9)), .ref a58, va_rf (gP σ a57 (gI σ a56 9).toNat)]) (by rw [ea58]; rfl) ?_
  refine y_aald B hH (t0 := 4) ka58 (by decide) K.2.1.2.1 q2 (hYσ.2 _) dX9_takePart_108 ?_
  obtain ⟨a60, ea60, h⟩ := h
  have ka60 : kO σ a60 1 := (hYσ.get ka57 rfl) a60 ea60
  have h := h ka60
  refine W.eq (g2 := F0 m 109 ls [va_rf (gP σ a58 (gI σ a56 9).toNat), .ref a60]) (by rw [ea60]; rfl) ?_
  refine c_V B hH hl hc K.2.2.1 (C := RX1) (T := TX1) (N := 3) (ci := 1) (As := [va_rf (gP σ a58 (gI σ a56 9).toNat)]) (ok_X1_moveAllTo hl9 K.2.1 σ a60 (gP σ a58 (gI σ a56 9).toNat) (hYσ.get ka58 rfl) ka60 hGσ hYσ h) wc_X9_425 1 hd_X1_moveAllTo ⟨Nat.le_trans (Nat.le_of_ble_eq_true rfl) K.2.2.2.1, Nat.le_trans (Nat.le_of_ble_eq_true rfl) K.2.2.2.2.1⟩ ka60.1 ka60.2 (by decide) rfl rfl (rest := []) rfl (Nat.le_of_ble_eq_true rfl) dX9_takePart_109 (fun σ59 w hq => ?_) (fun σ9 E9 hx9 => hX σ9 E9 _ _ _ (tb_out K.2.2.2.2.2.1 rfl) hx9.1 hx9.2.1 hx9.2.2.1 (hE.trans hx9.2.2.2))
  obtain ⟨rfl, h, hGσ59, hYσ59, xσ59⟩ := hq
  have h := h xσ59
  intro H locs ls hH hl hc
  refine W.eq (g2 := F0 m 112 ls []) (rfl) ?_
  try dsimp only at h
  exact a_X9_takePart_112 K hQ hX hTh _ h hGσ59 hYσ59 (hE.trans xσ59) (hth.up xσ59) _ _ _ hH (lv_sub (l' := [(0, .ref th)]) hl [0] rfl) hc
set_option maxRecDepth 20000 in
theorem a_X9_takePart_38 {Q : Sg → Int → Prop} {X : Sg → String → Prop} {th : Nat} (K : MD l R p s m args c cX9_takePart 4 RX9 D cA tys A n0 s0 6 105 []) (hQ : CQZ p l e R s m args below meth c cX9_takePart D cA A n0 s0 QM σi Q) (hX : CX p l e R s m args below meth c 4 D cA A n0 s0 QM σi X) (hTh : CT p l e R s m args below meth c cX9_takePart 4 D cA A n0 s0 QM σi RX9 X) : ∀ (σ : Sg) (v1 : Option Nat) (v2 : Option Nat) (g1 : tyV σ 10 v1) (g2 : tyV σ 5 v2), w_X9_takePart_38 th Q X σ v1 v2 → RG σ → TY σ → Ext σi σ → kO σ th 9 → JJ p l e R s m args below meth c 4 D cA A n0 s0 QM σ 38 [(0, .ref th), (1, va_rf v1), (2, va_rf v2)] [] := by
  intro σ v1 v2 g1 g2 h hGσ hYσ hE hth H locs ls hH hl hc
  have B := K.1
  have hl9 := K.2.2.2.2.2.2
  unfold w_X9_takePart_38 at h
  refine lv_aload_n B.1 B.2.1 dX9_takePart_38 rfl (lv_at hl 0 rfl) ?_
  refine f_getp B hH hth (by decide) rfl wu_X9 2 (by decide) wf_X9_12 rfl rfl dX9_takePart_39 ?_
  refine lv_aload_nQ B.1 B.2.1 dX9_takePart_42 rfl (lv_at hl 1 rfl) ?_
  obtain ⟨a63, ea63, h⟩ := h
  have ka63 : kO σ a63 3 := (hYσ.get hth (by decide)) a63 ea63
  have h := h ka63
  refine W.eq (g2 := F0 m 43 ls [va_rf v1, .ref a63]) (by rw [ea63]; rfl) ?_
  refine c_V B hH hl hc K.2.2.1 (C := RX3) (T := TX3) (N := 10) (ci := 3) (As := [va_rf v1]) (ok_X3_keepPart hl9 K.2.1 σ a63 v1 g1 ka63 hGσ hYσ h) wc_X9_417 1 hd_X3_keepPart ⟨Nat.le_trans (Nat.le_of_ble_eq_true rfl) K.2.2.2.1, Nat.le_trans (Nat.le_of_ble_eq_true rfl) K.2.2.2.2.1⟩ ka63.1 ka63.2 (by decide) rfl rfl (rest := []) rfl (Nat.le_of_ble_eq_true rfl) dX9_takePart_43 (fun σ61 w hq => ?_) (fun σ9 E9 hx9 => hX σ9 E9 _ _ _ (tb_out K.2.2.2.2.2.1 rfl) hx9.1 hx9.2.1 hx9.2.2.1 (hE.trans hx9.2.2.2))
  obtain ⟨r62, rfl, tr62, h, hGσ61, hYσ61, xσ61⟩ := hq
  have h := h xσ61 tr62
  intro H locs ls hH hl hc
  refine W.eq (g2 := F0 m 46 ls [va_rf r62]) (rfl) ?_
  try dsimp only at h
  refine lv_astore_nQ (lv' := [(3, va_rf r62), (0, .ref th), (1, va_rf v1), (2, va_rf v2)]) B.1 B.2.1 dX9_takePart_46 rfl hl (by decide) (by generalize v2 = w9; cases w9 <;> rfl) (fun ls hl => ?_)
  refine lv_aload_n B.1 B.2.1 dX9_takePart_47 rfl (lv_at hl 1 rfl) ?_
  refine f_getp B hH (hth.up xσ61) (by decide) rfl wu_X9 0 (by decide) wf_X9_48 rfl rfl dX9_takePart_48 ?_
  refine lv_aload_nQ B.1 B.2.1 dX9_takePart_51 rfl (lv_at hl 2 rfl) ?_
  obtain ⟨a64, ea64, h⟩ := h
  have ka64 : kO σ61 a64 10 := (g1.up xσ61) a64 ea64
  have h := h ka64
  refine W.eq (g2 := F0 m 52 ls [.ref a64, va_rf (gP σ61 th 0)]) (by rw [ea64]; rfl) ?_
  refine f_getp B hH ka64 (by decide) rfl wu_X10 2 (by decide) wf_X9_138 rfl rfl dX9_takePart_52 ?_
  refine lv_aload_nQ B.1 B.2.1 dX9_takePart_55 rfl (lv_at hl 0 rfl) ?_
  obtain ⟨a65, ea65, h⟩ := h
  have ka65 : kO σ61 a65 10 := tr62 a65 ea65
  have h := h ka65
  refine W.eq (g2 := F0 m 56 ls [.ref a65, va_rf (gP σ61 a64 2), va_rf (gP σ61 th 0)]) (by rw [ea65]; rfl) ?_
  refine f_getp B hH ka65 (by decide) rfl wu_X10 2 (by decide) wf_X9_138 rfl rfl dX9_takePart_56 ?_
  obtain ⟨a67, ea67, h⟩ := h
  have ka67 : kO σ61 a67 8 := (hYσ61.get (hth.up xσ61) (by decide)) a67 ea67
  have h := h ka67
  refine W.eq (g2 := F0 m 59 ls [va_rf (gP σ61 a65 2), va_rf (gP σ61 a64 2), .ref a67]) (by rw [ea67]; rfl) ?_
  refine c_V B hH hl hc K.2.2.1 (C := RX8) (T := TX8) (N := 3) (ci := 8) (As := [va_rf (gP σ61 a64 2), va_rf (gP σ61 a65 2)]) (ok_X8_copyAll hl9 K.2.1 σ61 a67 (gP σ61 a64 2) (gP σ61 a65 2) (hYσ61.get ka64 (by decide)) (hYσ61.get ka65 (by decide)) ka67 hGσ61 hYσ61 h) wc_X9_421 2 hd_X8_copyAll ⟨Nat.le_trans (Nat.le_of_ble_eq_true rfl) K.2.2.2.1, Nat.le_trans (Nat.le_of_ble_eq_true rfl) K.2.2.2.2.1⟩ ka67.1 ka67.2 (by decide) rfl rfl (rest := []) rfl (Nat.le_of_ble_eq_true rfl) dX9_takePart_59 (fun σ66 w hq => ?_) (fun σ9 E9 hx9 => hX σ9 E9 _ _ _ (tb_out K.2.2.2.2.2.1 rfl) hx9.1 hx9.2.1 hx9.2.2.1 ((hE.trans xσ61).trans hx9.2.2.2))
  obtain ⟨rfl, h, hGσ66, hYσ66, xσ66⟩ := hq
  have h := h xσ66
  intro H locs ls hH hl hc
  refine W.eq (g2 := F0 m 62 ls []) (rfl) ?_
  try dsimp only at h
  refine lv_aload_n B.1 B.2.1 dX9_takePart_62 rfl (lv_at hl 1 rfl) ?_
  refine f_getp B hH (hth.up (xσ61.trans xσ66)) (by decide) rfl wu_X9 0 (by decide) wf_X9_48 rfl rfl dX9_takePart_63 ?_
  refine lv_aload_nQ B.1 B.2.1 dX9_takePart_66 rfl (lv_at hl 2 rfl) ?_
  refine W.eq (g2 := F0 m 67 ls [.ref a64, va_rf (gP σ66 th 0)]) (by rw [ea64]; rfl) ?_
  refine f_getp B hH (ka64.up xσ66) (by decide) rfl wu_X10 3 (by decide) wf_X9_142 rfl rfl dX9_takePart_67 ?_
  refine lv_aload_nQ B.1 B.2.1 dX9_takePart_70 rfl (lv_at hl 0 rfl) ?_
  refine W.eq (g2 := F0 m 71 ls [.ref a65, va_rf (gP σ66 a64 3), va_rf (gP σ66 th 0)]) (by rw [ea65]; rfl) ?_
  refine f_getp B hH (ka65.up xσ66) (by decide) rfl wu_X10 3 (by decide) wf_X9_142 rfl rfl dX9_takePart_71 ?_
  obtain ⟨a69, ea69, h⟩ := h
  have ka69 : kO σ66 a69 8 := (hYσ66.get (hth.up (xσ61.trans xσ66)) (by decide)) a69 ea69
  have h := h ka69
  refine W.eq (g2 := F0 m 74 ls [va_rf (gP σ66 a65 3), va_rf (gP σ66 a64 3), .ref a69]) (by rw [ea69]; rfl) ?_
  refine c_V B hH hl hc K.2.2.1 (C := RX8) (T := TX8) (N := 3) (ci := 8) (As := [va_rf (gP σ66 a64 3), va_rf (gP σ66 a65 3)]) (ok_X8_copyAll hl9 K.2.1 σ66 a69 (gP σ66 a64 3) (gP σ66 a65 3) (hYσ66.get (ka64.up xσ66) (by decide)) (hYσ66.get (ka65.up xσ66) (by decide)) ka69 hGσ66 hYσ66 h) wc_X9_421 2 hd_X8_copyAll ⟨Nat.le_trans (Nat.le_of_ble_eq_true rfl) K.2.2.2.1, Nat.le_trans (Nat.le_of_ble_eq_true rfl) K.2.2.2.2.1⟩ ka69.1 ka69.2 (by decide) rfl rfl (rest := []) rfl (Nat.le_of_ble_eq_true rfl) dX9_takePart_74 (fun σ68 w hq => ?_) (fun σ9 E9 hx9 => hX σ9 E9 _ _ _ (tb_out K.2.2.2.2.2.1 rfl) hx9.1 hx9.2.1 hx9.2.2.1 (((hE.trans xσ61).trans xσ66).trans hx9.2.2.2))
  obtain ⟨rfl, h, hGσ68, hYσ68, xσ68⟩ := hq
  have h := h xσ68
  intro H locs ls hH hl hc
  refine W.eq (g2 := F0 m 77 ls []) (rfl) ?_
  try dsimp only at h
  refine lv_aload_nQ B.1 B.2.1 dX9_takePart_77 rfl (lv_at hl 2 rfl) ?_
  refine lv_iconst (v := i32 1) B.1 B.2.1 dX9_takePart_78 (by decide) ?_
  obtain ⟨σ70, eσ70⟩ : ∃ z, z = pI σ68 a64 10 1 := ⟨_, rfl⟩
  have h := h σ70 eσ70
  refine W.eq (g2 := F0 m 79 ls [.int (i32 1), .ref a64]) (by rw [ea64]; rfl) ?_
  refine f_puti B hH (ka64.up (xσ66.trans xσ68)) (by decide) rfl wu_X10 tyX10 tyX10_ok nmX10 10 (by decide) wf_X9_353 rfl (ty := .boolean) rfl rfl rfl rfl rfl dX9_takePart_79 (fun H locs hH => ?_)
  have hH : Hd D cA A s (pI σ68 a64 10 1) H locs := hH
  rw [← eσ70] at hH
  have hGσ70 : RG σ70 := by rw [eσ70]; exact hGσ68.pI (by unfold rng; omega)
  have hYσ70 : TY σ70 := by rw [eσ70]; exact hYσ68.pI
  have xσ70 : Ext σ68 σ70 := by rw [eσ70]; exact Ext.pI
  have hc : CB n0 s0 σ70 := by rw [eσ70]; exact hc
  rw [show gc σ68 = gc σ70 by rw [eσ70]; try rfl, show gs σ68 = gs σ70 by rw [eσ70]; try rfl]
  refine lv_aload_nQ B.1 B.2.1 dX9_takePart_82 rfl (lv_at hl 3 rfl) ?_
  obtain ⟨a71, ea71, h⟩ := h
  have ka71 : kO σ70 a71 5 := (g2.up (xσ61.trans (xσ66.trans (xσ68.trans xσ70)))) a71 ea71
  have h := h ka71
  refine W.eq (g2 := F0 m 83 ls [.ref a71]) (by rw [ea71]; rfl) ?_
  refine f_geti B hH ka71 (by decide) rfl wu_X5 6 (by decide) wf_X9_164 rfl rfl dX9_takePart_83 ?_
  refine lv_bipush (v := i32 11) B.1 B.2.1 dX9_takePart_86 (by decide) ?_
  refine lv_icmp_ne (tgt := 112) B.1 B.2.1 dX9_takePart_88 (by decide) (fun h9 => ?_) (fun h9 => ?_)
  · rw [if_pos (fun q => h9 ((i32_eq (hGσ70 _ _) (by unfold rng; omega)).mpr q))] at h
    exact a_X9_takePart_112 K hQ hX hTh _ h hGσ70 hYσ70 ((((hE.trans xσ61).trans xσ66).trans xσ68).trans xσ70) (hth.up (xσ61.trans (xσ66.trans (xσ68.trans xσ70)))) _ _ _ hH (lv_sub (l' := [(0, .ref th)]) hl [1] rfl) hc
  · rw [if_neg (fun q => q ((i32_eq (hGσ70 _ _) (by unfold rng; omega)).mp h9))] at h
    exact a_X9_takePart_91 K hQ hX hTh _ _ (g2.up (xσ61.trans (xσ66.trans (xσ68.trans xσ70)))) h hGσ70 hYσ70 ((((hE.trans xσ61).trans xσ66).trans xσ68).trans xσ70) (hth.up (xσ61.trans (xσ66.trans (xσ68.trans xσ70)))) _ _ _ hH (lv_sub (l' := [(0, .ref th), (2, va_rf v2)]) hl [1, 3] rfl) hc
set_option maxRecDepth 20000 in
theorem a_X9_takePart_36 {Q : Sg → Int → Prop} {X : Sg → String → Prop} {th : Nat} (K : MD l R p s m args c cX9_takePart 4 RX9 D cA tys A n0 s0 6 105 []) (hQ : CQZ p l e R s m args below meth c cX9_takePart D cA A n0 s0 QM σi Q) (hX : CX p l e R s m args below meth c 4 D cA A n0 s0 QM σi X) (hTh : CT p l e R s m args below meth c cX9_takePart 4 D cA A n0 s0 QM σi RX9 X) : ∀ (σ : Sg), w_X9_takePart_36 th Q X σ → RG σ → TY σ → Ext σi σ → kO σ th 9 → JJ p l e R s m args below meth c 4 D cA A n0 s0 QM σ 36 [(0, .ref th)] [] := by
  intro σ h hGσ hYσ hE hth H locs ls hH hl hc
  have B := K.1
  have hl9 := K.2.2.2.2.2.2
  unfold w_X9_takePart_36 at h
  refine lv_iconst (v := i32 0) B.1 B.2.1 dX9_takePart_36 (by decide) ?_
  exact hQ _ _ _ _ _ _ (by unfold rng; omega) (Or.inl rfl) dX9_takePart_37 hH hc h hGσ hYσ hE
set_option maxRecDepth 20000 in
theorem a_X9_takePart_26 {Q : Sg → Int → Prop} {X : Sg → String → Prop} {th : Nat} (K : MD l R p s m args c cX9_takePart 4 RX9 D cA tys A n0 s0 6 105 []) (hQ : CQZ p l e R s m args below meth c cX9_takePart D cA A n0 s0 QM σi Q) (hX : CX p l e R s m args below meth c 4 D cA A n0 s0 QM σi X) (hTh : CT p l e R s m args below meth c cX9_takePart 4 D cA A n0 s0 QM σi RX9 X) : ∀ (σ : Sg) (v1 : Option Nat) (v2 : Option Nat) (g1 : tyV σ 10 v1) (g2 : tyV σ 5 v2), w_X9_takePart_26 th Q X σ v1 v2 → RG σ → TY σ → Ext σi σ → kO σ th 9 → JJ p l e R s m args below meth c 4 D cA A n0 s0 QM σ 26 [(0, .ref th), (1, va_rf v1), (2, va_rf v2)] [] := by
  intro σ v1 v2 g1 g2 h hGσ hYσ hE hth H locs ls hH hl hc
  have B := K.1
  have hl9 := K.2.2.2.2.2.2
  unfold w_X9_takePart_26 at h
  refine lv_aload_n B.1 B.2.1 dX9_takePart_26 rfl (lv_at hl 0 rfl) ?_
  refine f_getp B hH hth (by decide) rfl wu_X9 2 (by decide) wf_X9_12 rfl rfl dX9_takePart_27 ?_
  obtain ⟨a74, ea74, h⟩ := h
  have ka74 : kO σ a74 3 := (hYσ.get hth (by decide)) a74 ea74
  have h := h ka74
  refine W.eq (g2 := F0 m 30 ls [.ref a74]) (by rw [ea74]; rfl) ?_
  refine c_V B hH hl hc K.2.2.1 (C := RX3) (T := TX3) (N := 10) (ci := 3) (As := []) (ok_X3_write hl9 K.2.1 σ a74 ka74 hGσ hYσ h) wc_X9_413 0 hd_X3_write ⟨Nat.le_trans (Nat.le_of_ble_eq_true rfl) K.2.2.2.1, Nat.le_trans (Nat.le_of_ble_eq_true rfl) K.2.2.2.2.1⟩ ka74.1 ka74.2 (by decide) rfl rfl (rest := []) rfl (Nat.le_of_ble_eq_true rfl) dX9_takePart_30 (fun σ72 w hq => ?_) (fun σ9 E9 hx9 => hX σ9 E9 _ _ _ (tb_out K.2.2.2.2.2.1 rfl) hx9.1 hx9.2.1 hx9.2.2.1 (hE.trans hx9.2.2.2))
  obtain ⟨r73, rfl, ⟨gr73, gzr73⟩, h, hGσ72, hYσ72, xσ72⟩ := hq
  have h := h xσ72
  intro H locs ls hH hl hc
  refine W.eq (g2 := F0 m 33 ls [.int (i32 r73)]) (rfl) ?_
  try dsimp only at h
  refine lv_if_ne (tgt := 38) B.1 B.2.1 dX9_takePart_33 (by decide) (fun h9 => ?_) (fun h9 => ?_)
  · rw [if_pos (fun q => h9 ((z_eq gr73).mpr q))] at h
    exact a_X9_takePart_38 K hQ hX hTh _ _ _ (g1.up xσ72) (g2.up xσ72) h hGσ72 hYσ72 (hE.trans xσ72) (hth.up xσ72) _ _ _ hH (lv_sub (l' := [(0, .ref th), (1, va_rf v1), (2, va_rf v2)]) hl [0, 1, 2] rfl) hc
  · rw [if_neg (fun q => q ((z_eq gr73).mp h9))] at h
    exact a_X9_takePart_36 K hQ hX hTh _ h hGσ72 hYσ72 (hE.trans xσ72) (hth.up xσ72) _ _ _ hH (lv_sub (l' := [(0, .ref th)]) hl [0] rfl) hc
set_option maxRecDepth 20000 in
theorem a_X9_takePart_18 {Q : Sg → Int → Prop} {X : Sg → String → Prop} {th : Nat} (K : MD l R p s m args c cX9_takePart 4 RX9 D cA tys A n0 s0 6 105 []) (hQ : CQZ p l e R s m args below meth c cX9_takePart D cA A n0 s0 QM σi Q) (hX : CX p l e R s m args below meth c 4 D cA A n0 s0 QM σi X) (hTh : CT p l e R s m args below meth c cX9_takePart 4 D cA A n0 s0 QM σi RX9 X) : ∀ (σ : Sg), w_X9_takePart_18 th Q X σ → RG σ → TY σ → Ext σi σ → kO σ th 9 → JJ p l e R s m args below meth c 4 D cA A n0 s0 QM σ 18 [(0, .ref th)] [] := by
  intro σ h hGσ hYσ hE hth H locs ls hH hl hc
  have B := K.1
  have hl9 := K.2.2.2.2.2.2
  unfold w_X9_takePart_18 at h
  obtain ⟨q9, h⟩ := h
  exact hTh _ _ _ _ _ _ _ _ _ tw_X9_278_397 dX9_takePart_18 dX9_takePart_21 dX9_takePart_22 dX9_takePart_25 hH hl hc q9 h hGσ hYσ hE (by have := K.2.2.2.1; omega) (by have := K.2.2.2.2.1; omega)
set_option maxRecDepth 20000 in
theorem a_X9_takePart_0 {Q : Sg → Int → Prop} {X : Sg → String → Prop} {th : Nat} (K : MD l R p s m args c cX9_takePart 4 RX9 D cA tys A n0 s0 6 105 []) (hQ : CQZ p l e R s m args below meth c cX9_takePart D cA A n0 s0 QM σi Q) (hX : CX p l e R s m args below meth c 4 D cA A n0 s0 QM σi X) (hTh : CT p l e R s m args below meth c cX9_takePart 4 D cA A n0 s0 QM σi RX9 X) : ∀ (σ : Sg) (v1 : Option Nat) (v2 : Option Nat) (g1 : tyV σ 10 v1) (g2 : tyV σ 5 v2), w_X9_takePart_0 th Q X σ v1 v2 → RG σ → TY σ → Ext σi σ → kO σ th 9 → JJ p l e R s m args below meth c 4 D cA A n0 s0 QM σ 0 [(0, .ref th), (1, va_rf v1), (2, va_rf v2)] [] := by
  intro σ v1 v2 g1 g2 h hGσ hYσ hE hth H locs ls hH hl hc
  have B := K.1
  have hl9 := K.2.2.2.2.2.2
  unfold w_X9_takePart_0 at h
  refine lv_aload_n B.1 B.2.1 dX9_takePart_0 rfl (lv_at hl 0 rfl) ?_
  refine f_getp B hH hth (by decide) rfl wu_X9 2 (by decide) wf_X9_12 rfl rfl dX9_takePart_1 ?_
  obtain ⟨a75, ea75, h⟩ := h
  have ka75 : kO σ a75 3 := (hYσ.get hth (by decide)) a75 ea75
  have h := h ka75
  refine W.eq (g2 := F0 m 4 ls [.ref a75]) (by rw [ea75]; rfl) ?_
  refine f_geti B hH ka75 (by decide) rfl wu_X3 7 (by decide) wf_X9_407 rfl rfl dX9_takePart_4 ?_
  refine lv_aload_nQ B.1 B.2.1 dX9_takePart_7 rfl (lv_at hl 1 rfl) ?_
  obtain ⟨a78, ea78, h⟩ := h
  have ka78 : kO σ a78 10 := g1 a78 ea78
  have h := h ka78
  refine W.eq (g2 := F0 m 8 ls [.ref a78, .int (i32 (gI σ a75 7))]) (by rw [ea78]; rfl) ?_
  refine c_V B hH hl hc K.2.2.1 (C := RX10) (T := TX10) (N := 16) (ci := 10) (As := []) (ok_X10_held hl9 K.2.1 σ a78 ka78 hGσ hYσ h) wc_X9_410 0 hd_X10_held ⟨Nat.le_trans (Nat.le_of_ble_eq_true rfl) K.2.2.2.1, Nat.le_trans (Nat.le_of_ble_eq_true rfl) K.2.2.2.2.1⟩ ka78.1 ka78.2 (by decide) rfl rfl (rest := [.int (i32 (gI σ a75 7))]) rfl (Nat.le_of_ble_eq_true rfl) dX9_takePart_8 (fun σ76 w hq => ?_) (fun σ9 E9 hx9 => hX σ9 E9 _ _ _ (tb_out K.2.2.2.2.2.1 rfl) hx9.1 hx9.2.1 hx9.2.2.1 (hE.trans hx9.2.2.2))
  obtain ⟨r77, rfl, gr77, h, hGσ76, hYσ76, xσ76⟩ := hq
  have h := h xσ76
  intro H locs ls hH hl hc
  refine W.eq (g2 := F0 m 11 ls [.int (i32 r77), .int (i32 (gI σ a75 7))]) (rfl) ?_
  try dsimp only at h
  obtain ⟨q1, h⟩ := h
  refine lv_iadd B.1 B.2.1 dX9_takePart_11 ?_
  rw [i32_add]
  refine lv_sipush (v := i32 4000) B.1 B.2.1 dX9_takePart_12 (by decide) ?_
  refine lv_icmp_le (tgt := 26) B.1 B.2.1 dX9_takePart_15 (by decide) (fun h9 => ?_) (fun h9 => ?_)
  · rw [if_pos ((i32_le q1 (by unfold rng; omega)).mp h9)] at h
    exact a_X9_takePart_26 K hQ hX hTh _ _ _ (g1.up xσ76) (g2.up xσ76) h hGσ76 hYσ76 (hE.trans xσ76) (hth.up xσ76) _ _ _ hH (lv_sub (l' := [(0, .ref th), (1, va_rf v1), (2, va_rf v2)]) hl [0, 1, 2] rfl) hc
  · rw [if_neg (fun q => h9 ((i32_le q1 (by unfold rng; omega)).mpr q))] at h
    exact a_X9_takePart_18 K hQ hX hTh _ h hGσ76 hYσ76 (hE.trans xσ76) (hth.up xσ76) _ _ _ hH (lv_sub (l' := [(0, .ref th)]) hl [0] rfl) hc
theorem ok_X9_takePart (hl0 : l.stackTraces = false) (hT : TyC cA tys) {Q : Sg → Int → Prop} {X : Sg → String → Prop} (σ : Sg) (th : Nat) (v1 : Option Nat) (v2 : Option Nat) (g1 : tyV σ 10 v1) (g2 : tyV σ 5 v2) (hth : kO σ th 9) (hG : RG σ) (hY : TY σ) (h : wp_X9_takePart th v1 v2 σ Q X) : Ok l D cA tys A yX9_takePart (.code yX9_takePart cX9_takePart 4 (some .boolean)) 6 105 [.ref th, va_rf v1, va_rf v2] σ (QcZ σ Q) (QxC σ X) := by
  unfold wp_X9_takePart at h
  exact oc_Z hl0 (by decide) (by cases v1 <;> cases v2 <;> exact Nat.le_of_ble_eq_true rfl) hT (fun p e R s m args below meth c K hQ hX hTh H locs ls hH hl hc => a_X9_takePart_0 K hQ hX hTh σ v1 v2 g1 g2 h hG hY (Ext.rfl' σ) hth H locs ls hH (lv_sub (l' := [(0, .ref th), (1, va_rf v1), (2, va_rf v2)]) hl [0, 1, 2] (by cases v1 <;> cases v2 <;> rfl)) hc)
theorem dX9_actAsSource_0 : decode cX9_actAsSource 0 = .ok (.aload_n 0, 1) := by decide +kernel
theorem dX9_actAsSource_1 : decode cX9_actAsSource 1 = .ok (.getfield 12, 3) := by decide +kernel
theorem dX9_actAsSource_4 : decode cX9_actAsSource 4 = .ok (.getfield 350, 3) := by decide +kernel
theorem dX9_actAsSource_7 : decode cX9_actAsSource 7 = .ok (.ifCond .eq 28, 3) := by decide +kernel
theorem dX9_actAsSource_10 : decode cX9_actAsSource 10 = .ok (.aload_n 1, 1) := by decide +kernel
theorem dX9_actAsSource_11 : decode cX9_actAsSource 11 = .ok (.getfield 353, 3) := by decide +kernel
theorem dX9_actAsSource_14 : decode cX9_actAsSource 14 = .ok (.ifCond .ne 21, 3) := by decide +kernel
theorem dX9_actAsSource_17 : decode cX9_actAsSource 17 = .ok (.aload_n 0, 1) := by decide +kernel
theorem dX9_actAsSource_18 : decode cX9_actAsSource 18 = .ok (.aload_n 1, 1) := by decide +kernel
theorem dX9_actAsSource_19 : decode cX9_actAsSource 19 = .ok (.aload_n 2, 1) := by decide +kernel
theorem dX9_actAsSource_20 : decode cX9_actAsSource 20 = .ok (.invokevirtual 304, 3) := by decide +kernel
theorem dX9_actAsSource_23 : decode cX9_actAsSource 23 = .ok (.ifCond .eq 10, 3) := by decide +kernel
theorem dX9_actAsSource_26 : decode cX9_actAsSource 26 = .ok (.aload_n 0, 1) := by decide +kernel
theorem dX9_actAsSource_27 : decode cX9_actAsSource 27 = .ok (.aload_n 1, 1) := by decide +kernel
theorem dX9_actAsSource_28 : decode cX9_actAsSource 28 = .ok (.iconst 2, 1) := by decide +kernel
theorem dX9_actAsSource_29 : decode cX9_actAsSource 29 = .ok (.lconst 0, 1) := by decide +kernel
theorem dX9_actAsSource_30 : decode cX9_actAsSource 30 = .ok (.invokevirtual 134, 3) := by decide +kernel
theorem dX9_actAsSource_33 : decode cX9_actAsSource 33 = .ok (.iconst 1, 1) := by decide +kernel
theorem dX9_actAsSource_34 : decode cX9_actAsSource 34 = .ok (.ireturn, 1) := by decide +kernel
theorem dX9_actAsSource_35 : decode cX9_actAsSource 35 = .ok (.aload_n 1, 1) := by decide +kernel
theorem dX9_actAsSource_36 : decode cX9_actAsSource 36 = .ok (.getfield 227, 3) := by decide +kernel
theorem dX9_actAsSource_39 : decode cX9_actAsSource 39 = .ok (.aload_n 0, 1) := by decide +kernel
theorem dX9_actAsSource_40 : decode cX9_actAsSource 40 = .ok (.getfield 100, 3) := by decide +kernel
theorem dX9_actAsSource_43 : decode cX9_actAsSource 43 = .ok (.getfield 356, 3) := by decide +kernel
theorem dX9_actAsSource_46 : decode cX9_actAsSource 46 = .ok (.aload_n 2, 1) := by decide +kernel
theorem dX9_actAsSource_47 : decode cX9_actAsSource 47 = .ok (.getfield 359, 3) := by decide +kernel
theorem dX9_actAsSource_50 : decode cX9_actAsSource 50 = .ok (.iaload, 1) := by decide +kernel
theorem dX9_actAsSource_51 : decode cX9_actAsSource 51 = .ok (.if_icmp .ge 11, 3) := by decide +kernel
theorem dX9_actAsSource_54 : decode cX9_actAsSource 54 = .ok (.aload_n 0, 1) := by decide +kernel
theorem dX9_actAsSource_55 : decode cX9_actAsSource 55 = .ok (.aload_n 1, 1) := by decide +kernel
theorem dX9_actAsSource_56 : decode cX9_actAsSource 56 = .ok (.aload_n 2, 1) := by decide +kernel
theorem dX9_actAsSource_57 : decode cX9_actAsSource 57 = .ok (.invokevirtual 362, 3) := by decide +kernel
theorem dX9_actAsSource_60 : decode cX9_actAsSource 60 = .ok (.iconst 1, 1) := by decide +kernel
theorem dX9_actAsSource_61 : decode cX9_actAsSource 61 = .ok (.ireturn, 1) := by decide +kernel
theorem dX9_actAsSource_62 : decode cX9_actAsSource 62 = .ok (.aload_n 0, 1) := by decide +kernel
theorem dX9_actAsSource_63 : decode cX9_actAsSource 63 = .ok (.getfield 100, 3) := by decide +kernel
theorem dX9_actAsSource_66 : decode cX9_actAsSource 66 = .ok (.getfield 366, 3) := by decide +kernel
theorem dX9_actAsSource_69 : decode cX9_actAsSource 69 = .ok (.aload_n 2, 1) := by decide +kernel
theorem dX9_actAsSource_70 : decode cX9_actAsSource 70 = .ok (.getfield 359, 3) := by decide +kernel
theorem dX9_actAsSource_73 : decode cX9_actAsSource 73 = .ok (.baload, 1) := by decide +kernel
theorem dX9_actAsSource_74 : decode cX9_actAsSource 74 = .ok (.ifCond .eq 32, 3) := by decide +kernel
theorem dX9_actAsSource_77 : decode cX9_actAsSource 77 = .ok (.aload_n 1, 1) := by decide +kernel
theorem dX9_actAsSource_78 : decode cX9_actAsSource 78 = .ok (.getfield 127, 3) := by decide +kernel
theorem dX9_actAsSource_81 : decode cX9_actAsSource 81 = .ok (.ldc2_w 370, 3) := by decide +kernel
theorem dX9_actAsSource_84 : decode cX9_actAsSource 84 = .ok (.lcmp, 1) := by decide +kernel
theorem dX9_actAsSource_85 : decode cX9_actAsSource 85 = .ok (.ifCond .eq 21, 3) := by decide +kernel
theorem dX9_actAsSource_88 : decode cX9_actAsSource 88 = .ok (.aload_n 1, 1) := by decide +kernel
theorem dX9_actAsSource_89 : decode cX9_actAsSource 89 = .ok (.ldc2_w 370, 3) := by decide +kernel
theorem dX9_actAsSource_92 : decode cX9_actAsSource 92 = .ok (.putfield 127, 3) := by decide +kernel
theorem dX9_actAsSource_95 : decode cX9_actAsSource 95 = .ok (.aload_n 0, 1) := by decide +kernel
theorem dX9_actAsSource_96 : decode cX9_actAsSource 96 = .ok (.aload_n 1, 1) := by decide +kernel
theorem dX9_actAsSource_97 : decode cX9_actAsSource 97 = .ok (.iconst 1, 1) := by decide +kernel
theorem dX9_actAsSource_98 : decode cX9_actAsSource 98 = .ok (.ldc2_w 370, 3) := by decide +kernel
theorem dX9_actAsSource_101 : decode cX9_actAsSource 101 = .ok (.invokevirtual 134, 3) := by decide +kernel
theorem dX9_actAsSource_104 : decode cX9_actAsSource 104 = .ok (.iconst 1, 1) := by decide +kernel
theorem dX9_actAsSource_105 : decode cX9_actAsSource 105 = .ok (.ireturn, 1) := by decide +kernel
theorem dX9_actAsSource_106 : decode cX9_actAsSource 106 = .ok (.iconst 0, 1) := by decide +kernel
theorem dX9_actAsSource_107 : decode cX9_actAsSource 107 = .ok (.ireturn, 1) := by decide +kernel
set_option maxRecDepth 20000 in
theorem a_X9_actAsSource_106 {Q : Sg → Int → Prop} {X : Sg → String → Prop} {th : Nat} (K : MD l R p s m args c cX9_actAsSource 3 RX9 D cA tys A n0 s0 9 166 []) (hQ : CQZ p l e R s m args below meth c cX9_actAsSource D cA A n0 s0 QM σi Q) (hX : CX p l e R s m args below meth c 3 D cA A n0 s0 QM σi X) (hTh : CT p l e R s m args below meth c cX9_actAsSource 3 D cA A n0 s0 QM σi RX9 X) : ∀ (σ : Sg), w_X9_actAsSource_106 th Q X σ → RG σ → TY σ → Ext σi σ → kO σ th 9 → JJ p l e R s m args below meth c 3 D cA A n0 s0 QM σ 106 [(0, .ref th)] [] := by
  intro σ h hGσ hYσ hE hth H locs ls hH hl hc
  have B := K.1
  have hl9 := K.2.2.2.2.2.2
  unfold w_X9_actAsSource_106 at h
  refine lv_iconst (v := i32 0) B.1 B.2.1 dX9_actAsSource_106 (by decide) ?_
  exact hQ _ _ _ _ _ _ (by unfold rng; omega) (Or.inl rfl) dX9_actAsSource_107 hH hc h hGσ hYσ hE
set_option maxRecDepth 20000 in
theorem a_X9_actAsSource_88 {Q : Sg → Int → Prop} {X : Sg → String → Prop} {th : Nat} (K : MD l R p s m args c cX9_actAsSource 3 RX9 D cA tys A n0 s0 9 166 []) (hQ : CQZ p l e R s m args below meth c cX9_actAsSource D cA A n0 s0 QM σi Q) (hX : CX p l e R s m args below meth c 3 D cA A n0 s0 QM σi X) (hTh : CT p l e R s m args below meth c cX9_actAsSource 3 D cA A n0 s0 QM σi RX9 X) : ∀ (σ : Sg) (v1 : Option Nat) (g1 : tyV σ 10 v1), w_X9_actAsSource_88 th Q X σ v1 → RG σ → TY σ → Ext σi σ → kO σ th 9 → JJ p l e R s m args below meth c 3 D cA A n0 s0 QM σ 88 [(0, .ref th), (1, va_rf v1)] [] := by
  intro σ v1 g1 h hGσ hYσ hE hth H locs ls hH hl hc
  have B := K.1
  have hl9 := K.2.2.2.2.2.2
  unfold w_X9_actAsSource_88 at h
  refine lv_aload_nQ B.1 B.2.1 dX9_actAsSource_88 rfl (lv_at hl 1 rfl) ?_
  refine lv_ldc2 B.1 B.2.1 B.2.2.1 (B.2.2.2.1 _ (wk_X9_370)) dX9_actAsSource_89 ?_
  obtain ⟨a35, ea35, h⟩ := h
  have ka35 : kO σ a35 10 := g1 a35 ea35
  have h := h ka35
  obtain ⟨σ36, eσ36⟩ : ∃ z, z = pJ σ a35 7 1099511627776 := ⟨_, rfl⟩
  have h := h σ36 eσ36
  refine W.eq (g2 := F0 m 92 ls [.long 1099511627776, .ref a35]) (by rw [ea35]; rfl) ?_
  refine f_putl B hH ka35 (by decide) rfl wu_X10 tyX10 tyX10_ok nmX10 7 (by decide) wf_X9_127 rfl (ty := .long) rfl rfl rfl rfl rfl dX9_actAsSource_92 (fun H locs hH => ?_)
  have hH : Hd D cA A s (pJ σ a35 7 1099511627776) H locs := hH
  rw [← eσ36] at hH
  have hGσ36 : RG σ36 := by rw [eσ36]; exact hGσ.pJ
  have hYσ36 : TY σ36 := by rw [eσ36]; exact hYσ.pJ
  have xσ36 : Ext σ σ36 := by rw [eσ36]; exact Ext.pJ
  have hc : CB n0 s0 σ36 := by rw [eσ36]; exact hc
  rw [show gc σ = gc σ36 by rw [eσ36]; try rfl, show gs σ = gs σ36 by rw [eσ36]; try rfl]
  refine lv_aload_n B.1 B.2.1 dX9_actAsSource_95 rfl (lv_at hl 0 rfl) ?_
  refine lv_aload_nQ B.1 B.2.1 dX9_actAsSource_96 rfl (lv_at hl 1 rfl) ?_
  refine lv_iconst (v := i32 1) B.1 B.2.1 dX9_actAsSource_97 (by decide) ?_
  refine lv_ldc2 B.1 B.2.1 B.2.2.1 (B.2.2.2.1 _ (wk_X9_370)) dX9_actAsSource_98 ?_
  refine W.eq (g2 := F0 m 101 ls [.long 1099511627776, .int (i32 1), va_rf v1, .ref th]) (rfl) ?_
  refine c_V B hH hl hc K.2.2.1 (C := RX9) (T := TX9) (N := 20) (ci := 9) (As := [va_rf v1, .int (i32 1), .long 1099511627776]) (ok_X9_sendToAll hl9 K.2.1 σ36 th v1 1 1099511627776 (g1.up xσ36) (by unfold rng; omega) (hth.up xσ36) hGσ36 hYσ36 h) wc_X9_134 3 hd_X9_sendToAll ⟨Nat.le_trans (Nat.le_of_ble_eq_true rfl) K.2.2.2.1, Nat.le_trans (Nat.le_of_ble_eq_true rfl) K.2.2.2.2.1⟩ (hth.up xσ36).1 (hth.up xσ36).2 (by decide) rfl rfl (rest := []) rfl (Nat.le_of_ble_eq_true rfl) dX9_actAsSource_101 (fun σ37 w hq => ?_) (fun σ9 E9 hx9 => hX σ9 E9 _ _ _ (tb_out K.2.2.2.2.2.1 rfl) hx9.1 hx9.2.1 hx9.2.2.1 ((hE.trans xσ36).trans hx9.2.2.2))
  obtain ⟨rfl, h, hGσ37, hYσ37, xσ37⟩ := hq
  have h := h xσ37
  intro H locs ls hH hl hc
  refine W.eq (g2 := F0 m 104 ls []) (rfl) ?_
  try dsimp only at h
  refine lv_iconst (v := i32 1) B.1 B.2.1 dX9_actAsSource_104 (by decide) ?_
  exact hQ _ _ _ _ _ _ (by unfold rng; omega) (Or.inr rfl) dX9_actAsSource_105 hH hc h hGσ37 hYσ37 ((hE.trans xσ36).trans xσ37)
set_option maxRecDepth 20000 in
theorem a_X9_actAsSource_77 {Q : Sg → Int → Prop} {X : Sg → String → Prop} {th : Nat} (K : MD l R p s m args c cX9_actAsSource 3 RX9 D cA tys A n0 s0 9 166 []) (hQ : CQZ p l e R s m args below meth c cX9_actAsSource D cA A n0 s0 QM σi Q) (hX : CX p l e R s m args below meth c 3 D cA A n0 s0 QM σi X) (hTh : CT p l e R s m args below meth c cX9_actAsSource 3 D cA A n0 s0 QM σi RX9 X) : ∀ (σ : Sg) (v1 : Option Nat) (g1 : tyV σ 10 v1), w_X9_actAsSource_77 th Q X σ v1 → RG σ → TY σ → Ext σi σ → kO σ th 9 → JJ p l e R s m args below meth c 3 D cA A n0 s0 QM σ 77 [(0, .ref th), (1, va_rf v1)] [] := by
  intro σ v1 g1 h hGσ hYσ hE hth H locs ls hH hl hc
  have B := K.1
  have hl9 := K.2.2.2.2.2.2
  unfold w_X9_actAsSource_77 at h
  refine lv_aload_nQ B.1 B.2.1 dX9_actAsSource_77 rfl (lv_at hl 1 rfl) ?_
  obtain ⟨a38, ea38, h⟩ := h
  have ka38 : kO σ a38 10 := g1 a38 ea38
  have h := h ka38
  refine W.eq (g2 := F0 m 78 ls [.ref a38]) (by rw [ea38]; rfl) ?_
  refine f_getl B hH ka38 (by decide) rfl wu_X10 7 (by decide) wf_X9_127 rfl rfl dX9_actAsSource_78 ?_
  refine lv_ldc2 B.1 B.2.1 B.2.2.1 (B.2.2.2.1 _ (wk_X9_370)) dX9_actAsSource_81 ?_
  refine W.lcmp B.1 B.2.1 dX9_actAsSource_84 ?_
  refine lv_if_eq (tgt := 106) B.1 B.2.1 dX9_actAsSource_85 (by decide) (fun h9 => ?_) (fun h9 => ?_)
  · rw [if_pos ((lg_cmp_eq _ _).mp h9)] at h
    exact a_X9_actAsSource_106 K hQ hX hTh _ h hGσ hYσ hE hth _ _ _ hH (lv_sub (l' := [(0, .ref th)]) hl [0] rfl) hc
  · rw [if_neg (fun q => h9 ((lg_cmp_eq _ _).mpr q))] at h
    exact a_X9_actAsSource_88 K hQ hX hTh _ _ g1 h hGσ hYσ hE hth _ _ _ hH (lv_sub (l' := [(0, .ref th), (1, va_rf v1)]) hl [0, 1] rfl) hc
set_option maxRecDepth 20000 in
theorem a_X9_actAsSource_62 {Q : Sg → Int → Prop} {X : Sg → String → Prop} {th : Nat} (K : MD l R p s m args c cX9_actAsSource 3 RX9 D cA tys A n0 s0 9 166 []) (hQ : CQZ p l e R s m args below meth c cX9_actAsSource D cA A n0 s0 QM σi Q) (hX : CX p l e R s m args below meth c 3 D cA A n0 s0 QM σi X) (hTh : CT p l e R s m args below meth c cX9_actAsSource 3 D cA A n0 s0 QM σi RX9 X) : ∀ (σ : Sg) (v1 : Option Nat) (v2 : Option Nat) (g1 : tyV σ 10 v1) (g2 : tyV σ 5 v2), w_X9_actAsSource_62 th Q X σ v1 v2 → RG σ → TY σ → Ext σi σ → kO σ th 9 → JJ p l e R s m args below meth c 3 D cA A n0 s0 QM σ 62 [(0, .ref th), (1, va_rf v1), (2, va_rf v2)] [] := by
  intro σ v1 v2 g1 g2 h hGσ hYσ hE hth H locs ls hH hl hc
  have B := K.1
  have hl9 := K.2.2.2.2.2.2
  unfold w_X9_actAsSource_62 at h
  refine lv_aload_n B.1 B.2.1 dX9_actAsSource_62 rfl (lv_at hl 0 rfl) ?_
  refine f_getp B hH hth (by decide) rfl wu_X9 9 (by decide) wf_X9_100 rfl rfl dX9_actAsSource_63 ?_
  obtain ⟨a39, ea39, h⟩ := h
  have ka39 : kO σ a39 4 := (hYσ.get hth (by decide)) a39 ea39
  have h := h ka39
  refine W.eq (g2 := F0 m 66 ls [.ref a39]) (by rw [ea39]; rfl) ?_
  refine f_getp B hH ka39 (by decide) rfl wu_X4 13 (by decide) wf_X9_366 rfl rfl dX9_actAsSource_66 ?_
  refine lv_aload_nQ B.1 B.2.1 dX9_actAsSource_69 rfl (lv_at hl 2 rfl) ?_
  obtain ⟨a40, ea40, h⟩ := h
  have ka40 : kO σ a40 5 := g2 a40 ea40
  have h := h ka40
  refine W.eq (g2 := F0 m 70 ls [.ref a40, va_rf (gP σ a39 13)]) (by rw [ea40]; rfl) ?_
  refine f_geti B hH ka40 (by decide) rfl wu_X5 9 (by decide) wf_X9_359 rfl rfl dX9_actAsSource_70 ?_
  obtain ⟨a41, ea41, h⟩ := h
  have ka41 : kO σ a41 103 := (hYσ.get ka39 (by decide)) a41 ea41
  have h := h ka41
  obtain ⟨q1, h⟩ := h
  refine W.eq (g2 := F0 m 73 ls [.int (i32 (gI σ a40 9)), .ref a41]) (by rw [ea41]; rfl) ?_
  refine y_zald B K.2.1 hH ka41 q1 dX9_actAsSource_73 (hYσ.2 _) ?_
  refine lv_if_eq (tgt := 106) B.1 B.2.1 dX9_actAsSource_74 (by decide) (fun h9 => ?_) (fun h9 => ?_)
  · rw [if_pos ((z_eq (hGσ _ _)).mp h9)] at h
    exact a_X9_actAsSource_106 K hQ hX hTh _ h hGσ hYσ hE hth _ _ _ hH (lv_sub (l' := [(0, .ref th)]) hl [0] rfl) hc
  · rw [if_neg (fun q => h9 ((z_eq (hGσ _ _)).mpr q))] at h
    exact a_X9_actAsSource_77 K hQ hX hTh _ _ g1 h hGσ hYσ hE hth _ _ _ hH (lv_sub (l' := [(0, .ref th), (1, va_rf v1)]) hl [0, 1] rfl) hc
set_option maxRecDepth 20000 in
theorem a_X9_actAsSource_54 {Q : Sg → Int → Prop} {X : Sg → String → Prop} {th : Nat} (K : MD l R p s m args c cX9_actAsSource 3 RX9 D cA tys A n0 s0 9 166 []) (hQ : CQZ p l e R s m args below meth c cX9_actAsSource D cA A n0 s0 QM σi Q) (hX : CX p l e R s m args below meth c 3 D cA A n0 s0 QM σi X) (hTh : CT p l e R s m args below meth c cX9_actAsSource 3 D cA A n0 s0 QM σi RX9 X) : ∀ (σ : Sg) (v1 : Option Nat) (v2 : Option Nat) (g1 : tyV σ 10 v1) (g2 : tyV σ 5 v2), w_X9_actAsSource_54 th Q X σ v1 v2 → RG σ → TY σ → Ext σi σ → kO σ th 9 → JJ p l e R s m args below meth c 3 D cA A n0 s0 QM σ 54 [(0, .ref th), (1, va_rf v1), (2, va_rf v2)] [] := by
  intro σ v1 v2 g1 g2 h hGσ hYσ hE hth H locs ls hH hl hc
  have B := K.1
  have hl9 := K.2.2.2.2.2.2
  unfold w_X9_actAsSource_54 at h
  refine lv_aload_n B.1 B.2.1 dX9_actAsSource_54 rfl (lv_at hl 0 rfl) ?_
  refine lv_aload_nQ B.1 B.2.1 dX9_actAsSource_55 rfl (lv_at hl 1 rfl) ?_
  refine lv_aload_nQ B.1 B.2.1 dX9_actAsSource_56 rfl (lv_at hl 2 rfl) ?_
  refine W.eq (g2 := F0 m 57 ls [va_rf v2, va_rf v1, .ref th]) (rfl) ?_
  refine c_V B hH hl hc K.2.2.1 (C := RX9) (T := TX9) (N := 20) (ci := 9) (As := [va_rf v1, va_rf v2]) (ok_X9_readRow hl9 K.2.1 σ th v1 v2 g1 g2 hth hGσ hYσ h) wc_X9_362 2 hd_X9_readRow ⟨Nat.le_trans (Nat.le_of_ble_eq_true rfl) K.2.2.2.1, Nat.le_trans (Nat.le_of_ble_eq_true rfl) K.2.2.2.2.1⟩ hth.1 hth.2 (by decide) rfl rfl (rest := []) rfl (Nat.le_of_ble_eq_true rfl) dX9_actAsSource_57 (fun σ42 w hq => ?_) (fun σ9 E9 hx9 => hX σ9 E9 _ _ _ (tb_out K.2.2.2.2.2.1 rfl) hx9.1 hx9.2.1 hx9.2.2.1 (hE.trans hx9.2.2.2))
  obtain ⟨rfl, h, hGσ42, hYσ42, xσ42⟩ := hq
  have h := h xσ42
  intro H locs ls hH hl hc
  refine W.eq (g2 := F0 m 60 ls []) (rfl) ?_
  try dsimp only at h
  refine lv_iconst (v := i32 1) B.1 B.2.1 dX9_actAsSource_60 (by decide) ?_
  exact hQ _ _ _ _ _ _ (by unfold rng; omega) (Or.inr rfl) dX9_actAsSource_61 hH hc h hGσ42 hYσ42 (hE.trans xσ42)
set_option maxRecDepth 20000 in
theorem a_X9_actAsSource_35 {Q : Sg → Int → Prop} {X : Sg → String → Prop} {th : Nat} (K : MD l R p s m args c cX9_actAsSource 3 RX9 D cA tys A n0 s0 9 166 []) (hQ : CQZ p l e R s m args below meth c cX9_actAsSource D cA A n0 s0 QM σi Q) (hX : CX p l e R s m args below meth c 3 D cA A n0 s0 QM σi X) (hTh : CT p l e R s m args below meth c cX9_actAsSource 3 D cA A n0 s0 QM σi RX9 X) : ∀ (σ : Sg) (v1 : Option Nat) (v2 : Option Nat) (g1 : tyV σ 10 v1) (g2 : tyV σ 5 v2), w_X9_actAsSource_35 th Q X σ v1 v2 → RG σ → TY σ → Ext σi σ → kO σ th 9 → JJ p l e R s m args below meth c 3 D cA A n0 s0 QM σ 35 [(0, .ref th), (1, va_rf v1), (2, va_rf v2)] [] := by
  intro σ v1 v2 g1 g2 h hGσ hYσ hE hth H locs ls hH hl hc
  have B := K.1
  have hl9 := K.2.2.2.2.2.2
  unfold w_X9_actAsSource_35 at h
  refine lv_aload_nQ B.1 B.2.1 dX9_actAsSource_35 rfl (lv_at hl 1 rfl) ?_
  obtain ⟨a43, ea43, h⟩ := h
  have ka43 : kO σ a43 10 := g1 a43 ea43
  have h := h ka43
  refine W.eq (g2 := F0 m 36 ls [.ref a43]) (by rw [ea43]; rfl) ?_
  refine f_geti B hH ka43 (by decide) rfl wu_X10 6 (by decide) wf_X9_227 rfl rfl dX9_actAsSource_36 ?_
  refine lv_aload_n B.1 B.2.1 dX9_actAsSource_39 rfl (lv_at hl 0 rfl) ?_
  refine f_getp B hH hth (by decide) rfl wu_X9 9 (by decide) wf_X9_100 rfl rfl dX9_actAsSource_40 ?_
  obtain ⟨a44, ea44, h⟩ := h
  have ka44 : kO σ a44 4 := (hYσ.get hth (by decide)) a44 ea44
  have h := h ka44
  refine W.eq (g2 := F0 m 43 ls [.ref a44, .int (i32 (gI σ a43 6))]) (by rw [ea44]; rfl) ?_
  refine f_getp B hH ka44 (by decide) rfl wu_X4 12 (by decide) wf_X9_356 rfl rfl dX9_actAsSource_43 ?_
  refine lv_aload_nQ B.1 B.2.1 dX9_actAsSource_46 rfl (lv_at hl 2 rfl) ?_
  obtain ⟨a45, ea45, h⟩ := h
  have ka45 : kO σ a45 5 := g2 a45 ea45
  have h := h ka45
  refine W.eq (g2 := F0 m 47 ls [.ref a45, va_rf (gP σ a44 12), .int (i32 (gI σ a43 6))]) (by rw [ea45]; rfl) ?_
  refine f_geti B hH ka45 (by decide) rfl wu_X5 9 (by decide) wf_X9_359 rfl rfl dX9_actAsSource_47 ?_
  obtain ⟨a46, ea46, h⟩ := h
  have ka46 : kO σ a46 100 := (hYσ.get ka44 (by decide)) a46 ea46
  have h := h ka46
  obtain ⟨q1, h⟩ := h
  refine W.eq (g2 := F0 m 50 ls [.int (i32 (gI σ a45 9)), .ref a46, .int (i32 (gI σ a43 6))]) (by rw [ea46]; rfl) ?_
  refine y_iald B K.2.1 hH ka46 q1 dX9_actAsSource_50 (hYσ.2 _) ?_
  refine lv_icmp_ge (tgt := 62) B.1 B.2.1 dX9_actAsSource_51 (by decide) (fun h9 => ?_) (fun h9 => ?_)
  · rw [if_pos ((i32_le (hGσ _ _) (hGσ _ _)).mp h9)] at h
    exact a_X9_actAsSource_62 K hQ hX hTh _ _ _ g1 g2 h hGσ hYσ hE hth _ _ _ hH (lv_sub (l' := [(0, .ref th), (1, va_rf v1), (2, va_rf v2)]) hl [0, 1, 2] rfl) hc
  · rw [if_neg (fun q => h9 ((i32_le (hGσ _ _) (hGσ _ _)).mpr q))] at h
    exact a_X9_actAsSource_54 K hQ hX hTh _ _ _ g1 g2 h hGσ hYσ hE hth _ _ _ hH (lv_sub (l' := [(0, .ref th), (1, va_rf v1), (2, va_rf v2)]) hl [0, 1, 2] rfl) hc
set_option maxRecDepth 20000 in
theorem a_X9_actAsSource_33 {Q : Sg → Int → Prop} {X : Sg → String → Prop} {th : Nat} (K : MD l R p s m args c cX9_actAsSource 3 RX9 D cA tys A n0 s0 9 166 []) (hQ : CQZ p l e R s m args below meth c cX9_actAsSource D cA A n0 s0 QM σi Q) (hX : CX p l e R s m args below meth c 3 D cA A n0 s0 QM σi X) (hTh : CT p l e R s m args below meth c cX9_actAsSource 3 D cA A n0 s0 QM σi RX9 X) : ∀ (σ : Sg), w_X9_actAsSource_33 th Q X σ → RG σ → TY σ → Ext σi σ → kO σ th 9 → JJ p l e R s m args below meth c 3 D cA A n0 s0 QM σ 33 [(0, .ref th)] [] := by
  intro σ h hGσ hYσ hE hth H locs ls hH hl hc
  have B := K.1
  have hl9 := K.2.2.2.2.2.2
  unfold w_X9_actAsSource_33 at h
  refine lv_iconst (v := i32 1) B.1 B.2.1 dX9_actAsSource_33 (by decide) ?_
  exact hQ _ _ _ _ _ _ (by unfold rng; omega) (Or.inr rfl) dX9_actAsSource_34 hH hc h hGσ hYσ hE
set_option maxRecDepth 20000 in
theorem a_X9_actAsSource_26 {Q : Sg → Int → Prop} {X : Sg → String → Prop} {th : Nat} (K : MD l R p s m args c cX9_actAsSource 3 RX9 D cA tys A n0 s0 9 166 []) (hQ : CQZ p l e R s m args below meth c cX9_actAsSource D cA A n0 s0 QM σi Q) (hX : CX p l e R s m args below meth c 3 D cA A n0 s0 QM σi X) (hTh : CT p l e R s m args below meth c cX9_actAsSource 3 D cA A n0 s0 QM σi RX9 X) : ∀ (σ : Sg) (v1 : Option Nat) (g1 : tyV σ 10 v1), w_X9_actAsSource_26 th Q X σ v1 → RG σ → TY σ → Ext σi σ → kO σ th 9 → JJ p l e R s m args below meth c 3 D cA A n0 s0 QM σ 26 [(0, .ref th), (1, va_rf v1)] [] := by
  intro σ v1 g1 h hGσ hYσ hE hth H locs ls hH hl hc
  have B := K.1
  have hl9 := K.2.2.2.2.2.2
  unfold w_X9_actAsSource_26 at h
  refine lv_aload_n B.1 B.2.1 dX9_actAsSource_26 rfl (lv_at hl 0 rfl) ?_
  refine lv_aload_nQ B.1 B.2.1 dX9_actAsSource_27 rfl (lv_at hl 1 rfl) ?_
  refine lv_iconst (v := i32 2) B.1 B.2.1 dX9_actAsSource_28 (by decide) ?_
  refine lv_lconst (v := 0) B.1 B.2.1 dX9_actAsSource_29 (by decide) ?_
  refine W.eq (g2 := F0 m 30 ls [.long 0, .int (i32 2), va_rf v1, .ref th]) (rfl) ?_
  refine c_V B hH hl hc K.2.2.1 (C := RX9) (T := TX9) (N := 20) (ci := 9) (As := [va_rf v1, .int (i32 2), .long 0]) (ok_X9_sendToAll hl9 K.2.1 σ th v1 2 0 g1 (by unfold rng; omega) hth hGσ hYσ h) wc_X9_134 3 hd_X9_sendToAll ⟨Nat.le_trans (Nat.le_of_ble_eq_true rfl) K.2.2.2.1, Nat.le_trans (Nat.le_of_ble_eq_true rfl) K.2.2.2.2.1⟩ hth.1 hth.2 (by decide) rfl rfl (rest := []) rfl (Nat.le_of_ble_eq_true rfl) dX9_actAsSource_30 (fun σ47 w hq => ?_) (fun σ9 E9 hx9 => hX σ9 E9 _ _ _ (tb_out K.2.2.2.2.2.1 rfl) hx9.1 hx9.2.1 hx9.2.2.1 (hE.trans hx9.2.2.2))
  obtain ⟨rfl, h, hGσ47, hYσ47, xσ47⟩ := hq
  have h := h xσ47
  intro H locs ls hH hl hc
  refine W.eq (g2 := F0 m 33 ls []) (rfl) ?_
  try dsimp only at h
  exact a_X9_actAsSource_33 K hQ hX hTh _ h hGσ47 hYσ47 (hE.trans xσ47) (hth.up xσ47) _ _ _ hH (lv_sub (l' := [(0, .ref th)]) hl [0] rfl) hc
set_option maxRecDepth 20000 in
theorem a_X9_actAsSource_17 {Q : Sg → Int → Prop} {X : Sg → String → Prop} {th : Nat} (K : MD l R p s m args c cX9_actAsSource 3 RX9 D cA tys A n0 s0 9 166 []) (hQ : CQZ p l e R s m args below meth c cX9_actAsSource D cA A n0 s0 QM σi Q) (hX : CX p l e R s m args below meth c 3 D cA A n0 s0 QM σi X) (hTh : CT p l e R s m args below meth c cX9_actAsSource 3 D cA A n0 s0 QM σi RX9 X) : ∀ (σ : Sg) (v1 : Option Nat) (v2 : Option Nat) (g1 : tyV σ 10 v1) (g2 : tyV σ 5 v2), w_X9_actAsSource_17 th Q X σ v1 v2 → RG σ → TY σ → Ext σi σ → kO σ th 9 → JJ p l e R s m args below meth c 3 D cA A n0 s0 QM σ 17 [(0, .ref th), (1, va_rf v1), (2, va_rf v2)] [] := by
  intro σ v1 v2 g1 g2 h hGσ hYσ hE hth H locs ls hH hl hc
  have B := K.1
  have hl9 := K.2.2.2.2.2.2
  unfold w_X9_actAsSource_17 at h
  refine lv_aload_n B.1 B.2.1 dX9_actAsSource_17 rfl (lv_at hl 0 rfl) ?_
  refine lv_aload_nQ B.1 B.2.1 dX9_actAsSource_18 rfl (lv_at hl 1 rfl) ?_
  refine lv_aload_nQ B.1 B.2.1 dX9_actAsSource_19 rfl (lv_at hl 2 rfl) ?_
  refine W.eq (g2 := F0 m 20 ls [va_rf v2, va_rf v1, .ref th]) (rfl) ?_
  refine c_V B hH hl hc K.2.2.1 (C := RX9) (T := TX9) (N := 20) (ci := 9) (As := [va_rf v1, va_rf v2]) (ok_X9_takePart hl9 K.2.1 σ th v1 v2 g1 g2 hth hGσ hYσ h) wc_X9_304 2 hd_X9_takePart ⟨Nat.le_trans (Nat.le_of_ble_eq_true rfl) K.2.2.2.1, Nat.le_trans (Nat.le_of_ble_eq_true rfl) K.2.2.2.2.1⟩ hth.1 hth.2 (by decide) rfl rfl (rest := []) rfl (Nat.le_of_ble_eq_true rfl) dX9_actAsSource_20 (fun σ48 w hq => ?_) (fun σ9 E9 hx9 => hX σ9 E9 _ _ _ (tb_out K.2.2.2.2.2.1 rfl) hx9.1 hx9.2.1 hx9.2.2.1 (hE.trans hx9.2.2.2))
  obtain ⟨r49, rfl, ⟨gr49, gzr49⟩, h, hGσ48, hYσ48, xσ48⟩ := hq
  have h := h xσ48
  intro H locs ls hH hl hc
  refine W.eq (g2 := F0 m 23 ls [.int (i32 r49)]) (rfl) ?_
  try dsimp only at h
  refine lv_if_eq (tgt := 33) B.1 B.2.1 dX9_actAsSource_23 (by decide) (fun h9 => ?_) (fun h9 => ?_)
  · rw [if_pos ((z_eq gr49).mp h9)] at h
    exact a_X9_actAsSource_33 K hQ hX hTh _ h hGσ48 hYσ48 (hE.trans xσ48) (hth.up xσ48) _ _ _ hH (lv_sub (l' := [(0, .ref th)]) hl [0] rfl) hc
  · rw [if_neg (fun q => h9 ((z_eq gr49).mpr q))] at h
    exact a_X9_actAsSource_26 K hQ hX hTh _ _ (g1.up xσ48) h hGσ48 hYσ48 (hE.trans xσ48) (hth.up xσ48) _ _ _ hH (lv_sub (l' := [(0, .ref th), (1, va_rf v1)]) hl [0, 1] rfl) hc
set_option maxRecDepth 20000 in
theorem a_X9_actAsSource_10 {Q : Sg → Int → Prop} {X : Sg → String → Prop} {th : Nat} (K : MD l R p s m args c cX9_actAsSource 3 RX9 D cA tys A n0 s0 9 166 []) (hQ : CQZ p l e R s m args below meth c cX9_actAsSource D cA A n0 s0 QM σi Q) (hX : CX p l e R s m args below meth c 3 D cA A n0 s0 QM σi X) (hTh : CT p l e R s m args below meth c cX9_actAsSource 3 D cA A n0 s0 QM σi RX9 X) : ∀ (σ : Sg) (v1 : Option Nat) (v2 : Option Nat) (g1 : tyV σ 10 v1) (g2 : tyV σ 5 v2), w_X9_actAsSource_10 th Q X σ v1 v2 → RG σ → TY σ → Ext σi σ → kO σ th 9 → JJ p l e R s m args below meth c 3 D cA A n0 s0 QM σ 10 [(0, .ref th), (1, va_rf v1), (2, va_rf v2)] [] := by
  intro σ v1 v2 g1 g2 h hGσ hYσ hE hth H locs ls hH hl hc
  have B := K.1
  have hl9 := K.2.2.2.2.2.2
  unfold w_X9_actAsSource_10 at h
  refine lv_aload_nQ B.1 B.2.1 dX9_actAsSource_10 rfl (lv_at hl 1 rfl) ?_
  obtain ⟨a50, ea50, h⟩ := h
  have ka50 : kO σ a50 10 := g1 a50 ea50
  have h := h ka50
  refine W.eq (g2 := F0 m 11 ls [.ref a50]) (by rw [ea50]; rfl) ?_
  refine f_geti B hH ka50 (by decide) rfl wu_X10 10 (by decide) wf_X9_353 rfl rfl dX9_actAsSource_11 ?_
  refine lv_if_ne (tgt := 35) B.1 B.2.1 dX9_actAsSource_14 (by decide) (fun h9 => ?_) (fun h9 => ?_)
  · rw [if_pos (fun q => h9 ((z_eq (hGσ _ _)).mpr q))] at h
    exact a_X9_actAsSource_35 K hQ hX hTh _ _ _ g1 g2 h hGσ hYσ hE hth _ _ _ hH (lv_sub (l' := [(0, .ref th), (1, va_rf v1), (2, va_rf v2)]) hl [0, 1, 2] rfl) hc
  · rw [if_neg (fun q => q ((z_eq (hGσ _ _)).mp h9))] at h
    exact a_X9_actAsSource_17 K hQ hX hTh _ _ _ g1 g2 h hGσ hYσ hE hth _ _ _ hH (lv_sub (l' := [(0, .ref th), (1, va_rf v1), (2, va_rf v2)]) hl [0, 1, 2] rfl) hc
set_option maxRecDepth 20000 in
theorem a_X9_actAsSource_0 {Q : Sg → Int → Prop} {X : Sg → String → Prop} {th : Nat} (K : MD l R p s m args c cX9_actAsSource 3 RX9 D cA tys A n0 s0 9 166 []) (hQ : CQZ p l e R s m args below meth c cX9_actAsSource D cA A n0 s0 QM σi Q) (hX : CX p l e R s m args below meth c 3 D cA A n0 s0 QM σi X) (hTh : CT p l e R s m args below meth c cX9_actAsSource 3 D cA A n0 s0 QM σi RX9 X) : ∀ (σ : Sg) (v1 : Option Nat) (v2 : Option Nat) (g1 : tyV σ 10 v1) (g2 : tyV σ 5 v2), w_X9_actAsSource_0 th Q X σ v1 v2 → RG σ → TY σ → Ext σi σ → kO σ th 9 → JJ p l e R s m args below meth c 3 D cA A n0 s0 QM σ 0 [(0, .ref th), (1, va_rf v1), (2, va_rf v2)] [] := by
  intro σ v1 v2 g1 g2 h hGσ hYσ hE hth H locs ls hH hl hc
  have B := K.1
  have hl9 := K.2.2.2.2.2.2
  unfold w_X9_actAsSource_0 at h
  refine lv_aload_n B.1 B.2.1 dX9_actAsSource_0 rfl (lv_at hl 0 rfl) ?_
  refine f_getp B hH hth (by decide) rfl wu_X9 2 (by decide) wf_X9_12 rfl rfl dX9_actAsSource_1 ?_
  obtain ⟨a51, ea51, h⟩ := h
  have ka51 : kO σ a51 3 := (hYσ.get hth (by decide)) a51 ea51
  have h := h ka51
  refine W.eq (g2 := F0 m 4 ls [.ref a51]) (by rw [ea51]; rfl) ?_
  refine f_geti B hH ka51 (by decide) rfl wu_X3 3 (by decide) wf_X9_350 rfl rfl dX9_actAsSource_4 ?_
  refine lv_if_eq (tgt := 35) B.1 B.2.1 dX9_actAsSource_7 (by decide) (fun h9 => ?_) (fun h9 => ?_)
  · rw [if_pos ((z_eq (hGσ _ _)).mp h9)] at h
    exact a_X9_actAsSource_35 K hQ hX hTh _ _ _ g1 g2 h hGσ hYσ hE hth _ _ _ hH (lv_sub (l' := [(0, .ref th), (1, va_rf v1), (2, va_rf v2)]) hl [0, 1, 2] rfl) hc
  · rw [if_neg (fun q => h9 ((z_eq (hGσ _ _)).mpr q))] at h
    exact a_X9_actAsSource_10 K hQ hX hTh _ _ _ g1 g2 h hGσ hYσ hE hth _ _ _ hH (lv_sub (l' := [(0, .ref th), (1, va_rf v1), (2, va_rf v2)]) hl [0, 1, 2] rfl) hc
theorem ok_X9_actAsSource (hl0 : l.stackTraces = false) (hT : TyC cA tys) {Q : Sg → Int → Prop} {X : Sg → String → Prop} (σ : Sg) (th : Nat) (v1 : Option Nat) (v2 : Option Nat) (g1 : tyV σ 10 v1) (g2 : tyV σ 5 v2) (hth : kO σ th 9) (hG : RG σ) (hY : TY σ) (h : wp_X9_actAsSource th v1 v2 σ Q X) : Ok l D cA tys A yX9_actAsSource (.code yX9_actAsSource cX9_actAsSource 3 (some .boolean)) 9 166 [.ref th, va_rf v1, va_rf v2] σ (QcZ σ Q) (QxC σ X) := by
  unfold wp_X9_actAsSource at h
  exact oc_Z hl0 (by decide) (by cases v1 <;> cases v2 <;> exact Nat.le_of_ble_eq_true rfl) hT (fun p e R s m args below meth c K hQ hX hTh H locs ls hH hl hc => a_X9_actAsSource_0 K hQ hX hTh σ v1 v2 g1 g2 h hG hY (Ext.rfl' σ) hth H locs ls hH (lv_sub (l' := [(0, .ref th), (1, va_rf v1), (2, va_rf v2)]) hl [0, 1, 2] (by cases v1 <;> cases v2 <;> rfl)) hc)
theorem dX9_hasGrown_0 : decode cX9_hasGrown 0 = .ok (.ldc2_w 370, 3) := by decide +kernel
theorem dX9_hasGrown_3 : decode cX9_hasGrown 3 = .ok (.lstore_n 2, 1) := by decide +kernel
theorem dX9_hasGrown_4 : decode cX9_hasGrown 4 = .ok (.iconst 0, 1) := by decide +kernel
theorem dX9_hasGrown_5 : decode cX9_hasGrown 5 = .ok (.istore 4, 2) := by decide +kernel
theorem dX9_hasGrown_7 : decode cX9_hasGrown 7 = .ok (.iload 4, 2) := by decide +kernel
theorem dX9_hasGrown_9 : decode cX9_hasGrown 9 = .ok (.aload_n 1, 1) := by decide +kernel
theorem dX9_hasGrown_10 : decode cX9_hasGrown 10 = .ok (.getfield 194, 3) := by decide +kernel
theorem dX9_hasGrown_13 : decode cX9_hasGrown 13 = .ok (.if_icmp .ge 29, 3) := by decide +kernel
theorem dX9_hasGrown_16 : decode cX9_hasGrown 16 = .ok (.lload_n 2, 1) := by decide +kernel
theorem dX9_hasGrown_17 : decode cX9_hasGrown 17 = .ok (.aload_n 0, 1) := by decide +kernel
theorem dX9_hasGrown_18 : decode cX9_hasGrown 18 = .ok (.getfield 26, 3) := by decide +kernel
theorem dX9_hasGrown_21 : decode cX9_hasGrown 21 = .ok (.aload_n 1, 1) := by decide +kernel
theorem dX9_hasGrown_22 : decode cX9_hasGrown 22 = .ok (.getfield 178, 3) := by decide +kernel
theorem dX9_hasGrown_25 : decode cX9_hasGrown 25 = .ok (.iload 4, 2) := by decide +kernel
theorem dX9_hasGrown_27 : decode cX9_hasGrown 27 = .ok (.iadd, 1) := by decide +kernel
theorem dX9_hasGrown_28 : decode cX9_hasGrown 28 = .ok (.aaload, 1) := by decide +kernel
theorem dX9_hasGrown_29 : decode cX9_hasGrown 29 = .ok (.getfield 314, 3) := by decide +kernel
theorem dX9_hasGrown_32 : decode cX9_hasGrown 32 = .ok (.invokestatic 398, 3) := by decide +kernel
theorem dX9_hasGrown_35 : decode cX9_hasGrown 35 = .ok (.lstore_n 2, 1) := by decide +kernel
theorem dX9_hasGrown_36 : decode cX9_hasGrown 36 = .ok (.iinc 4 1, 3) := by decide +kernel
theorem dX9_hasGrown_39 : decode cX9_hasGrown 39 = .ok (.goto (-32), 3) := by decide +kernel
theorem dX9_hasGrown_42 : decode cX9_hasGrown 42 = .ok (.lload_n 2, 1) := by decide +kernel
theorem dX9_hasGrown_43 : decode cX9_hasGrown 43 = .ok (.aload_n 1, 1) := by decide +kernel
theorem dX9_hasGrown_44 : decode cX9_hasGrown 44 = .ok (.getfield 127, 3) := by decide +kernel
theorem dX9_hasGrown_47 : decode cX9_hasGrown 47 = .ok (.lcmp, 1) := by decide +kernel
theorem dX9_hasGrown_48 : decode cX9_hasGrown 48 = .ok (.ifCond .le 7, 3) := by decide +kernel
theorem dX9_hasGrown_51 : decode cX9_hasGrown 51 = .ok (.iconst 1, 1) := by decide +kernel
theorem dX9_hasGrown_52 : decode cX9_hasGrown 52 = .ok (.goto 4, 3) := by decide +kernel
theorem dX9_hasGrown_55 : decode cX9_hasGrown 55 = .ok (.iconst 0, 1) := by decide +kernel
theorem dX9_hasGrown_56 : decode cX9_hasGrown 56 = .ok (.istore 4, 2) := by decide +kernel
theorem dX9_hasGrown_58 : decode cX9_hasGrown 58 = .ok (.aload_n 1, 1) := by decide +kernel
theorem dX9_hasGrown_59 : decode cX9_hasGrown 59 = .ok (.lload_n 2, 1) := by decide +kernel
theorem dX9_hasGrown_60 : decode cX9_hasGrown 60 = .ok (.aload_n 1, 1) := by decide +kernel
theorem dX9_hasGrown_61 : decode cX9_hasGrown 61 = .ok (.getfield 127, 3) := by decide +kernel
theorem dX9_hasGrown_64 : decode cX9_hasGrown 64 = .ok (.invokestatic 404, 3) := by decide +kernel
theorem dX9_hasGrown_67 : decode cX9_hasGrown 67 = .ok (.putfield 127, 3) := by decide +kernel
theorem dX9_hasGrown_70 : decode cX9_hasGrown 70 = .ok (.iload 4, 2) := by decide +kernel
theorem dX9_hasGrown_72 : decode cX9_hasGrown 72 = .ok (.ireturn, 1) := by decide +kernel
set_option maxRecDepth 20000 in
theorem a_X9_hasGrown_56 {Q : Sg → Int → Prop} {X : Sg → String → Prop} {th : Nat} (K : MD l R p s m args c cX9_hasGrown 5 RX9 D cA tys A n0 s0 1 23 []) (hQ : CQZ p l e R s m args below meth c cX9_hasGrown D cA A n0 s0 QM σi Q) (hX : CX p l e R s m args below meth c 5 D cA A n0 s0 QM σi X) (hTh : CT p l e R s m args below meth c cX9_hasGrown 5 D cA A n0 s0 QM σi RX9 X) : ∀ (σ : Sg) (v1 : Option Nat) (v2 : Int64) (u0 : Int) (g1 : tyV σ 10 v1) (gu0 : rng u0), w_X9_hasGrown_56 th Q X σ v1 v2 u0 → RG σ → TY σ → Ext σi σ → kO σ th 9 → JJ p l e R s m args below meth c 5 D cA A n0 s0 QM σ 56 [(0, .ref th), (1, va_rf v1), (2, .long v2)] [.int (i32 u0)] := by
  intro σ v1 v2 u0 g1 gu0 h hGσ hYσ hE hth H locs ls hH hl hc
  have B := K.1
  have hl9 := K.2.2.2.2.2.2
  unfold w_X9_hasGrown_56 at h
  refine lv_istore (lv' := [(4, .int (i32 u0)), (0, .ref th), (1, va_rf v1), (2, .long v2)]) B.1 B.2.1 dX9_hasGrown_56 hl (by decide) rfl (fun ls hl => ?_)
  refine lv_aload_nQ B.1 B.2.1 dX9_hasGrown_58 rfl (lv_at hl 2 rfl) ?_
  refine lv_lload_n B.1 B.2.1 dX9_hasGrown_59 rfl (lv_at hl 3 rfl) ?_
  refine lv_aload_nQ B.1 B.2.1 dX9_hasGrown_60 rfl (lv_at hl 2 rfl) ?_
  obtain ⟨a23, ea23, h⟩ := h
  have ka23 : kO σ a23 10 := g1 a23 ea23
  have h := h ka23
  refine W.eq (g2 := F0 m 61 ls [.ref a23, .long v2, va_rf v1]) (by rw [ea23]; rfl) ?_
  refine f_getl B hH ka23 (by decide) rfl wu_X10 7 (by decide) wf_X9_127 rfl rfl dX9_hasGrown_61 ?_
  refine c_S B hH hl hc K.2.2.1 (As := [.long v2, .long (gJ σ a23 7)]) (okC_J9_max_f86c9 hl9 K.2.1 σ v2 (gJ σ a23 7) hGσ hYσ h) wc_X9_404 2 hdC_J9_max_f86c9 ⟨Nat.le_trans (Nat.le_of_ble_eq_true rfl) K.2.2.2.1, Nat.le_trans (Nat.le_of_ble_eq_true rfl) K.2.2.2.2.1⟩ rfl (rest := [va_rf v1]) rfl (by simp only [List.map_cons, List.map_nil, rf_cat]; exact Nat.le_of_ble_eq_true rfl) dX9_hasGrown_64 (fun σ24 w hq => ?_) (fun σ9 E9 hx9 => hX σ9 E9 _ _ _ (tb_out K.2.2.2.2.2.1 rfl) hx9.1 hx9.2.1 hx9.2.2.1 (hE.trans hx9.2.2.2))
  obtain ⟨r25, rfl, h, hGσ24, hYσ24, xσ24⟩ := hq
  have h := h xσ24
  intro H locs ls hH hl hc
  refine W.eq (g2 := F0 m 67 ls [.long r25, va_rf v1]) (rfl) ?_
  try dsimp only at h
  obtain ⟨σ26, eσ26⟩ : ∃ z, z = pJ σ24 a23 7 r25 := ⟨_, rfl⟩
  have h := h σ26 eσ26
  refine W.eq (g2 := F0 m 67 ls [.long r25, .ref a23]) (by rw [ea23]; rfl) ?_
  refine f_putl B hH (ka23.up xσ24) (by decide) rfl wu_X10 tyX10 tyX10_ok nmX10 7 (by decide) wf_X9_127 rfl (ty := .long) rfl rfl rfl rfl rfl dX9_hasGrown_67 (fun H locs hH => ?_)
  have hH : Hd D cA A s (pJ σ24 a23 7 r25) H locs := hH
  rw [← eσ26] at hH
  have hGσ26 : RG σ26 := by rw [eσ26]; exact hGσ24.pJ
  have hYσ26 : TY σ26 := by rw [eσ26]; exact hYσ24.pJ
  have xσ26 : Ext σ24 σ26 := by rw [eσ26]; exact Ext.pJ
  have hc : CB n0 s0 σ26 := by rw [eσ26]; exact hc
  rw [show gc σ24 = gc σ26 by rw [eσ26]; try rfl, show gs σ24 = gs σ26 by rw [eσ26]; try rfl]
  refine lv_iload B.1 B.2.1 dX9_hasGrown_70 (lv_at hl 0 rfl) ?_
  obtain ⟨qz, h⟩ := h
  exact hQ _ _ _ _ _ _ gu0 qz dX9_hasGrown_72 hH hc h hGσ26 hYσ26 ((hE.trans xσ24).trans xσ26)
set_option maxRecDepth 20000 in
theorem a_X9_hasGrown_55 {Q : Sg → Int → Prop} {X : Sg → String → Prop} {th : Nat} (K : MD l R p s m args c cX9_hasGrown 5 RX9 D cA tys A n0 s0 1 23 []) (hQ : CQZ p l e R s m args below meth c cX9_hasGrown D cA A n0 s0 QM σi Q) (hX : CX p l e R s m args below meth c 5 D cA A n0 s0 QM σi X) (hTh : CT p l e R s m args below meth c cX9_hasGrown 5 D cA A n0 s0 QM σi RX9 X) : ∀ (σ : Sg) (v1 : Option Nat) (v2 : Int64) (g1 : tyV σ 10 v1), w_X9_hasGrown_55 th Q X σ v1 v2 → RG σ → TY σ → Ext σi σ → kO σ th 9 → JJ p l e R s m args below meth c 5 D cA A n0 s0 QM σ 55 [(0, .ref th), (1, va_rf v1), (2, .long v2)] [] := by
  intro σ v1 v2 g1 h hGσ hYσ hE hth H locs ls hH hl hc
  have B := K.1
  have hl9 := K.2.2.2.2.2.2
  unfold w_X9_hasGrown_55 at h
  refine lv_iconst (v := i32 0) B.1 B.2.1 dX9_hasGrown_55 (by decide) ?_
  exact a_X9_hasGrown_56 K hQ hX hTh _ _ _ _ g1 (by unfold rng; omega) h hGσ hYσ hE hth _ _ _ hH (lv_sub (l' := [(0, .ref th), (1, va_rf v1), (2, .long v2)]) hl [0, 1, 2] rfl) hc
set_option maxRecDepth 20000 in
theorem a_X9_hasGrown_51 {Q : Sg → Int → Prop} {X : Sg → String → Prop} {th : Nat} (K : MD l R p s m args c cX9_hasGrown 5 RX9 D cA tys A n0 s0 1 23 []) (hQ : CQZ p l e R s m args below meth c cX9_hasGrown D cA A n0 s0 QM σi Q) (hX : CX p l e R s m args below meth c 5 D cA A n0 s0 QM σi X) (hTh : CT p l e R s m args below meth c cX9_hasGrown 5 D cA A n0 s0 QM σi RX9 X) : ∀ (σ : Sg) (v1 : Option Nat) (v2 : Int64) (g1 : tyV σ 10 v1), w_X9_hasGrown_51 th Q X σ v1 v2 → RG σ → TY σ → Ext σi σ → kO σ th 9 → JJ p l e R s m args below meth c 5 D cA A n0 s0 QM σ 51 [(0, .ref th), (1, va_rf v1), (2, .long v2)] [] := by
  intro σ v1 v2 g1 h hGσ hYσ hE hth H locs ls hH hl hc
  have B := K.1
  have hl9 := K.2.2.2.2.2.2
  unfold w_X9_hasGrown_51 at h
  refine lv_iconst (v := i32 1) B.1 B.2.1 dX9_hasGrown_51 (by decide) ?_
  refine lv_goto (tgt := 56) B.1 B.2.1 dX9_hasGrown_52 (by decide) ?_
  exact a_X9_hasGrown_56 K hQ hX hTh _ _ _ _ g1 (by unfold rng; omega) h hGσ hYσ hE hth _ _ _ hH (lv_sub (l' := [(0, .ref th), (1, va_rf v1), (2, .long v2)]) hl [0, 1, 2] rfl) hc
set_option maxRecDepth 20000 in
theorem a_X9_hasGrown_42 {Q : Sg → Int → Prop} {X : Sg → String → Prop} {th : Nat} (K : MD l R p s m args c cX9_hasGrown 5 RX9 D cA tys A n0 s0 1 23 []) (hQ : CQZ p l e R s m args below meth c cX9_hasGrown D cA A n0 s0 QM σi Q) (hX : CX p l e R s m args below meth c 5 D cA A n0 s0 QM σi X) (hTh : CT p l e R s m args below meth c cX9_hasGrown 5 D cA A n0 s0 QM σi RX9 X) : ∀ (σ : Sg) (v1 : Option Nat) (v2 : Int64) (g1 : tyV σ 10 v1), w_X9_hasGrown_42 th Q X σ v1 v2 → RG σ → TY σ → Ext σi σ → kO σ th 9 → JJ p l e R s m args below meth c 5 D cA A n0 s0 QM σ 42 [(0, .ref th), (1, va_rf v1), (2, .long v2)] [] := by
  intro σ v1 v2 g1 h hGσ hYσ hE hth H locs ls hH hl hc
  have B := K.1
  have hl9 := K.2.2.2.2.2.2
  unfold w_X9_hasGrown_42 at h
  refine lv_lload_n B.1 B.2.1 dX9_hasGrown_42 rfl (lv_at hl 2 rfl) ?_
  refine lv_aload_nQ B.1 B.2.1 dX9_hasGrown_43 rfl (lv_at hl 1 rfl) ?_
  obtain ⟨a27, ea27, h⟩ := h
  have ka27 : kO σ a27 10 := g1 a27 ea27
  have h := h ka27
  refine W.eq (g2 := F0 m 44 ls [.ref a27, .long v2]) (by rw [ea27]; rfl) ?_
  refine f_getl B hH ka27 (by decide) rfl wu_X10 7 (by decide) wf_X9_127 rfl rfl dX9_hasGrown_44 ?_
  refine W.lcmp B.1 B.2.1 dX9_hasGrown_47 ?_
  refine lv_if_le (tgt := 55) B.1 B.2.1 dX9_hasGrown_48 (by decide) (fun h9 => ?_) (fun h9 => ?_)
  · rw [if_pos ((lg_cmp_le _ _).mp h9)] at h
    exact a_X9_hasGrown_55 K hQ hX hTh _ _ _ g1 h hGσ hYσ hE hth _ _ _ hH (lv_sub (l' := [(0, .ref th), (1, va_rf v1), (2, .long v2)]) hl [0, 1, 2] rfl) hc
  · rw [if_neg (fun q => h9 ((lg_cmp_le _ _).mpr q))] at h
    exact a_X9_hasGrown_51 K hQ hX hTh _ _ _ g1 h hGσ hYσ hE hth _ _ _ hH (lv_sub (l' := [(0, .ref th), (1, va_rf v1), (2, .long v2)]) hl [0, 1, 2] rfl) hc
set_option maxRecDepth 20000 in
theorem a_X9_hasGrown_16 {Q : Sg → Int → Prop} {X : Sg → String → Prop} {th : Nat} (K : MD l R p s m args c cX9_hasGrown 5 RX9 D cA tys A n0 s0 1 23 []) (hQ : CQZ p l e R s m args below meth c cX9_hasGrown D cA A n0 s0 QM σi Q) (hX : CX p l e R s m args below meth c 5 D cA A n0 s0 QM σi X) (hTh : CT p l e R s m args below meth c cX9_hasGrown 5 D cA A n0 s0 QM σi RX9 X) {K7 : Sg → Option Nat → Int64 → Int → Prop} (hK7 : ∀ (σ : Sg) (v1 : Option Nat) (v2 : Int64) (v4 : Int) (g1 : tyV σ 10 v1) (g4 : rng v4), K7 σ v1 v2 v4 → RG σ → TY σ → Ext σi σ → kO σ th 9 → JJ p l e R s m args below meth c 5 D cA A n0 s0 QM σ 7 [(0, .ref th), (1, va_rf v1), (2, .long v2), (4, .int (i32 v4))] []) : ∀ (σ : Sg) (v1 : Option Nat) (v2 : Int64) (v4 : Int) (g1 : tyV σ 10 v1) (g4 : rng v4), w_X9_hasGrown_16 th K7 Q X σ v1 v2 v4 → RG σ → TY σ → Ext σi σ → kO σ th 9 → JJ p l e R s m args below meth c 5 D cA A n0 s0 QM σ 16 [(0, .ref th), (1, va_rf v1), (2, .long v2), (4, .int (i32 v4))] [] := by
  intro σ v1 v2 v4 g1 g4 h hGσ hYσ hE hth H locs ls hH hl hc
  have B := K.1
  have hl9 := K.2.2.2.2.2.2
  unfold w_X9_hasGrown_16 at h
  refine lv_lload_n B.1 B.2.1 dX9_hasGrown_16 rfl (lv_at hl 2 rfl) ?_
  refine lv_aload_n B.1 B.2.1 dX9_hasGrown_17 rfl (lv_at hl 0 rfl) ?_
  refine f_getp B hH hth (by decide) rfl wu_X9 4 (by decide) wf_X9_26 rfl rfl dX9_hasGrown_18 ?_
  refine lv_aload_nQ B.1 B.2.1 dX9_hasGrown_21 rfl (lv_at hl 1 rfl) ?_
  obtain ⟨a28, ea28, h⟩ := h
  have ka28 : kO σ a28 10 := g1 a28 ea28
  have h := h ka28
  refine W.eq (g2 := F0 m 22 ls [.ref a28, va_rf (gP σ th 4), .long v2]) (by rw [ea28]; rfl) ?_
  refine f_geti B hH ka28 (by decide) rfl wu_X10 11 (by decide) wf_X9_178 rfl rfl dX9_hasGrown_22 ?_
  refine lv_iload B.1 B.2.1 dX9_hasGrown_25 (lv_at hl 3 rfl) ?_
  obtain ⟨q1, h⟩ := h
  refine lv_iadd B.1 B.2.1 dX9_hasGrown_27 ?_
  rw [i32_add]
  obtain ⟨a29, ea29, h⟩ := h
  have ka29 : kO σ a29 112 := (hYσ.get hth (by decide)) a29 ea29
  have h := h ka29
  obtain ⟨q2, h⟩ := h
  refine W.eq (g2 := F0 m 28 ls [.int (i32 (gI σ a28 11 + v4)), .ref a29, .long v2]) (by rw [ea29]; rfl) ?_
  refine y_aald B hH (t0 := 5) ka29 (by decide) K.2.1.2.2.1 q2 (hYσ.2 _) dX9_hasGrown_28 ?_
  obtain ⟨a30, ea30, h⟩ := h
  have ka30 : kO σ a30 2 := (hYσ.get ka29 rfl) a30 ea30
  have h := h ka30
  refine W.eq (g2 := F0 m 29 ls [.ref a30, .long v2]) (by rw [ea30]; rfl) ?_
  refine f_getl B hH ka30 (by decide) rfl wu_X2 4 (by decide) wf_X9_314 rfl rfl dX9_hasGrown_29 ?_
  refine c_S B hH hl hc K.2.2.1 (As := [.long v2, .long (gJ σ a30 4)]) (okC_J9_min_f86c9 hl9 K.2.1 σ v2 (gJ σ a30 4) hGσ hYσ h) wc_X9_398 2 hdC_J9_min_f86c9 ⟨Nat.le_trans (Nat.le_of_ble_eq_true rfl) K.2.2.2.1, Nat.le_trans (Nat.le_of_ble_eq_true rfl) K.2.2.2.2.1⟩ rfl (rest := []) rfl (Nat.le_of_ble_eq_true rfl) dX9_hasGrown_32 (fun σ31 w hq => ?_) (fun σ9 E9 hx9 => hX σ9 E9 _ _ _ (tb_out K.2.2.2.2.2.1 rfl) hx9.1 hx9.2.1 hx9.2.2.1 (hE.trans hx9.2.2.2))
  obtain ⟨r32, rfl, h, hGσ31, hYσ31, xσ31⟩ := hq
  have h := h xσ31
  intro H locs ls hH hl hc
  refine W.eq (g2 := F0 m 35 ls [.long r32]) (rfl) ?_
  try dsimp only at h
  refine lv_lstore_n (lv' := [(2, .long r32), (0, .ref th), (1, va_rf v1), (4, .int (i32 v4))]) B.1 B.2.1 dX9_hasGrown_35 rfl hl (by decide) (by generalize v1 = w9; cases w9 <;> rfl) (fun ls hl => ?_)
  obtain ⟨q3, h⟩ := h
  refine lv_iinc (k := 3) (v := i32 (v4 + 1)) (lv' := [(4, .int (i32 (v4 + 1))), (2, .long r32), (0, .ref th), (1, va_rf v1)]) B.1 B.2.1 dX9_hasGrown_36 hl rfl (i32_add _ _) (by decide) rfl (fun ls hl => ?_)
  refine lv_goto (tgt := 7) B.1 B.2.1 dX9_hasGrown_39 (by decide) ?_
  exact hK7 _ _ _ _ (g1.up xσ31) q3 h hGσ31 hYσ31 (hE.trans xσ31) (hth.up xσ31) _ _ _ hH (lv_sub (l' := [(0, .ref th), (1, va_rf v1), (2, .long r32), (4, .int (i32 (v4 + 1)))]) hl [2, 3, 1, 0] rfl) hc
set_option maxRecDepth 20000 in
theorem a_X9_hasGrown_7 {Q : Sg → Int → Prop} {X : Sg → String → Prop} {th : Nat} (K : MD l R p s m args c cX9_hasGrown 5 RX9 D cA tys A n0 s0 1 23 []) (hQ : CQZ p l e R s m args below meth c cX9_hasGrown D cA A n0 s0 QM σi Q) (hX : CX p l e R s m args below meth c 5 D cA A n0 s0 QM σi X) (hTh : CT p l e R s m args below meth c cX9_hasGrown 5 D cA A n0 s0 QM σi RX9 X) {K7 : Sg → Option Nat → Int64 → Int → Prop} (hK7 : ∀ (σ : Sg) (v1 : Option Nat) (v2 : Int64) (v4 : Int) (g1 : tyV σ 10 v1) (g4 : rng v4), K7 σ v1 v2 v4 → RG σ → TY σ → Ext σi σ → kO σ th 9 → JJ p l e R s m args below meth c 5 D cA A n0 s0 QM σ 7 [(0, .ref th), (1, va_rf v1), (2, .long v2), (4, .int (i32 v4))] []) : ∀ (σ : Sg) (v1 : Option Nat) (v2 : Int64) (v4 : Int) (g1 : tyV σ 10 v1) (g4 : rng v4), w_X9_hasGrown_7 th K7 Q X σ v1 v2 v4 → RG σ → TY σ → Ext σi σ → kO σ th 9 → JJ p l e R s m args below meth c 5 D cA A n0 s0 QM σ 7 [(0, .ref th), (1, va_rf v1), (2, .long v2), (4, .int (i32 v4))] [] := by
  intro σ v1 v2 v4 g1 g4 h hGσ hYσ hE hth H locs ls hH hl hc
  have B := K.1
  have hl9 := K.2.2.2.2.2.2
  unfold w_X9_hasGrown_7 at h
  refine lv_iload B.1 B.2.1 dX9_hasGrown_7 (lv_at hl 3 rfl) ?_
  refine lv_aload_nQ B.1 B.2.1 dX9_hasGrown_9 rfl (lv_at hl 1 rfl) ?_
  obtain ⟨a33, ea33, h⟩ := h
  have ka33 : kO σ a33 10 := g1 a33 ea33
  have h := h ka33
  refine W.eq (g2 := F0 m 10 ls [.ref a33, .int (i32 v4)]) (by rw [ea33]; rfl) ?_
  refine f_geti B hH ka33 (by decide) rfl wu_X10 12 (by decide) wf_X9_194 rfl rfl dX9_hasGrown_10 ?_
  refine lv_icmp_ge (tgt := 42) B.1 B.2.1 dX9_hasGrown_13 (by decide) (fun h9 => ?_) (fun h9 => ?_)
  · rw [if_pos ((i32_le (hGσ _ _) g4).mp h9)] at h
    exact a_X9_hasGrown_42 K hQ hX hTh _ _ _ g1 h hGσ hYσ hE hth _ _ _ hH (lv_sub (l' := [(0, .ref th), (1, va_rf v1), (2, .long v2)]) hl [0, 1, 2] rfl) hc
  · rw [if_neg (fun q => h9 ((i32_le (hGσ _ _) g4).mpr q))] at h
    exact a_X9_hasGrown_16 K hQ hX hTh hK7 _ _ _ _ g1 g4 h hGσ hYσ hE hth _ _ _ hH (lv_sub (l' := [(0, .ref th), (1, va_rf v1), (2, .long v2), (4, .int (i32 v4))]) hl [0, 1, 2, 3] rfl) hc
theorem al_X9_hasGrown_7 {Q : Sg → Int → Prop} {X : Sg → String → Prop} {th : Nat} (K : MD l R p s m args c cX9_hasGrown 5 RX9 D cA tys A n0 s0 1 23 []) (hQ : CQZ p l e R s m args below meth c cX9_hasGrown D cA A n0 s0 QM σi Q) (hX : CX p l e R s m args below meth c 5 D cA A n0 s0 QM σi X) (hTh : CT p l e R s m args below meth c cX9_hasGrown 5 D cA A n0 s0 QM σi RX9 X) : ∀ (n : Nat), ∀ (σ : Sg) (v1 : Option Nat) (v2 : Int64) (v4 : Int) (g1 : tyV σ 10 v1) (g4 : rng v4), wl_X9_hasGrown_7 th Q X n σ v1 v2 v4 → RG σ → TY σ → Ext σi σ → kO σ th 9 → JJ p l e R s m args below meth c 5 D cA A n0 s0 QM σ 7 [(0, .ref th), (1, va_rf v1), (2, .long v2), (4, .int (i32 v4))] [] := by
  intro n
  induction n with
  | zero => intro σ v1 v2 v4 g1 g4 h; exact h.elim
  | succ n ih => exact fun σ v1 v2 v4 g1 g4 h => a_X9_hasGrown_7 K hQ hX hTh ih σ v1 v2 v4 g1 g4 h
set_option maxRecDepth 20000 in
theorem a_X9_hasGrown_0 {Q : Sg → Int → Prop} {X : Sg → String → Prop} {th : Nat} (K : MD l R p s m args c cX9_hasGrown 5 RX9 D cA tys A n0 s0 1 23 []) (hQ : CQZ p l e R s m args below meth c cX9_hasGrown D cA A n0 s0 QM σi Q) (hX : CX p l e R s m args below meth c 5 D cA A n0 s0 QM σi X) (hTh : CT p l e R s m args below meth c cX9_hasGrown 5 D cA A n0 s0 QM σi RX9 X) : ∀ (σ : Sg) (v1 : Option Nat) (g1 : tyV σ 10 v1), w_X9_hasGrown_0 th Q X σ v1 → RG σ → TY σ → Ext σi σ → kO σ th 9 → JJ p l e R s m args below meth c 5 D cA A n0 s0 QM σ 0 [(0, .ref th), (1, va_rf v1)] [] := by
  intro σ v1 g1 h hGσ hYσ hE hth H locs ls hH hl hc
  have B := K.1
  have hl9 := K.2.2.2.2.2.2
  unfold w_X9_hasGrown_0 at h
  refine lv_ldc2 B.1 B.2.1 B.2.2.1 (B.2.2.2.1 _ (wk_X9_370)) dX9_hasGrown_0 ?_
  refine lv_lstore_n (lv' := [(2, .long 1099511627776), (0, .ref th), (1, va_rf v1)]) B.1 B.2.1 dX9_hasGrown_3 rfl hl (by decide) (by generalize v1 = w9; cases w9 <;> rfl) (fun ls hl => ?_)
  refine lv_iconst (v := i32 0) B.1 B.2.1 dX9_hasGrown_4 (by decide) ?_
  refine lv_istore (lv' := [(4, .int (i32 0)), (2, .long 1099511627776), (0, .ref th), (1, va_rf v1)]) B.1 B.2.1 dX9_hasGrown_5 hl (by decide) rfl (fun ls hl => ?_)
  obtain ⟨n9, h⟩ := h
  exact al_X9_hasGrown_7 K hQ hX hTh n9 _ _ _ _ g1 (by unfold rng; omega) h hGσ hYσ hE hth _ _ _ hH (lv_sub (l' := [(0, .ref th), (1, va_rf v1), (2, .long 1099511627776), (4, .int (i32 0))]) hl [2, 3, 1, 0] rfl) hc
theorem ok_X9_hasGrown (hl0 : l.stackTraces = false) (hT : TyC cA tys) {Q : Sg → Int → Prop} {X : Sg → String → Prop} (σ : Sg) (th : Nat) (v1 : Option Nat) (g1 : tyV σ 10 v1) (hth : kO σ th 9) (hG : RG σ) (hY : TY σ) (h : wp_X9_hasGrown th v1 σ Q X) : Ok l D cA tys A yX9_hasGrown (.code yX9_hasGrown cX9_hasGrown 5 (some .boolean)) 1 23 [.ref th, va_rf v1] σ (QcZ σ Q) (QxC σ X) := by
  unfold wp_X9_hasGrown at h
  exact oc_Z hl0 (by decide) (by cases v1 <;> exact Nat.le_of_ble_eq_true rfl) hT (fun p e R s m args below meth c K hQ hX hTh H locs ls hH hl hc => a_X9_hasGrown_0 K hQ hX hTh σ v1 g1 h hG hY (Ext.rfl' σ) hth H locs ls hH (lv_sub (l' := [(0, .ref th), (1, va_rf v1)]) hl [0, 1] (by cases v1 <;> rfl)) hc)
theorem dX9_isBlocked_0 : decode cX9_isBlocked 0 = .ok (.iconst 0, 1) := by decide +kernel
theorem dX9_isBlocked_1 : decode cX9_isBlocked 1 = .ok (.istore_n 2, 1) := by decide +kernel
theorem dX9_isBlocked_2 : decode cX9_isBlocked 2 = .ok (.iload_n 2, 1) := by decide +kernel
theorem dX9_isBlocked_3 : decode cX9_isBlocked 3 = .ok (.aload_n 1, 1) := by decide +kernel
theorem dX9_isBlocked_4 : decode cX9_isBlocked 4 = .ok (.getfield 194, 3) := by decide +kernel
theorem dX9_isBlocked_7 : decode cX9_isBlocked 7 = .ok (.if_icmp .ge 28, 3) := by decide +kernel
theorem dX9_isBlocked_10 : decode cX9_isBlocked 10 = .ok (.aload_n 0, 1) := by decide +kernel
theorem dX9_isBlocked_11 : decode cX9_isBlocked 11 = .ok (.getfield 26, 3) := by decide +kernel
theorem dX9_isBlocked_14 : decode cX9_isBlocked 14 = .ok (.aload_n 1, 1) := by decide +kernel
theorem dX9_isBlocked_15 : decode cX9_isBlocked 15 = .ok (.getfield 178, 3) := by decide +kernel
theorem dX9_isBlocked_18 : decode cX9_isBlocked 18 = .ok (.iload_n 2, 1) := by decide +kernel
theorem dX9_isBlocked_19 : decode cX9_isBlocked 19 = .ok (.iadd, 1) := by decide +kernel
theorem dX9_isBlocked_20 : decode cX9_isBlocked 20 = .ok (.aaload, 1) := by decide +kernel
theorem dX9_isBlocked_21 : decode cX9_isBlocked 21 = .ok (.getfield 298, 3) := by decide +kernel
theorem dX9_isBlocked_24 : decode cX9_isBlocked 24 = .ok (.ifCond .ne 5, 3) := by decide +kernel
theorem dX9_isBlocked_27 : decode cX9_isBlocked 27 = .ok (.iconst 0, 1) := by decide +kernel
theorem dX9_isBlocked_28 : decode cX9_isBlocked 28 = .ok (.ireturn, 1) := by decide +kernel
theorem dX9_isBlocked_29 : decode cX9_isBlocked 29 = .ok (.iinc 2 1, 3) := by decide +kernel
theorem dX9_isBlocked_32 : decode cX9_isBlocked 32 = .ok (.goto (-30), 3) := by decide +kernel
theorem dX9_isBlocked_35 : decode cX9_isBlocked 35 = .ok (.iconst 1, 1) := by decide +kernel
theorem dX9_isBlocked_36 : decode cX9_isBlocked 36 = .ok (.ireturn, 1) := by decide +kernel
set_option maxRecDepth 20000 in
theorem a_X9_isBlocked_35 {Q : Sg → Int → Prop} {X : Sg → String → Prop} {th : Nat} (K : MD l R p s m args c cX9_isBlocked 3 RX9 D cA tys A n0 s0 0 0 []) (hQ : CQZ p l e R s m args below meth c cX9_isBlocked D cA A n0 s0 QM σi Q) (hX : CX p l e R s m args below meth c 3 D cA A n0 s0 QM σi X) (hTh : CT p l e R s m args below meth c cX9_isBlocked 3 D cA A n0 s0 QM σi RX9 X) : ∀ (σ : Sg), w_X9_isBlocked_35 th Q X σ → RG σ → TY σ → Ext σi σ → kO σ th 9 → JJ p l e R s m args below meth c 3 D cA A n0 s0 QM σ 35 [(0, .ref th)] [] := by
  intro σ h hGσ hYσ hE hth H locs ls hH hl hc
  have B := K.1
  have hl9 := K.2.2.2.2.2.2
  unfold w_X9_isBlocked_35 at h
  refine lv_iconst (v := i32 1) B.1 B.2.1 dX9_isBlocked_35 (by decide) ?_
  exact hQ _ _ _ _ _ _ (by unfold rng; omega) (Or.inr rfl) dX9_isBlocked_36 hH hc h hGσ hYσ hE
set_option maxRecDepth 20000 in
theorem a_X9_isBlocked_29 {Q : Sg → Int → Prop} {X : Sg → String → Prop} {th : Nat} (K : MD l R p s m args c cX9_isBlocked 3 RX9 D cA tys A n0 s0 0 0 []) (hQ : CQZ p l e R s m args below meth c cX9_isBlocked D cA A n0 s0 QM σi Q) (hX : CX p l e R s m args below meth c 3 D cA A n0 s0 QM σi X) (hTh : CT p l e R s m args below meth c cX9_isBlocked 3 D cA A n0 s0 QM σi RX9 X) {K2 : Sg → Option Nat → Int → Prop} (hK2 : ∀ (σ : Sg) (v1 : Option Nat) (v2 : Int) (g1 : tyV σ 10 v1) (g2 : rng v2), K2 σ v1 v2 → RG σ → TY σ → Ext σi σ → kO σ th 9 → JJ p l e R s m args below meth c 3 D cA A n0 s0 QM σ 2 [(0, .ref th), (1, va_rf v1), (2, .int (i32 v2))] []) : ∀ (σ : Sg) (v1 : Option Nat) (v2 : Int) (g1 : tyV σ 10 v1) (g2 : rng v2), w_X9_isBlocked_29 th K2 Q X σ v1 v2 → RG σ → TY σ → Ext σi σ → kO σ th 9 → JJ p l e R s m args below meth c 3 D cA A n0 s0 QM σ 29 [(0, .ref th), (1, va_rf v1), (2, .int (i32 v2))] [] := by
  intro σ v1 v2 g1 g2 h hGσ hYσ hE hth H locs ls hH hl hc
  have B := K.1
  have hl9 := K.2.2.2.2.2.2
  unfold w_X9_isBlocked_29 at h
  obtain ⟨q1, h⟩ := h
  refine lv_iinc (k := 2) (v := i32 (v2 + 1)) (lv' := [(2, .int (i32 (v2 + 1))), (0, .ref th), (1, va_rf v1)]) B.1 B.2.1 dX9_isBlocked_29 hl rfl (i32_add _ _) (by decide) (by generalize v1 = w9; cases w9 <;> rfl) (fun ls hl => ?_)
  refine lv_goto (tgt := 2) B.1 B.2.1 dX9_isBlocked_32 (by decide) ?_
  exact hK2 _ _ _ g1 q1 h hGσ hYσ hE hth _ _ _ hH (lv_sub (l' := [(0, .ref th), (1, va_rf v1), (2, .int (i32 (v2 + 1)))]) hl [1, 2, 0] rfl) hc
set_option maxRecDepth 20000 in
theorem a_X9_isBlocked_27 {Q : Sg → Int → Prop} {X : Sg → String → Prop} {th : Nat} (K : MD l R p s m args c cX9_isBlocked 3 RX9 D cA tys A n0 s0 0 0 []) (hQ : CQZ p l e R s m args below meth c cX9_isBlocked D cA A n0 s0 QM σi Q) (hX : CX p l e R s m args below meth c 3 D cA A n0 s0 QM σi X) (hTh : CT p l e R s m args below meth c cX9_isBlocked 3 D cA A n0 s0 QM σi RX9 X) : ∀ (σ : Sg), w_X9_isBlocked_27 th Q X σ → RG σ → TY σ → Ext σi σ → kO σ th 9 → JJ p l e R s m args below meth c 3 D cA A n0 s0 QM σ 27 [(0, .ref th)] [] := by
  intro σ h hGσ hYσ hE hth H locs ls hH hl hc
  have B := K.1
  have hl9 := K.2.2.2.2.2.2
  unfold w_X9_isBlocked_27 at h
  refine lv_iconst (v := i32 0) B.1 B.2.1 dX9_isBlocked_27 (by decide) ?_
  exact hQ _ _ _ _ _ _ (by unfold rng; omega) (Or.inl rfl) dX9_isBlocked_28 hH hc h hGσ hYσ hE
set_option maxRecDepth 20000 in
theorem a_X9_isBlocked_10 {Q : Sg → Int → Prop} {X : Sg → String → Prop} {th : Nat} (K : MD l R p s m args c cX9_isBlocked 3 RX9 D cA tys A n0 s0 0 0 []) (hQ : CQZ p l e R s m args below meth c cX9_isBlocked D cA A n0 s0 QM σi Q) (hX : CX p l e R s m args below meth c 3 D cA A n0 s0 QM σi X) (hTh : CT p l e R s m args below meth c cX9_isBlocked 3 D cA A n0 s0 QM σi RX9 X) {K2 : Sg → Option Nat → Int → Prop} (hK2 : ∀ (σ : Sg) (v1 : Option Nat) (v2 : Int) (g1 : tyV σ 10 v1) (g2 : rng v2), K2 σ v1 v2 → RG σ → TY σ → Ext σi σ → kO σ th 9 → JJ p l e R s m args below meth c 3 D cA A n0 s0 QM σ 2 [(0, .ref th), (1, va_rf v1), (2, .int (i32 v2))] []) : ∀ (σ : Sg) (v1 : Option Nat) (v2 : Int) (g1 : tyV σ 10 v1) (g2 : rng v2), w_X9_isBlocked_10 th K2 Q X σ v1 v2 → RG σ → TY σ → Ext σi σ → kO σ th 9 → JJ p l e R s m args below meth c 3 D cA A n0 s0 QM σ 10 [(0, .ref th), (1, va_rf v1), (2, .int (i32 v2))] [] := by
  intro σ v1 v2 g1 g2 h hGσ hYσ hE hth H locs ls hH hl hc
  have B := K.1
  have hl9 := K.2.2.2.2.2.2
  unfold w_X9_isBlocked_10 at h
  refine lv_aload_n B.1 B.2.1 dX9_isBlocked_10 rfl (lv_at hl 0 rfl) ?_
  refine f_getp B hH hth (by decide) rfl wu_X9 4 (by decide) wf_X9_26 rfl rfl dX9_isBlocked_11 ?_
  refine lv_aload_nQ B.1 B.2.1 dX9_isBlocked_14 rfl (lv_at hl 1 rfl) ?_
  obtain ⟨a9, ea9, h⟩ := h
  have ka9 : kO σ a9 10 := g1 a9 ea9
  have h := h ka9
  refine W.eq (g2 := F0 m 15 ls [.ref a9, va_rf (gP σ th 4)]) (by rw [ea9]; rfl) ?_
  refine f_geti B hH ka9 (by decide) rfl wu_X10 11 (by decide) wf_X9_178 rfl rfl dX9_isBlocked_15 ?_
  refine lv_iload_n B.1 B.2.1 dX9_isBlocked_18 rfl (lv_at hl 2 rfl) ?_
  obtain ⟨q1, h⟩ := h
  refine lv_iadd B.1 B.2.1 dX9_isBlocked_19 ?_
  rw [i32_add]
  obtain ⟨a10, ea10, h⟩ := h
  have ka10 : kO σ a10 112 := (hYσ.get hth (by decide)) a10 ea10
  have h := h ka10
  obtain ⟨q2, h⟩ := h
  refine W.eq (g2 := F0 m 20 ls [.int (i32 (gI σ a9 11 + v2)), .ref a10]) (by rw [ea10]; rfl) ?_
  refine y_aald B hH (t0 := 5) ka10 (by decide) K.2.1.2.2.1 q2 (hYσ.2 _) dX9_isBlocked_20 ?_
  obtain ⟨a11, ea11, h⟩ := h
  have ka11 : kO σ a11 2 := (hYσ.get ka10 rfl) a11 ea11
  have h := h ka11
  refine W.eq (g2 := F0 m 21 ls [.ref a11]) (by rw [ea11]; rfl) ?_
  refine f_geti B hH ka11 (by decide) rfl wu_X2 5 (by decide) wf_X9_298 rfl rfl dX9_isBlocked_21 ?_
  refine lv_if_ne (tgt := 29) B.1 B.2.1 dX9_isBlocked_24 (by decide) (fun h9 => ?_) (fun h9 => ?_)
  · rw [if_pos (fun q => h9 ((z_eq (hGσ _ _)).mpr q))] at h
    exact a_X9_isBlocked_29 K hQ hX hTh hK2 _ _ _ g1 g2 h hGσ hYσ hE hth _ _ _ hH (lv_sub (l' := [(0, .ref th), (1, va_rf v1), (2, .int (i32 v2))]) hl [0, 1, 2] rfl) hc
  · rw [if_neg (fun q => q ((z_eq (hGσ _ _)).mp h9))] at h
    exact a_X9_isBlocked_27 K hQ hX hTh _ h hGσ hYσ hE hth _ _ _ hH (lv_sub (l' := [(0, .ref th)]) hl [0] rfl) hc
set_option maxRecDepth 20000 in
theorem a_X9_isBlocked_2 {Q : Sg → Int → Prop} {X : Sg → String → Prop} {th : Nat} (K : MD l R p s m args c cX9_isBlocked 3 RX9 D cA tys A n0 s0 0 0 []) (hQ : CQZ p l e R s m args below meth c cX9_isBlocked D cA A n0 s0 QM σi Q) (hX : CX p l e R s m args below meth c 3 D cA A n0 s0 QM σi X) (hTh : CT p l e R s m args below meth c cX9_isBlocked 3 D cA A n0 s0 QM σi RX9 X) {K2 : Sg → Option Nat → Int → Prop} (hK2 : ∀ (σ : Sg) (v1 : Option Nat) (v2 : Int) (g1 : tyV σ 10 v1) (g2 : rng v2), K2 σ v1 v2 → RG σ → TY σ → Ext σi σ → kO σ th 9 → JJ p l e R s m args below meth c 3 D cA A n0 s0 QM σ 2 [(0, .ref th), (1, va_rf v1), (2, .int (i32 v2))] []) : ∀ (σ : Sg) (v1 : Option Nat) (v2 : Int) (g1 : tyV σ 10 v1) (g2 : rng v2), w_X9_isBlocked_2 th K2 Q X σ v1 v2 → RG σ → TY σ → Ext σi σ → kO σ th 9 → JJ p l e R s m args below meth c 3 D cA A n0 s0 QM σ 2 [(0, .ref th), (1, va_rf v1), (2, .int (i32 v2))] [] := by
  intro σ v1 v2 g1 g2 h hGσ hYσ hE hth H locs ls hH hl hc
  have B := K.1
  have hl9 := K.2.2.2.2.2.2
  unfold w_X9_isBlocked_2 at h
  refine lv_iload_n B.1 B.2.1 dX9_isBlocked_2 rfl (lv_at hl 2 rfl) ?_
  refine lv_aload_nQ B.1 B.2.1 dX9_isBlocked_3 rfl (lv_at hl 1 rfl) ?_
  obtain ⟨a12, ea12, h⟩ := h
  have ka12 : kO σ a12 10 := g1 a12 ea12
  have h := h ka12
  refine W.eq (g2 := F0 m 4 ls [.ref a12, .int (i32 v2)]) (by rw [ea12]; rfl) ?_
  refine f_geti B hH ka12 (by decide) rfl wu_X10 12 (by decide) wf_X9_194 rfl rfl dX9_isBlocked_4 ?_
  refine lv_icmp_ge (tgt := 35) B.1 B.2.1 dX9_isBlocked_7 (by decide) (fun h9 => ?_) (fun h9 => ?_)
  · rw [if_pos ((i32_le (hGσ _ _) g2).mp h9)] at h
    exact a_X9_isBlocked_35 K hQ hX hTh _ h hGσ hYσ hE hth _ _ _ hH (lv_sub (l' := [(0, .ref th)]) hl [0] rfl) hc
  · rw [if_neg (fun q => h9 ((i32_le (hGσ _ _) g2).mpr q))] at h
    exact a_X9_isBlocked_10 K hQ hX hTh hK2 _ _ _ g1 g2 h hGσ hYσ hE hth _ _ _ hH (lv_sub (l' := [(0, .ref th), (1, va_rf v1), (2, .int (i32 v2))]) hl [0, 1, 2] rfl) hc
theorem al_X9_isBlocked_2 {Q : Sg → Int → Prop} {X : Sg → String → Prop} {th : Nat} (K : MD l R p s m args c cX9_isBlocked 3 RX9 D cA tys A n0 s0 0 0 []) (hQ : CQZ p l e R s m args below meth c cX9_isBlocked D cA A n0 s0 QM σi Q) (hX : CX p l e R s m args below meth c 3 D cA A n0 s0 QM σi X) (hTh : CT p l e R s m args below meth c cX9_isBlocked 3 D cA A n0 s0 QM σi RX9 X) : ∀ (n : Nat), ∀ (σ : Sg) (v1 : Option Nat) (v2 : Int) (g1 : tyV σ 10 v1) (g2 : rng v2), wl_X9_isBlocked_2 th Q X n σ v1 v2 → RG σ → TY σ → Ext σi σ → kO σ th 9 → JJ p l e R s m args below meth c 3 D cA A n0 s0 QM σ 2 [(0, .ref th), (1, va_rf v1), (2, .int (i32 v2))] [] := by
  intro n
  induction n with
  | zero => intro σ v1 v2 g1 g2 h; exact h.elim
  | succ n ih => exact fun σ v1 v2 g1 g2 h => a_X9_isBlocked_2 K hQ hX hTh ih σ v1 v2 g1 g2 h
set_option maxRecDepth 20000 in
theorem a_X9_isBlocked_0 {Q : Sg → Int → Prop} {X : Sg → String → Prop} {th : Nat} (K : MD l R p s m args c cX9_isBlocked 3 RX9 D cA tys A n0 s0 0 0 []) (hQ : CQZ p l e R s m args below meth c cX9_isBlocked D cA A n0 s0 QM σi Q) (hX : CX p l e R s m args below meth c 3 D cA A n0 s0 QM σi X) (hTh : CT p l e R s m args below meth c cX9_isBlocked 3 D cA A n0 s0 QM σi RX9 X) : ∀ (σ : Sg) (v1 : Option Nat) (g1 : tyV σ 10 v1), w_X9_isBlocked_0 th Q X σ v1 → RG σ → TY σ → Ext σi σ → kO σ th 9 → JJ p l e R s m args below meth c 3 D cA A n0 s0 QM σ 0 [(0, .ref th), (1, va_rf v1)] [] := by
  intro σ v1 g1 h hGσ hYσ hE hth H locs ls hH hl hc
  have B := K.1
  have hl9 := K.2.2.2.2.2.2
  unfold w_X9_isBlocked_0 at h
  refine lv_iconst (v := i32 0) B.1 B.2.1 dX9_isBlocked_0 (by decide) ?_
  refine lv_istore_n (lv' := [(2, .int (i32 0)), (0, .ref th), (1, va_rf v1)]) B.1 B.2.1 dX9_isBlocked_1 rfl hl (by decide) (by generalize v1 = w9; cases w9 <;> rfl) (fun ls hl => ?_)
  obtain ⟨n9, h⟩ := h
  exact al_X9_isBlocked_2 K hQ hX hTh n9 _ _ _ g1 (by unfold rng; omega) h hGσ hYσ hE hth _ _ _ hH (lv_sub (l' := [(0, .ref th), (1, va_rf v1), (2, .int (i32 0))]) hl [1, 2, 0] rfl) hc
theorem ok_X9_isBlocked (hl0 : l.stackTraces = false) (hT : TyC cA tys) {Q : Sg → Int → Prop} {X : Sg → String → Prop} (σ : Sg) (th : Nat) (v1 : Option Nat) (g1 : tyV σ 10 v1) (hth : kO σ th 9) (hG : RG σ) (hY : TY σ) (h : wp_X9_isBlocked th v1 σ Q X) : Ok l D cA tys A yX9_isBlocked (.code yX9_isBlocked cX9_isBlocked 3 (some .boolean)) 0 0 [.ref th, va_rf v1] σ (QcZ σ Q) (QxC σ X) := by
  unfold wp_X9_isBlocked at h
  exact oc_Z hl0 (by decide) (by cases v1 <;> exact Nat.le_of_ble_eq_true rfl) hT (fun p e R s m args below meth c K hQ hX hTh H locs ls hH hl hc => a_X9_isBlocked_0 K hQ hX hTh σ v1 g1 h hG hY (Ext.rfl' σ) hth H locs ls hH (lv_sub (l' := [(0, .ref th), (1, va_rf v1)]) hl [0, 1] (by cases v1 <;> rfl)) hc)
theorem dX9_nextChannel_0 : decode cX9_nextChannel 0 = .ok (.iconst 0, 1) := by decide +kernel
theorem dX9_nextChannel_1 : decode cX9_nextChannel 1 = .ok (.istore_n 2, 1) := by decide +kernel
theorem dX9_nextChannel_2 : decode cX9_nextChannel 2 = .ok (.iload_n 2, 1) := by decide +kernel
theorem dX9_nextChannel_3 : decode cX9_nextChannel 3 = .ok (.aload_n 1, 1) := by decide +kernel
theorem dX9_nextChannel_4 : decode cX9_nextChannel 4 = .ok (.getfield 194, 3) := by decide +kernel
theorem dX9_nextChannel_7 : decode cX9_nextChannel 7 = .ok (.if_icmp .ge 68, 3) := by decide +kernel
theorem dX9_nextChannel_10 : decode cX9_nextChannel 10 = .ok (.aload_n 1, 1) := by decide +kernel
theorem dX9_nextChannel_11 : decode cX9_nextChannel 11 = .ok (.getfield 347, 3) := by decide +kernel
theorem dX9_nextChannel_14 : decode cX9_nextChannel 14 = .ok (.iload_n 2, 1) := by decide +kernel
theorem dX9_nextChannel_15 : decode cX9_nextChannel 15 = .ok (.iadd, 1) := by decide +kernel
theorem dX9_nextChannel_16 : decode cX9_nextChannel 16 = .ok (.aload_n 1, 1) := by decide +kernel
theorem dX9_nextChannel_17 : decode cX9_nextChannel 17 = .ok (.getfield 194, 3) := by decide +kernel
theorem dX9_nextChannel_20 : decode cX9_nextChannel 20 = .ok (.irem, 1) := by decide +kernel
theorem dX9_nextChannel_21 : decode cX9_nextChannel 21 = .ok (.istore_n 3, 1) := by decide +kernel
theorem dX9_nextChannel_22 : decode cX9_nextChannel 22 = .ok (.aload_n 0, 1) := by decide +kernel
theorem dX9_nextChannel_23 : decode cX9_nextChannel 23 = .ok (.getfield 26, 3) := by decide +kernel
theorem dX9_nextChannel_26 : decode cX9_nextChannel 26 = .ok (.aload_n 1, 1) := by decide +kernel
theorem dX9_nextChannel_27 : decode cX9_nextChannel 27 = .ok (.getfield 178, 3) := by decide +kernel
theorem dX9_nextChannel_30 : decode cX9_nextChannel 30 = .ok (.iload_n 3, 1) := by decide +kernel
theorem dX9_nextChannel_31 : decode cX9_nextChannel 31 = .ok (.iadd, 1) := by decide +kernel
theorem dX9_nextChannel_32 : decode cX9_nextChannel 32 = .ok (.aaload, 1) := by decide +kernel
theorem dX9_nextChannel_33 : decode cX9_nextChannel 33 = .ok (.astore 4, 2) := by decide +kernel
theorem dX9_nextChannel_35 : decode cX9_nextChannel 35 = .ok (.aload 4, 2) := by decide +kernel
theorem dX9_nextChannel_37 : decode cX9_nextChannel 37 = .ok (.getfield 148, 3) := by decide +kernel
theorem dX9_nextChannel_40 : decode cX9_nextChannel 40 = .ok (.getfield 338, 3) := by decide +kernel
theorem dX9_nextChannel_43 : decode cX9_nextChannel 43 = .ok (.ifCond .le 26, 3) := by decide +kernel
theorem dX9_nextChannel_46 : decode cX9_nextChannel 46 = .ok (.aload 4, 2) := by decide +kernel
theorem dX9_nextChannel_48 : decode cX9_nextChannel 48 = .ok (.getfield 298, 3) := by decide +kernel
theorem dX9_nextChannel_51 : decode cX9_nextChannel 51 = .ok (.ifCond .ne 18, 3) := by decide +kernel
theorem dX9_nextChannel_54 : decode cX9_nextChannel 54 = .ok (.aload_n 1, 1) := by decide +kernel
theorem dX9_nextChannel_55 : decode cX9_nextChannel 55 = .ok (.iload_n 3, 1) := by decide +kernel
theorem dX9_nextChannel_56 : decode cX9_nextChannel 56 = .ok (.iconst 1, 1) := by decide +kernel
theorem dX9_nextChannel_57 : decode cX9_nextChannel 57 = .ok (.iadd, 1) := by decide +kernel
theorem dX9_nextChannel_58 : decode cX9_nextChannel 58 = .ok (.aload_n 1, 1) := by decide +kernel
theorem dX9_nextChannel_59 : decode cX9_nextChannel 59 = .ok (.getfield 194, 3) := by decide +kernel
theorem dX9_nextChannel_62 : decode cX9_nextChannel 62 = .ok (.irem, 1) := by decide +kernel
theorem dX9_nextChannel_63 : decode cX9_nextChannel 63 = .ok (.putfield 347, 3) := by decide +kernel
theorem dX9_nextChannel_66 : decode cX9_nextChannel 66 = .ok (.aload 4, 2) := by decide +kernel
theorem dX9_nextChannel_68 : decode cX9_nextChannel 68 = .ok (.areturn, 1) := by decide +kernel
theorem dX9_nextChannel_69 : decode cX9_nextChannel 69 = .ok (.iinc 2 1, 3) := by decide +kernel
theorem dX9_nextChannel_72 : decode cX9_nextChannel 72 = .ok (.goto (-70), 3) := by decide +kernel
theorem dX9_nextChannel_75 : decode cX9_nextChannel 75 = .ok (.aconst_null, 1) := by decide +kernel
theorem dX9_nextChannel_76 : decode cX9_nextChannel 76 = .ok (.areturn, 1) := by decide +kernel
set_option maxRecDepth 20000 in
theorem a_X9_nextChannel_75 {Q : Sg → Option Nat → Prop} {X : Sg → String → Prop} {th : Nat} (K : MD l R p s m args c cX9_nextChannel 5 RX9 D cA tys A n0 s0 0 0 []) (hQ : CQA p l e R s m args below meth c cX9_nextChannel D cA A n0 s0 QM σi 2 Q) (hX : CX p l e R s m args below meth c 5 D cA A n0 s0 QM σi X) (hTh : CT p l e R s m args below meth c cX9_nextChannel 5 D cA A n0 s0 QM σi RX9 X) : ∀ (σ : Sg), w_X9_nextChannel_75 th Q X σ → RG σ → TY σ → Ext σi σ → kO σ th 9 → JJ p l e R s m args below meth c 5 D cA A n0 s0 QM σ 75 [(0, .ref th)] [] := by
  intro σ h hGσ hYσ hE hth H locs ls hH hl hc
  have B := K.1
  have hl9 := K.2.2.2.2.2.2
  unfold w_X9_nextChannel_75 at h
  refine lv_null B.1 B.2.1 dX9_nextChannel_75 ?_
  refine W.eq (g2 := F0 m 76 ls [va_rf none]) (rfl) ?_
  exact hQ _ _ _ _ _ _ (tyn _ _) dX9_nextChannel_76 hH hc h hGσ hYσ hE
set_option maxRecDepth 20000 in
theorem a_X9_nextChannel_69 {Q : Sg → Option Nat → Prop} {X : Sg → String → Prop} {th : Nat} (K : MD l R p s m args c cX9_nextChannel 5 RX9 D cA tys A n0 s0 0 0 []) (hQ : CQA p l e R s m args below meth c cX9_nextChannel D cA A n0 s0 QM σi 2 Q) (hX : CX p l e R s m args below meth c 5 D cA A n0 s0 QM σi X) (hTh : CT p l e R s m args below meth c cX9_nextChannel 5 D cA A n0 s0 QM σi RX9 X) {K2 : Sg → Option Nat → Int → Prop} (hK2 : ∀ (σ : Sg) (v1 : Option Nat) (v2 : Int) (g1 : tyV σ 10 v1) (g2 : rng v2), K2 σ v1 v2 → RG σ → TY σ → Ext σi σ → kO σ th 9 → JJ p l e R s m args below meth c 5 D cA A n0 s0 QM σ 2 [(0, .ref th), (1, va_rf v1), (2, .int (i32 v2))] []) : ∀ (σ : Sg) (v1 : Option Nat) (v2 : Int) (g1 : tyV σ 10 v1) (g2 : rng v2), w_X9_nextChannel_69 th K2 Q X σ v1 v2 → RG σ → TY σ → Ext σi σ → kO σ th 9 → JJ p l e R s m args below meth c 5 D cA A n0 s0 QM σ 69 [(0, .ref th), (1, va_rf v1), (2, .int (i32 v2))] [] := by
  intro σ v1 v2 g1 g2 h hGσ hYσ hE hth H locs ls hH hl hc
  have B := K.1
  have hl9 := K.2.2.2.2.2.2
  unfold w_X9_nextChannel_69 at h
  obtain ⟨q1, h⟩ := h
  refine lv_iinc (k := 2) (v := i32 (v2 + 1)) (lv' := [(2, .int (i32 (v2 + 1))), (0, .ref th), (1, va_rf v1)]) B.1 B.2.1 dX9_nextChannel_69 hl rfl (i32_add _ _) (by decide) (by generalize v1 = w9; cases w9 <;> rfl) (fun ls hl => ?_)
  refine lv_goto (tgt := 2) B.1 B.2.1 dX9_nextChannel_72 (by decide) ?_
  exact hK2 _ _ _ g1 q1 h hGσ hYσ hE hth _ _ _ hH (lv_sub (l' := [(0, .ref th), (1, va_rf v1), (2, .int (i32 (v2 + 1)))]) hl [1, 2, 0] rfl) hc
set_option maxRecDepth 20000 in
theorem a_X9_nextChannel_54 {Q : Sg → Option Nat → Prop} {X : Sg → String → Prop} {th : Nat} (K : MD l R p s m args c cX9_nextChannel 5 RX9 D cA tys A n0 s0 0 0 []) (hQ : CQA p l e R s m args below meth c cX9_nextChannel D cA A n0 s0 QM σi 2 Q) (hX : CX p l e R s m args below meth c 5 D cA A n0 s0 QM σi X) (hTh : CT p l e R s m args below meth c cX9_nextChannel 5 D cA A n0 s0 QM σi RX9 X) : ∀ (σ : Sg) (v1 : Option Nat) (v3 : Int) (v4 : Option Nat) (g1 : tyV σ 10 v1) (g3 : rng v3) (g4 : tyV σ 2 v4), w_X9_nextChannel_54 th Q X σ v1 v3 v4 → RG σ → TY σ → Ext σi σ → kO σ th 9 → JJ p l e R s m args below meth c 5 D cA A n0 s0 QM σ 54 [(0, .ref th), (1, va_rf v1), (3, .int (i32 v3)), (4, va_rf v4)] [] := by
  intro σ v1 v3 v4 g1 g3 g4 h hGσ hYσ hE hth H locs ls hH hl hc
  have B := K.1
  have hl9 := K.2.2.2.2.2.2
  unfold w_X9_nextChannel_54 at h
  refine lv_aload_nQ B.1 B.2.1 dX9_nextChannel_54 rfl (lv_at hl 1 rfl) ?_
  refine lv_iload_n B.1 B.2.1 dX9_nextChannel_55 rfl (lv_at hl 2 rfl) ?_
  refine lv_iconst (v := i32 1) B.1 B.2.1 dX9_nextChannel_56 (by decide) ?_
  obtain ⟨q1, h⟩ := h
  refine lv_iadd B.1 B.2.1 dX9_nextChannel_57 ?_
  rw [i32_add]
  refine lv_aload_nQ B.1 B.2.1 dX9_nextChannel_58 rfl (lv_at hl 1 rfl) ?_
  obtain ⟨a17, ea17, h⟩ := h
  have ka17 : kO σ a17 10 := g1 a17 ea17
  have h := h ka17
  refine W.eq (g2 := F0 m 59 ls [.ref a17, .int (i32 (v3 + 1)), va_rf v1]) (by rw [ea17]; rfl) ?_
  refine f_geti B hH ka17 (by decide) rfl wu_X10 12 (by decide) wf_X9_194 rfl rfl dX9_nextChannel_59 ?_
  obtain ⟨q2, h⟩ := h
  refine lv_irem B.1 B.2.1 dX9_nextChannel_62 (i32_ne0 (hGσ _ _) q2) ?_
  refine W.eq (g2 := F0 m 63 ls [.int (i32 (remI (v3 + 1) (gI σ a17 12))), va_rf v1]) (by unfold remI; rw [i32_self]) ?_
  obtain ⟨σ18, eσ18⟩ : ∃ z, z = pI σ a17 13 (remI (v3 + 1) (gI σ a17 12)) := ⟨_, rfl⟩
  have h := h σ18 eσ18
  refine W.eq (g2 := F0 m 63 ls [.int (i32 (remI (v3 + 1) (gI σ a17 12))), .ref a17]) (by rw [ea17]; rfl) ?_
  refine f_puti B hH ka17 (by decide) rfl wu_X10 tyX10 tyX10_ok nmX10 13 (by decide) wf_X9_347 rfl (ty := .int) rfl rfl rfl rfl rfl dX9_nextChannel_63 (fun H locs hH => ?_)
  have hH : Hd D cA A s (pI σ a17 13 (remI (v3 + 1) (gI σ a17 12))) H locs := hH
  rw [← eσ18] at hH
  have hGσ18 : RG σ18 := by rw [eσ18]; exact hGσ.pI (rng_remI _ _)
  have hYσ18 : TY σ18 := by rw [eσ18]; exact hYσ.pI
  have xσ18 : Ext σ σ18 := by rw [eσ18]; exact Ext.pI
  have hc : CB n0 s0 σ18 := by rw [eσ18]; exact hc
  rw [show gc σ = gc σ18 by rw [eσ18]; try rfl, show gs σ = gs σ18 by rw [eσ18]; try rfl]
  refine lv_aloadQ B.1 B.2.1 dX9_nextChannel_66 (lv_at hl 3 rfl) ?_
  exact hQ _ _ _ _ _ _ (g4.up xσ18) dX9_nextChannel_68 hH hc h hGσ18 hYσ18 (hE.trans xσ18)
set_option maxRecDepth 20000 in
theorem a_X9_nextChannel_46 {Q : Sg → Option Nat → Prop} {X : Sg → String → Prop} {th : Nat} (K : MD l R p s m args c cX9_nextChannel 5 RX9 D cA tys A n0 s0 0 0 []) (hQ : CQA p l e R s m args below meth c cX9_nextChannel D cA A n0 s0 QM σi 2 Q) (hX : CX p l e R s m args below meth c 5 D cA A n0 s0 QM σi X) (hTh : CT p l e R s m args below meth c cX9_nextChannel 5 D cA A n0 s0 QM σi RX9 X) {K2 : Sg → Option Nat → Int → Prop} (hK2 : ∀ (σ : Sg) (v1 : Option Nat) (v2 : Int) (g1 : tyV σ 10 v1) (g2 : rng v2), K2 σ v1 v2 → RG σ → TY σ → Ext σi σ → kO σ th 9 → JJ p l e R s m args below meth c 5 D cA A n0 s0 QM σ 2 [(0, .ref th), (1, va_rf v1), (2, .int (i32 v2))] []) : ∀ (σ : Sg) (v1 : Option Nat) (v2 : Int) (v3 : Int) (v4 : Option Nat) (g1 : tyV σ 10 v1) (g2 : rng v2) (g3 : rng v3) (g4 : tyV σ 2 v4), w_X9_nextChannel_46 th K2 Q X σ v1 v2 v3 v4 → RG σ → TY σ → Ext σi σ → kO σ th 9 → JJ p l e R s m args below meth c 5 D cA A n0 s0 QM σ 46 [(0, .ref th), (1, va_rf v1), (2, .int (i32 v2)), (3, .int (i32 v3)), (4, va_rf v4)] [] := by
  intro σ v1 v2 v3 v4 g1 g2 g3 g4 h hGσ hYσ hE hth H locs ls hH hl hc
  have B := K.1
  have hl9 := K.2.2.2.2.2.2
  unfold w_X9_nextChannel_46 at h
  refine lv_aloadQ B.1 B.2.1 dX9_nextChannel_46 (lv_at hl 4 rfl) ?_
  obtain ⟨a19, ea19, h⟩ := h
  have ka19 : kO σ a19 2 := g4 a19 ea19
  have h := h ka19
  refine W.eq (g2 := F0 m 48 ls [.ref a19]) (by rw [ea19]; rfl) ?_
  refine f_geti B hH ka19 (by decide) rfl wu_X2 5 (by decide) wf_X9_298 rfl rfl dX9_nextChannel_48 ?_
  refine lv_if_ne (tgt := 69) B.1 B.2.1 dX9_nextChannel_51 (by decide) (fun h9 => ?_) (fun h9 => ?_)
  · rw [if_pos (fun q => h9 ((z_eq (hGσ _ _)).mpr q))] at h
    exact a_X9_nextChannel_69 K hQ hX hTh hK2 _ _ _ g1 g2 h hGσ hYσ hE hth _ _ _ hH (lv_sub (l' := [(0, .ref th), (1, va_rf v1), (2, .int (i32 v2))]) hl [0, 1, 2] rfl) hc
  · rw [if_neg (fun q => q ((z_eq (hGσ _ _)).mp h9))] at h
    exact a_X9_nextChannel_54 K hQ hX hTh _ _ _ _ g1 g3 g4 h hGσ hYσ hE hth _ _ _ hH (lv_sub (l' := [(0, .ref th), (1, va_rf v1), (3, .int (i32 v3)), (4, va_rf v4)]) hl [0, 1, 3, 4] rfl) hc
set_option maxRecDepth 20000 in
theorem a_X9_nextChannel_10 {Q : Sg → Option Nat → Prop} {X : Sg → String → Prop} {th : Nat} (K : MD l R p s m args c cX9_nextChannel 5 RX9 D cA tys A n0 s0 0 0 []) (hQ : CQA p l e R s m args below meth c cX9_nextChannel D cA A n0 s0 QM σi 2 Q) (hX : CX p l e R s m args below meth c 5 D cA A n0 s0 QM σi X) (hTh : CT p l e R s m args below meth c cX9_nextChannel 5 D cA A n0 s0 QM σi RX9 X) {K2 : Sg → Option Nat → Int → Prop} (hK2 : ∀ (σ : Sg) (v1 : Option Nat) (v2 : Int) (g1 : tyV σ 10 v1) (g2 : rng v2), K2 σ v1 v2 → RG σ → TY σ → Ext σi σ → kO σ th 9 → JJ p l e R s m args below meth c 5 D cA A n0 s0 QM σ 2 [(0, .ref th), (1, va_rf v1), (2, .int (i32 v2))] []) : ∀ (σ : Sg) (v1 : Option Nat) (v2 : Int) (g1 : tyV σ 10 v1) (g2 : rng v2), w_X9_nextChannel_10 th K2 Q X σ v1 v2 → RG σ → TY σ → Ext σi σ → kO σ th 9 → JJ p l e R s m args below meth c 5 D cA A n0 s0 QM σ 10 [(0, .ref th), (1, va_rf v1), (2, .int (i32 v2))] [] := by
  intro σ v1 v2 g1 g2 h hGσ hYσ hE hth H locs ls hH hl hc
  have B := K.1
  have hl9 := K.2.2.2.2.2.2
  unfold w_X9_nextChannel_10 at h
  refine lv_aload_nQ B.1 B.2.1 dX9_nextChannel_10 rfl (lv_at hl 1 rfl) ?_
  obtain ⟨a20, ea20, h⟩ := h
  have ka20 : kO σ a20 10 := g1 a20 ea20
  have h := h ka20
  refine W.eq (g2 := F0 m 11 ls [.ref a20]) (by rw [ea20]; rfl) ?_
  refine f_geti B hH ka20 (by decide) rfl wu_X10 13 (by decide) wf_X9_347 rfl rfl dX9_nextChannel_11 ?_
  refine lv_iload_n B.1 B.2.1 dX9_nextChannel_14 rfl (lv_at hl 2 rfl) ?_
  obtain ⟨q1, h⟩ := h
  refine lv_iadd B.1 B.2.1 dX9_nextChannel_15 ?_
  rw [i32_add]
  refine lv_aload_nQ B.1 B.2.1 dX9_nextChannel_16 rfl (lv_at hl 1 rfl) ?_
  refine W.eq (g2 := F0 m 17 ls [.ref a20, .int (i32 (gI σ a20 13 + v2))]) (by rw [ea20]; rfl) ?_
  refine f_geti B hH ka20 (by decide) rfl wu_X10 12 (by decide) wf_X9_194 rfl rfl dX9_nextChannel_17 ?_
  obtain ⟨q2, h⟩ := h
  refine lv_irem B.1 B.2.1 dX9_nextChannel_20 (i32_ne0 (hGσ _ _) q2) ?_
  refine W.eq (g2 := F0 m 21 ls [.int (i32 (remI (gI σ a20 13 + v2) (gI σ a20 12)))]) (by unfold remI; rw [i32_self]) ?_
  refine lv_istore_n (lv' := [(3, .int (i32 (remI (gI σ a20 13 + v2) (gI σ a20 12)))), (0, .ref th), (1, va_rf v1), (2, .int (i32 v2))]) B.1 B.2.1 dX9_nextChannel_21 rfl hl (by decide) rfl (fun ls hl => ?_)
  refine lv_aload_n B.1 B.2.1 dX9_nextChannel_22 rfl (lv_at hl 1 rfl) ?_
  refine f_getp B hH hth (by decide) rfl wu_X9 4 (by decide) wf_X9_26 rfl rfl dX9_nextChannel_23 ?_
  refine lv_aload_nQ B.1 B.2.1 dX9_nextChannel_26 rfl (lv_at hl 2 rfl) ?_
  refine W.eq (g2 := F0 m 27 ls [.ref a20, va_rf (gP σ th 4)]) (by rw [ea20]; rfl) ?_
  refine f_geti B hH ka20 (by decide) rfl wu_X10 11 (by decide) wf_X9_178 rfl rfl dX9_nextChannel_27 ?_
  refine lv_iload_n B.1 B.2.1 dX9_nextChannel_30 rfl (lv_at hl 0 rfl) ?_
  obtain ⟨q3, h⟩ := h
  refine lv_iadd B.1 B.2.1 dX9_nextChannel_31 ?_
  rw [i32_add]
  obtain ⟨a21, ea21, h⟩ := h
  have ka21 : kO σ a21 112 := (hYσ.get hth (by decide)) a21 ea21
  have h := h ka21
  obtain ⟨q4, h⟩ := h
  refine W.eq (g2 := F0 m 32 ls [.int (i32 (gI σ a20 11 + (remI (gI σ a20 13 + v2) (gI σ a20 12)))), .ref a21]) (by rw [ea21]; rfl) ?_
  refine y_aald B hH (t0 := 5) ka21 (by decide) K.2.1.2.2.1 q4 (hYσ.2 _) dX9_nextChannel_32 ?_
  refine lv_astoreQ (lv' := [(4, va_rf (gP σ a21 (gI σ a20 11 + (remI (gI σ a20 13 + v2) (gI σ a20 12))).toNat)), (3, .int (i32 (remI (gI σ a20 13 + v2) (gI σ a20 12)))), (0, .ref th), (1, va_rf v1), (2, .int (i32 v2))]) B.1 B.2.1 dX9_nextChannel_33 hl (by decide) rfl (fun ls hl => ?_)
  refine lv_aloadQ B.1 B.2.1 dX9_nextChannel_35 (lv_at hl 0 rfl) ?_
  obtain ⟨a22, ea22, h⟩ := h
  have ka22 : kO σ a22 2 := (hYσ.get ka21 rfl) a22 ea22
  have h := h ka22
  refine W.eq (g2 := F0 m 37 ls [.ref a22]) (by rw [ea22]; rfl) ?_
  refine f_getp B hH ka22 (by decide) rfl wu_X2 0 (by decide) wf_X9_148 rfl rfl dX9_nextChannel_37 ?_
  obtain ⟨a23, ea23, h⟩ := h
  have ka23 : kO σ a23 1 := (hYσ.get ka22 (by decide)) a23 ea23
  have h := h ka23
  refine W.eq (g2 := F0 m 40 ls [.ref a23]) (by rw [ea23]; rfl) ?_
  refine f_geti B hH ka23 (by decide) rfl wu_X1 2 (by decide) wf_X9_338 rfl rfl dX9_nextChannel_40 ?_
  refine lv_if_le (tgt := 69) B.1 B.2.1 dX9_nextChannel_43 (by decide) (fun h9 => ?_) (fun h9 => ?_)
  · rw [if_pos ((z_le (hGσ _ _)).mp h9)] at h
    exact a_X9_nextChannel_69 K hQ hX hTh hK2 _ _ _ g1 g2 h hGσ hYσ hE hth _ _ _ hH (lv_sub (l' := [(0, .ref th), (1, va_rf v1), (2, .int (i32 v2))]) hl [2, 3, 4] rfl) hc
  · rw [if_neg (fun q => h9 ((z_le (hGσ _ _)).mpr q))] at h
    exact a_X9_nextChannel_46 K hQ hX hTh hK2 _ _ _ _ _ g1 g2 (rng_remI _ _) (hYσ.get ka21 rfl) h hGσ hYσ hE hth _ _ _ hH (lv_sub (l' := [(0, .ref th), (1, va_rf v1), (2, .int (i32 v2)), (3, .int (i32 (remI (gI σ a20 13 + v2) (gI σ a20 12)))), (4, va_rf (gP σ a21 (gI σ a20 11 + (remI (gI σ a20 13 + v2) (gI σ a20 12))).toNat))]) hl [2, 3, 4, 1, 0] rfl) hc
set_option maxRecDepth 20000 in
theorem a_X9_nextChannel_2 {Q : Sg → Option Nat → Prop} {X : Sg → String → Prop} {th : Nat} (K : MD l R p s m args c cX9_nextChannel 5 RX9 D cA tys A n0 s0 0 0 []) (hQ : CQA p l e R s m args below meth c cX9_nextChannel D cA A n0 s0 QM σi 2 Q) (hX : CX p l e R s m args below meth c 5 D cA A n0 s0 QM σi X) (hTh : CT p l e R s m args below meth c cX9_nextChannel 5 D cA A n0 s0 QM σi RX9 X) {K2 : Sg → Option Nat → Int → Prop} (hK2 : ∀ (σ : Sg) (v1 : Option Nat) (v2 : Int) (g1 : tyV σ 10 v1) (g2 : rng v2), K2 σ v1 v2 → RG σ → TY σ → Ext σi σ → kO σ th 9 → JJ p l e R s m args below meth c 5 D cA A n0 s0 QM σ 2 [(0, .ref th), (1, va_rf v1), (2, .int (i32 v2))] []) : ∀ (σ : Sg) (v1 : Option Nat) (v2 : Int) (g1 : tyV σ 10 v1) (g2 : rng v2), w_X9_nextChannel_2 th K2 Q X σ v1 v2 → RG σ → TY σ → Ext σi σ → kO σ th 9 → JJ p l e R s m args below meth c 5 D cA A n0 s0 QM σ 2 [(0, .ref th), (1, va_rf v1), (2, .int (i32 v2))] [] := by
  intro σ v1 v2 g1 g2 h hGσ hYσ hE hth H locs ls hH hl hc
  have B := K.1
  have hl9 := K.2.2.2.2.2.2
  unfold w_X9_nextChannel_2 at h
  refine lv_iload_n B.1 B.2.1 dX9_nextChannel_2 rfl (lv_at hl 2 rfl) ?_
  refine lv_aload_nQ B.1 B.2.1 dX9_nextChannel_3 rfl (lv_at hl 1 rfl) ?_
  obtain ⟨a24, ea24, h⟩ := h
  have ka24 : kO σ a24 10 := g1 a24 ea24
  have h := h ka24
  refine W.eq (g2 := F0 m 4 ls [.ref a24, .int (i32 v2)]) (by rw [ea24]; rfl) ?_
  refine f_geti B hH ka24 (by decide) rfl wu_X10 12 (by decide) wf_X9_194 rfl rfl dX9_nextChannel_4 ?_
  refine lv_icmp_ge (tgt := 75) B.1 B.2.1 dX9_nextChannel_7 (by decide) (fun h9 => ?_) (fun h9 => ?_)
  · rw [if_pos ((i32_le (hGσ _ _) g2).mp h9)] at h
    exact a_X9_nextChannel_75 K hQ hX hTh _ h hGσ hYσ hE hth _ _ _ hH (lv_sub (l' := [(0, .ref th)]) hl [0] rfl) hc
  · rw [if_neg (fun q => h9 ((i32_le (hGσ _ _) g2).mpr q))] at h
    exact a_X9_nextChannel_10 K hQ hX hTh hK2 _ _ _ g1 g2 h hGσ hYσ hE hth _ _ _ hH (lv_sub (l' := [(0, .ref th), (1, va_rf v1), (2, .int (i32 v2))]) hl [0, 1, 2] rfl) hc
theorem al_X9_nextChannel_2 {Q : Sg → Option Nat → Prop} {X : Sg → String → Prop} {th : Nat} (K : MD l R p s m args c cX9_nextChannel 5 RX9 D cA tys A n0 s0 0 0 []) (hQ : CQA p l e R s m args below meth c cX9_nextChannel D cA A n0 s0 QM σi 2 Q) (hX : CX p l e R s m args below meth c 5 D cA A n0 s0 QM σi X) (hTh : CT p l e R s m args below meth c cX9_nextChannel 5 D cA A n0 s0 QM σi RX9 X) : ∀ (n : Nat), ∀ (σ : Sg) (v1 : Option Nat) (v2 : Int) (g1 : tyV σ 10 v1) (g2 : rng v2), wl_X9_nextChannel_2 th Q X n σ v1 v2 → RG σ → TY σ → Ext σi σ → kO σ th 9 → JJ p l e R s m args below meth c 5 D cA A n0 s0 QM σ 2 [(0, .ref th), (1, va_rf v1), (2, .int (i32 v2))] [] := by
  intro n
  induction n with
  | zero => intro σ v1 v2 g1 g2 h; exact h.elim
  | succ n ih => exact fun σ v1 v2 g1 g2 h => a_X9_nextChannel_2 K hQ hX hTh ih σ v1 v2 g1 g2 h
set_option maxRecDepth 20000 in
theorem a_X9_nextChannel_0 {Q : Sg → Option Nat → Prop} {X : Sg → String → Prop} {th : Nat} (K : MD l R p s m args c cX9_nextChannel 5 RX9 D cA tys A n0 s0 0 0 []) (hQ : CQA p l e R s m args below meth c cX9_nextChannel D cA A n0 s0 QM σi 2 Q) (hX : CX p l e R s m args below meth c 5 D cA A n0 s0 QM σi X) (hTh : CT p l e R s m args below meth c cX9_nextChannel 5 D cA A n0 s0 QM σi RX9 X) : ∀ (σ : Sg) (v1 : Option Nat) (g1 : tyV σ 10 v1), w_X9_nextChannel_0 th Q X σ v1 → RG σ → TY σ → Ext σi σ → kO σ th 9 → JJ p l e R s m args below meth c 5 D cA A n0 s0 QM σ 0 [(0, .ref th), (1, va_rf v1)] [] := by
  intro σ v1 g1 h hGσ hYσ hE hth H locs ls hH hl hc
  have B := K.1
  have hl9 := K.2.2.2.2.2.2
  unfold w_X9_nextChannel_0 at h
  refine lv_iconst (v := i32 0) B.1 B.2.1 dX9_nextChannel_0 (by decide) ?_
  refine lv_istore_n (lv' := [(2, .int (i32 0)), (0, .ref th), (1, va_rf v1)]) B.1 B.2.1 dX9_nextChannel_1 rfl hl (by decide) (by generalize v1 = w9; cases w9 <;> rfl) (fun ls hl => ?_)
  obtain ⟨n9, h⟩ := h
  exact al_X9_nextChannel_2 K hQ hX hTh n9 _ _ _ g1 (by unfold rng; omega) h hGσ hYσ hE hth _ _ _ hH (lv_sub (l' := [(0, .ref th), (1, va_rf v1), (2, .int (i32 0))]) hl [1, 2, 0] rfl) hc
theorem ok_X9_nextChannel (hl0 : l.stackTraces = false) (hT : TyC cA tys) {Q : Sg → Option Nat → Prop} {X : Sg → String → Prop} (σ : Sg) (th : Nat) (v1 : Option Nat) (g1 : tyV σ 10 v1) (hth : kO σ th 9) (hG : RG σ) (hY : TY σ) (h : wp_X9_nextChannel th v1 σ Q X) : Ok l D cA tys A yX9_nextChannel (.code yX9_nextChannel cX9_nextChannel 5 (some (.object "StreamHouse$Channel"))) 0 0 [.ref th, va_rf v1] σ (QcA σ 2 Q) (QxC σ X) := by
  unfold wp_X9_nextChannel at h
  exact oc_A hl0 (by decide) (by cases v1 <;> exact Nat.le_of_ble_eq_true rfl) hT (fun p e R s m args below meth c K hQ hX hTh H locs ls hH hl hc => a_X9_nextChannel_0 K hQ hX hTh σ v1 g1 h hG hY (Ext.rfl' σ) hth H locs ls hH (lv_sub (l' := [(0, .ref th), (1, va_rf v1)]) hl [0, 1] (by cases v1 <;> rfl)) hc)
end C85

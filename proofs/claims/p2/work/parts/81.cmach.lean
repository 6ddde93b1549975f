section C81
variable {p : Program} {l : Launch} {e : Env} {R : Room} {s : State} {m : MethodId} {args : Array Value} {below : List Frame} {meth : Method} {c : Code} {D : va_G} {cA : Nat → ClassId} {tys : List (ClassId × FieldType)} {A : Nat → Prop} {n0 s0 : Nat} {QM : State → Prop} {σi : Sg}
theorem dX12_needWholeRun_0 : decode cX12_needWholeRun 0 = .ok (.aload_n 0, 1) := by decide +kernel
theorem dX12_needWholeRun_1 : decode cX12_needWholeRun 1 = .ok (.getfield 49, 3) := by decide +kernel
theorem dX12_needWholeRun_4 : decode cX12_needWholeRun 4 = .ok (.getfield 66, 3) := by decide +kernel
theorem dX12_needWholeRun_7 : decode cX12_needWholeRun 7 = .ok (.getfield 70, 3) := by decide +kernel
theorem dX12_needWholeRun_10 : decode cX12_needWholeRun 10 = .ok (.ifCond .ne 13, 3) := by decide +kernel
theorem dX12_needWholeRun_13 : decode cX12_needWholeRun 13 = .ok (.aload_n 0, 1) := by decide +kernel
theorem dX12_needWholeRun_14 : decode cX12_needWholeRun 14 = .ok (.getfield 49, 3) := by decide +kernel
theorem dX12_needWholeRun_17 : decode cX12_needWholeRun 17 = .ok (.getfield 143, 3) := by decide +kernel
theorem dX12_needWholeRun_20 : decode cX12_needWholeRun 20 = .ok (.ifCond .eq 11, 3) := by decide +kernel
theorem dX12_needWholeRun_23 : decode cX12_needWholeRun 23 = .ok (.new 76, 3) := by decide +kernel
theorem dX12_needWholeRun_26 : decode cX12_needWholeRun 26 = .ok (.dup, 1) := by decide +kernel
theorem dX12_needWholeRun_27 : decode cX12_needWholeRun 27 = .ok (.invokespecial 78, 3) := by decide +kernel
theorem dX12_needWholeRun_30 : decode cX12_needWholeRun 30 = .ok (.athrow, 1) := by decide +kernel
theorem dX12_needWholeRun_31 : decode cX12_needWholeRun 31 = .ok (.return_, 1) := by decide +kernel
set_option maxRecDepth 20000 in
theorem a_X12_needWholeRun_23 {Q : Sg → Unit → Prop} {X : Sg → String → Prop} {th : Nat} (K : MD l R p s m args c cX12_needWholeRun 1 RX12 D cA tys A n0 s0 6 90 []) (hQ : CQV p l e R s m args below meth c cX12_needWholeRun D cA A n0 s0 QM σi Q) (hX : CX p l e R s m args below meth c 1 D cA A n0 s0 QM σi X) (hTh : CT p l e R s m args below meth c cX12_needWholeRun 1 D cA A n0 s0 QM σi RX12 X) : ∀ (σ : Sg), w_X12_needWholeRun_23 th Q X σ → RG σ → TY σ → Ext σi σ → kO σ th 12 → JJ p l e R s m args below meth c 1 D cA A n0 s0 QM σ 23 [(0, .ref th)] [] := by
  intro σ h hGσ hYσ hE hth H locs ls hH hl hc
  have B := K.1
  have hl9 := K.2.2.2.2.2.2
  unfold w_X12_needWholeRun_23 at h
  obtain ⟨q9, h⟩ := h
  exact hTh _ _ _ _ _ _ _ _ _ tw_X12_76_78 dX12_needWholeRun_23 dX12_needWholeRun_26 dX12_needWholeRun_27 dX12_needWholeRun_30 hH hl hc q9 h hGσ hYσ hE (by have := K.2.2.2.1; omega) (by have := K.2.2.2.2.1; omega)
set_option maxRecDepth 20000 in
theorem a_X12_needWholeRun_31 {Q : Sg → Unit → Prop} {X : Sg → String → Prop} {th : Nat} (K : MD l R p s m args c cX12_needWholeRun 1 RX12 D cA tys A n0 s0 6 90 []) (hQ : CQV p l e R s m args below meth c cX12_needWholeRun D cA A n0 s0 QM σi Q) (hX : CX p l e R s m args below meth c 1 D cA A n0 s0 QM σi X) (hTh : CT p l e R s m args below meth c cX12_needWholeRun 1 D cA A n0 s0 QM σi RX12 X) : ∀ (σ : Sg), w_X12_needWholeRun_31 th Q X σ → RG σ → TY σ → Ext σi σ → kO σ th 12 → JJ p l e R s m args below meth c 1 D cA A n0 s0 QM σ 31 [(0, .ref th)] [] := by
  intro σ h hGσ hYσ hE hth H locs ls hH hl hc
  have B := K.1
  have hl9 := K.2.2.2.2.2.2
  unfold w_X12_needWholeRun_31 at h
  exact hQ _ _ _ _ _ dX12_needWholeRun_31 hH hc h hGσ hYσ hE
set_option maxRecDepth 20000 in
theorem a_X12_needWholeRun_13 {Q : Sg → Unit → Prop} {X : Sg → String → Prop} {th : Nat} (K : MD l R p s m args c cX12_needWholeRun 1 RX12 D cA tys A n0 s0 6 90 []) (hQ : CQV p l e R s m args below meth c cX12_needWholeRun D cA A n0 s0 QM σi Q) (hX : CX p l e R s m args below meth c 1 D cA A n0 s0 QM σi X) (hTh : CT p l e R s m args below meth c cX12_needWholeRun 1 D cA A n0 s0 QM σi RX12 X) : ∀ (σ : Sg), w_X12_needWholeRun_13 th Q X σ → RG σ → TY σ → Ext σi σ → kO σ th 12 → JJ p l e R s m args below meth c 1 D cA A n0 s0 QM σ 13 [(0, .ref th)] [] := by
  intro σ h hGσ hYσ hE hth H locs ls hH hl hc
  have B := K.1
  have hl9 := K.2.2.2.2.2.2
  unfold w_X12_needWholeRun_13 at h
  refine lv_aload_n B.1 B.2.1 dX12_needWholeRun_13 rfl (lv_at hl 0 rfl) ?_
  refine f_getp B hH hth (by decide) rfl wu_X12 7 (by decide) wf_X12_49 rfl rfl dX12_needWholeRun_14 ?_
  obtain ⟨a7, ea7, h⟩ := h
  have ka7 : kO σ a7 9 := (hYσ.get hth (by decide)) a7 ea7
  have h := h ka7
  refine W.eq (g2 := F0 m 17 ls [.ref a7]) (by rw [ea7]; rfl) ?_
  refine f_geti B hH ka7 (by decide) rfl wu_X9 16 (by decide) wf_X12_143 rfl rfl dX12_needWholeRun_17 ?_
  refine lv_if_eq (tgt := 31) B.1 B.2.1 dX12_needWholeRun_20 (by decide) (fun h9 => ?_) (fun h9 => ?_)
  · rw [if_pos ((z_eq (hGσ _ _)).mp h9)] at h
    exact a_X12_needWholeRun_31 K hQ hX hTh _ h hGσ hYσ hE hth _ _ _ hH (lv_sub (l' := [(0, .ref th)]) hl [0] rfl) hc
  · rw [if_neg (fun q => h9 ((z_eq (hGσ _ _)).mpr q))] at h
    exact a_X12_needWholeRun_23 K hQ hX hTh _ h hGσ hYσ hE hth _ _ _ hH (lv_sub (l' := [(0, .ref th)]) hl [0] rfl) hc
set_option maxRecDepth 20000 in
theorem a_X12_needWholeRun_0 {Q : Sg → Unit → Prop} {X : Sg → String → Prop} {th : Nat} (K : MD l R p s m args c cX12_needWholeRun 1 RX12 D cA tys A n0 s0 6 90 []) (hQ : CQV p l e R s m args below meth c cX12_needWholeRun D cA A n0 s0 QM σi Q) (hX : CX p l e R s m args below meth c 1 D cA A n0 s0 QM σi X) (hTh : CT p l e R s m args below meth c cX12_needWholeRun 1 D cA A n0 s0 QM σi RX12 X) : ∀ (σ : Sg), w_X12_needWholeRun_0 th Q X σ → RG σ → TY σ → Ext σi σ → kO σ th 12 → JJ p l e R s m args below meth c 1 D cA A n0 s0 QM σ 0 [(0, .ref th)] [] := by
  intro σ h hGσ hYσ hE hth H locs ls hH hl hc
  have B := K.1
  have hl9 := K.2.2.2.2.2.2
  unfold w_X12_needWholeRun_0 at h
  refine lv_aload_n B.1 B.2.1 dX12_needWholeRun_0 rfl (lv_at hl 0 rfl) ?_
  refine f_getp B hH hth (by decide) rfl wu_X12 7 (by decide) wf_X12_49 rfl rfl dX12_needWholeRun_1 ?_
  obtain ⟨a8, ea8, h⟩ := h
  have ka8 : kO σ a8 9 := (hYσ.get hth (by decide)) a8 ea8
  have h := h ka8
  refine W.eq (g2 := F0 m 4 ls [.ref a8]) (by rw [ea8]; rfl) ?_
  refine f_getp B hH ka8 (by decide) rfl wu_X9 2 (by decide) wf_X12_66 rfl rfl dX12_needWholeRun_4 ?_
  obtain ⟨a9, ea9, h⟩ := h
  have ka9 : kO σ a9 3 := (hYσ.get ka8 (by decide)) a9 ea9
  have h := h ka9
  refine W.eq (g2 := F0 m 7 ls [.ref a9]) (by rw [ea9]; rfl) ?_
  refine f_geti B hH ka9 (by decide) rfl wu_X3 9 (by decide) wf_X12_70 rfl rfl dX12_needWholeRun_7 ?_
  refine lv_if_ne (tgt := 23) B.1 B.2.1 dX12_needWholeRun_10 (by decide) (fun h9 => ?_) (fun h9 => ?_)
  · rw [if_pos (fun q => h9 ((z_eq (hGσ _ _)).mpr q))] at h
    exact a_X12_needWholeRun_23 K hQ hX hTh _ h hGσ hYσ hE hth _ _ _ hH (lv_sub (l' := [(0, .ref th)]) hl [0] rfl) hc
  · rw [if_neg (fun q => q ((z_eq (hGσ _ _)).mp h9))] at h
    exact a_X12_needWholeRun_13 K hQ hX hTh _ h hGσ hYσ hE hth _ _ _ hH (lv_sub (l' := [(0, .ref th)]) hl [0] rfl) hc
theorem ok_X12_needWholeRun (hl0 : l.stackTraces = false) (hT : TyC cA tys) {Q : Sg → Unit → Prop} {X : Sg → String → Prop} (σ : Sg) (th : Nat) (hth : kO σ th 12) (hG : RG σ) (hY : TY σ) (h : wp_X12_needWholeRun th σ Q X) : Ok l D cA tys A yX12_needWholeRun (.code yX12_needWholeRun cX12_needWholeRun 1 none) 6 90 [.ref th] σ (QcV σ Q) (QxC σ X) := by
  unfold wp_X12_needWholeRun at h
  exact oc_V hl0 (by decide) (by exact Nat.le_of_ble_eq_true rfl) hT (fun p e R s m args below meth c K hQ hX hTh hin9 H locs ls hH hl hc => a_X12_needWholeRun_0 K hQ hX hTh σ h hG hY (Ext.rfl' σ) hth H locs ls hH (lv_sub (l' := [(0, .ref th)]) hl [0] rfl) hc)
theorem dX2_ofChannel_0 : decode cX2_ofChannel 0 = .ok (.iload_n 1, 1) := by decide +kernel
theorem dX2_ofChannel_1 : decode cX2_ofChannel 1 = .ok (.tableswitch 74 0 4 #[35, 41, 47, 56, 61], 35) := by decide +kernel
theorem dX2_ofChannel_36 : decode cX2_ofChannel 36 = .ok (.aload_n 0, 1) := by decide +kernel
theorem dX2_ofChannel_37 : decode cX2_ofChannel 37 = .ok (.getfield 18, 3) := by decide +kernel
theorem dX2_ofChannel_40 : decode cX2_ofChannel 40 = .ok (.i2l, 1) := by decide +kernel
theorem dX2_ofChannel_41 : decode cX2_ofChannel 41 = .ok (.lreturn, 1) := by decide +kernel
theorem dX2_ofChannel_42 : decode cX2_ofChannel 42 = .ok (.aload_n 0, 1) := by decide +kernel
theorem dX2_ofChannel_43 : decode cX2_ofChannel 43 = .ok (.getfield 22, 3) := by decide +kernel
theorem dX2_ofChannel_46 : decode cX2_ofChannel 46 = .ok (.i2l, 1) := by decide +kernel
theorem dX2_ofChannel_47 : decode cX2_ofChannel 47 = .ok (.lreturn, 1) := by decide +kernel
theorem dX2_ofChannel_48 : decode cX2_ofChannel 48 = .ok (.aload_n 0, 1) := by decide +kernel
theorem dX2_ofChannel_49 : decode cX2_ofChannel 49 = .ok (.getfield 12, 3) := by decide +kernel
theorem dX2_ofChannel_52 : decode cX2_ofChannel 52 = .ok (.getfield 44, 3) := by decide +kernel
theorem dX2_ofChannel_55 : decode cX2_ofChannel 55 = .ok (.i2l, 1) := by decide +kernel
theorem dX2_ofChannel_56 : decode cX2_ofChannel 56 = .ok (.lreturn, 1) := by decide +kernel
theorem dX2_ofChannel_57 : decode cX2_ofChannel 57 = .ok (.aload_n 0, 1) := by decide +kernel
theorem dX2_ofChannel_58 : decode cX2_ofChannel 58 = .ok (.getfield 30, 3) := by decide +kernel
theorem dX2_ofChannel_61 : decode cX2_ofChannel 61 = .ok (.lreturn, 1) := by decide +kernel
theorem dX2_ofChannel_62 : decode cX2_ofChannel 62 = .ok (.aload_n 0, 1) := by decide +kernel
theorem dX2_ofChannel_63 : decode cX2_ofChannel 63 = .ok (.getfield 34, 3) := by decide +kernel
theorem dX2_ofChannel_66 : decode cX2_ofChannel 66 = .ok (.ifCond .eq 7, 3) := by decide +kernel
theorem dX2_ofChannel_69 : decode cX2_ofChannel 69 = .ok (.lconst 1, 1) := by decide +kernel
theorem dX2_ofChannel_70 : decode cX2_ofChannel 70 = .ok (.goto 4, 3) := by decide +kernel
theorem dX2_ofChannel_73 : decode cX2_ofChannel 73 = .ok (.lconst 0, 1) := by decide +kernel
theorem dX2_ofChannel_74 : decode cX2_ofChannel 74 = .ok (.lreturn, 1) := by decide +kernel
theorem dX2_ofChannel_75 : decode cX2_ofChannel 75 = .ok (.aload_n 0, 1) := by decide +kernel
theorem dX2_ofChannel_76 : decode cX2_ofChannel 76 = .ok (.getfield 38, 3) := by decide +kernel
theorem dX2_ofChannel_79 : decode cX2_ofChannel 79 = .ok (.i2l, 1) := by decide +kernel
theorem dX2_ofChannel_80 : decode cX2_ofChannel 80 = .ok (.lreturn, 1) := by decide +kernel
set_option maxRecDepth 20000 in
theorem a_X2_ofChannel_36 {Q : Sg → Int64 → Prop} {X : Sg → String → Prop} {th : Nat} (K : MD l R p s m args c cX2_ofChannel 2 RX2 D cA tys A n0 s0 0 0 []) (hQ : CQJ p l e R s m args below meth c cX2_ofChannel D cA A n0 s0 QM σi Q) (hX : CX p l e R s m args below meth c 2 D cA A n0 s0 QM σi X) (hTh : CT p l e R s m args below meth c cX2_ofChannel 2 D cA A n0 s0 QM σi RX2 X) : ∀ (σ : Sg), w_X2_ofChannel_36 th Q X σ → RG σ → TY σ → Ext σi σ → kO σ th 2 → JJ p l e R s m args below meth c 2 D cA A n0 s0 QM σ 36 [(0, .ref th)] [] := by
  intro σ h hGσ hYσ hE hth H locs ls hH hl hc
  have B := K.1
  have hl9 := K.2.2.2.2.2.2
  unfold w_X2_ofChannel_36 at h
  refine lv_aload_n B.1 B.2.1 dX2_ofChannel_36 rfl (lv_at hl 0 rfl) ?_
  refine f_geti B hH hth (by decide) rfl wu_X2 1 (by decide) wf_X2_18 rfl rfl dX2_ofChannel_37 ?_
  refine lv_i2l B.1 B.2.1 dX2_ofChannel_40 (i32_i64 (hGσ _ _)) ?_
  exact hQ _ _ _ _ _ _ dX2_ofChannel_41 hH hc h hGσ hYσ hE
set_option maxRecDepth 20000 in
theorem a_X2_ofChannel_42 {Q : Sg → Int64 → Prop} {X : Sg → String → Prop} {th : Nat} (K : MD l R p s m args c cX2_ofChannel 2 RX2 D cA tys A n0 s0 0 0 []) (hQ : CQJ p l e R s m args below meth c cX2_ofChannel D cA A n0 s0 QM σi Q) (hX : CX p l e R s m args below meth c 2 D cA A n0 s0 QM σi X) (hTh : CT p l e R s m args below meth c cX2_ofChannel 2 D cA A n0 s0 QM σi RX2 X) : ∀ (σ : Sg), w_X2_ofChannel_42 th Q X σ → RG σ → TY σ → Ext σi σ → kO σ th 2 → JJ p l e R s m args below meth c 2 D cA A n0 s0 QM σ 42 [(0, .ref th)] [] := by
  intro σ h hGσ hYσ hE hth H locs ls hH hl hc
  have B := K.1
  have hl9 := K.2.2.2.2.2.2
  unfold w_X2_ofChannel_42 at h
  refine lv_aload_n B.1 B.2.1 dX2_ofChannel_42 rfl (lv_at hl 0 rfl) ?_
  refine f_geti B hH hth (by decide) rfl wu_X2 2 (by decide) wf_X2_22 rfl rfl dX2_ofChannel_43 ?_
  refine lv_i2l B.1 B.2.1 dX2_ofChannel_46 (i32_i64 (hGσ _ _)) ?_
  exact hQ _ _ _ _ _ _ dX2_ofChannel_47 hH hc h hGσ hYσ hE
set_option maxRecDepth 20000 in
theorem a_X2_ofChannel_48 {Q : Sg → Int64 → Prop} {X : Sg → String → Prop} {th : Nat} (K : MD l R p s m args c cX2_ofChannel 2 RX2 D cA tys A n0 s0 0 0 []) (hQ : CQJ p l e R s m args below meth c cX2_ofChannel D cA A n0 s0 QM σi Q) (hX : CX p l e R s m args below meth c 2 D cA A n0 s0 QM σi X) (hTh : CT p l e R s m args below meth c cX2_ofChannel 2 D cA A n0 s0 QM σi RX2 X) : ∀ (σ : Sg), w_X2_ofChannel_48 th Q X σ → RG σ → TY σ → Ext σi σ → kO σ th 2 → JJ p l e R s m args below meth c 2 D cA A n0 s0 QM σ 48 [(0, .ref th)] [] := by
  intro σ h hGσ hYσ hE hth H locs ls hH hl hc
  have B := K.1
  have hl9 := K.2.2.2.2.2.2
  unfold w_X2_ofChannel_48 at h
  refine lv_aload_n B.1 B.2.1 dX2_ofChannel_48 rfl (lv_at hl 0 rfl) ?_
  refine f_getp B hH hth (by decide) rfl wu_X2 0 (by decide) wf_X2_12 rfl rfl dX2_ofChannel_49 ?_
  obtain ⟨a3, ea3, h⟩ := h
  have ka3 : kO σ a3 1 := (hYσ.get hth (by decide)) a3 ea3
  have h := h ka3
  refine W.eq (g2 := F0 m 52 ls [.ref a3]) (by rw [ea3]; rfl) ?_
  refine f_geti B hH ka3 (by decide) rfl wu_X1 2 (by decide) wf_X2_44 rfl rfl dX2_ofChannel_52 ?_
  refine lv_i2l B.1 B.2.1 dX2_ofChannel_55 (i32_i64 (hGσ _ _)) ?_
  exact hQ _ _ _ _ _ _ dX2_ofChannel_56 hH hc h hGσ hYσ hE
set_option maxRecDepth 20000 in
theorem a_X2_ofChannel_57 {Q : Sg → Int64 → Prop} {X : Sg → String → Prop} {th : Nat} (K : MD l R p s m args c cX2_ofChannel 2 RX2 D cA tys A n0 s0 0 0 []) (hQ : CQJ p l e R s m args below meth c cX2_ofChannel D cA A n0 s0 QM σi Q) (hX : CX p l e R s m args below meth c 2 D cA A n0 s0 QM σi X) (hTh : CT p l e R s m args below meth c cX2_ofChannel 2 D cA A n0 s0 QM σi RX2 X) : ∀ (σ : Sg), w_X2_ofChannel_57 th Q X σ → RG σ → TY σ → Ext σi σ → kO σ th 2 → JJ p l e R s m args below meth c 2 D cA A n0 s0 QM σ 57 [(0, .ref th)] [] := by
  intro σ h hGσ hYσ hE hth H locs ls hH hl hc
  have B := K.1
  have hl9 := K.2.2.2.2.2.2
  unfold w_X2_ofChannel_57 at h
  refine lv_aload_n B.1 B.2.1 dX2_ofChannel_57 rfl (lv_at hl 0 rfl) ?_
  refine f_getl B hH hth (by decide) rfl wu_X2 4 (by decide) wf_X2_30 rfl rfl dX2_ofChannel_58 ?_
  exact hQ _ _ _ _ _ _ dX2_ofChannel_61 hH hc h hGσ hYσ hE
set_option maxRecDepth 20000 in
theorem a_X2_ofChannel_74 {Q : Sg → Int64 → Prop} {X : Sg → String → Prop} {th : Nat} (K : MD l R p s m args c cX2_ofChannel 2 RX2 D cA tys A n0 s0 0 0 []) (hQ : CQJ p l e R s m args below meth c cX2_ofChannel D cA A n0 s0 QM σi Q) (hX : CX p l e R s m args below meth c 2 D cA A n0 s0 QM σi X) (hTh : CT p l e R s m args below meth c cX2_ofChannel 2 D cA A n0 s0 QM σi RX2 X) : ∀ (σ : Sg) (u0 : Int64), w_X2_ofChannel_74 th Q X σ u0 → RG σ → TY σ → Ext σi σ → kO σ th 2 → JJ p l e R s m args below meth c 2 D cA A n0 s0 QM σ 74 [(0, .ref th)] [.long u0] := by
  intro σ u0 h hGσ hYσ hE hth H locs ls hH hl hc
  have B := K.1
  have hl9 := K.2.2.2.2.2.2
  unfold w_X2_ofChannel_74 at h
  exact hQ _ _ _ _ _ _ dX2_ofChannel_74 hH hc h hGσ hYσ hE
set_option maxRecDepth 20000 in
theorem a_X2_ofChannel_73 {Q : Sg → Int64 → Prop} {X : Sg → String → Prop} {th : Nat} (K : MD l R p s m args c cX2_ofChannel 2 RX2 D cA tys A n0 s0 0 0 []) (hQ : CQJ p l e R s m args below meth c cX2_ofChannel D cA A n0 s0 QM σi Q) (hX : CX p l e R s m args below meth c 2 D cA A n0 s0 QM σi X) (hTh : CT p l e R s m args below meth c cX2_ofChannel 2 D cA A n0 s0 QM σi RX2 X) : ∀ (σ : Sg), w_X2_ofChannel_73 th Q X σ → RG σ → TY σ → Ext σi σ → kO σ th 2 → JJ p l e R s m args below meth c 2 D cA A n0 s0 QM σ 73 [(0, .ref th)] [] := by
  intro σ h hGσ hYσ hE hth H locs ls hH hl hc
  have B := K.1
  have hl9 := K.2.2.2.2.2.2
  unfold w_X2_ofChannel_73 at h
  refine lv_lconst (v := 0) B.1 B.2.1 dX2_ofChannel_73 (by decide) ?_
  exact a_X2_ofChannel_74 K hQ hX hTh _ _ h hGσ hYσ hE hth _ _ _ hH (lv_sub (l' := [(0, .ref th)]) hl [0] rfl) hc
set_option maxRecDepth 20000 in
theorem a_X2_ofChannel_69 {Q : Sg → Int64 → Prop} {X : Sg → String → Prop} {th : Nat} (K : MD l R p s m args c cX2_ofChannel 2 RX2 D cA tys A n0 s0 0 0 []) (hQ : CQJ p l e R s m args below meth c cX2_ofChannel D cA A n0 s0 QM σi Q) (hX : CX p l e R s m args below meth c 2 D cA A n0 s0 QM σi X) (hTh : CT p l e R s m args below meth c cX2_ofChannel 2 D cA A n0 s0 QM σi RX2 X) : ∀ (σ : Sg), w_X2_ofChannel_69 th Q X σ → RG σ → TY σ → Ext σi σ → kO σ th 2 → JJ p l e R s m args below meth c 2 D cA A n0 s0 QM σ 69 [(0, .ref th)] [] := by
  intro σ h hGσ hYσ hE hth H locs ls hH hl hc
  have B := K.1
  have hl9 := K.2.2.2.2.2.2
  unfold w_X2_ofChannel_69 at h
  refine lv_lconst (v := 1) B.1 B.2.1 dX2_ofChannel_69 (by decide) ?_
  refine lv_goto (tgt := 74) B.1 B.2.1 dX2_ofChannel_70 (by decide) ?_
  exact a_X2_ofChannel_74 K hQ hX hTh _ _ h hGσ hYσ hE hth _ _ _ hH (lv_sub (l' := [(0, .ref th)]) hl [0] rfl) hc
set_option maxRecDepth 20000 in
theorem a_X2_ofChannel_62 {Q : Sg → Int64 → Prop} {X : Sg → String → Prop} {th : Nat} (K : MD l R p s m args c cX2_ofChannel 2 RX2 D cA tys A n0 s0 0 0 []) (hQ : CQJ p l e R s m args below meth c cX2_ofChannel D cA A n0 s0 QM σi Q) (hX : CX p l e R s m args below meth c 2 D cA A n0 s0 QM σi X) (hTh : CT p l e R s m args below meth c cX2_ofChannel 2 D cA A n0 s0 QM σi RX2 X) : ∀ (σ : Sg), w_X2_ofChannel_62 th Q X σ → RG σ → TY σ → Ext σi σ → kO σ th 2 → JJ p l e R s m args below meth c 2 D cA A n0 s0 QM σ 62 [(0, .ref th)] [] := by
  intro σ h hGσ hYσ hE hth H locs ls hH hl hc
  have B := K.1
  have hl9 := K.2.2.2.2.2.2
  unfold w_X2_ofChannel_62 at h
  refine lv_aload_n B.1 B.2.1 dX2_ofChannel_62 rfl (lv_at hl 0 rfl) ?_
  refine f_geti B hH hth (by decide) rfl wu_X2 5 (by decide) wf_X2_34 rfl rfl dX2_ofChannel_63 ?_
  refine lv_if_eq (tgt := 73) B.1 B.2.1 dX2_ofChannel_66 (by decide) (fun h9 => ?_) (fun h9 => ?_)
  · rw [if_pos ((z_eq (hGσ _ _)).mp h9)] at h
    exact a_X2_ofChannel_73 K hQ hX hTh _ h hGσ hYσ hE hth _ _ _ hH (lv_sub (l' := [(0, .ref th)]) hl [0] rfl) hc
  · rw [if_neg (fun q => h9 ((z_eq (hGσ _ _)).mpr q))] at h
    exact a_X2_ofChannel_69 K hQ hX hTh _ h hGσ hYσ hE hth _ _ _ hH (lv_sub (l' := [(0, .ref th)]) hl [0] rfl) hc
set_option maxRecDepth 20000 in
theorem a_X2_ofChannel_75 {Q : Sg → Int64 → Prop} {X : Sg → String → Prop} {th : Nat} (K : MD l R p s m args c cX2_ofChannel 2 RX2 D cA tys A n0 s0 0 0 []) (hQ : CQJ p l e R s m args below meth c cX2_ofChannel D cA A n0 s0 QM σi Q) (hX : CX p l e R s m args below meth c 2 D cA A n0 s0 QM σi X) (hTh : CT p l e R s m args below meth c cX2_ofChannel 2 D cA A n0 s0 QM σi RX2 X) : ∀ (σ : Sg), w_X2_ofChannel_75 th Q X σ → RG σ → TY σ → Ext σi σ → kO σ th 2 → JJ p l e R s m args below meth c 2 D cA A n0 s0 QM σ 75 [(0, .ref th)] [] := by
  intro σ h hGσ hYσ hE hth H locs ls hH hl hc
  have B := K.1
  have hl9 := K.2.2.2.2.2.2
  unfold w_X2_ofChannel_75 at h
  refine lv_aload_n B.1 B.2.1 dX2_ofChannel_75 rfl (lv_at hl 0 rfl) ?_
  refine f_geti B hH hth (by decide) rfl wu_X2 6 (by decide) wf_X2_38 rfl rfl dX2_ofChannel_76 ?_
  refine lv_i2l B.1 B.2.1 dX2_ofChannel_79 (i32_i64 (hGσ _ _)) ?_
  exact hQ _ _ _ _ _ _ dX2_ofChannel_80 hH hc h hGσ hYσ hE
set_option maxRecDepth 20000 in
theorem a_X2_ofChannel_0 {Q : Sg → Int64 → Prop} {X : Sg → String → Prop} {th : Nat} (K : MD l R p s m args c cX2_ofChannel 2 RX2 D cA tys A n0 s0 0 0 []) (hQ : CQJ p l e R s m args below meth c cX2_ofChannel D cA A n0 s0 QM σi Q) (hX : CX p l e R s m args below meth c 2 D cA A n0 s0 QM σi X) (hTh : CT p l e R s m args below meth c cX2_ofChannel 2 D cA A n0 s0 QM σi RX2 X) : ∀ (σ : Sg) (v1 : Int) (g1 : rng v1), w_X2_ofChannel_0 th Q X σ v1 → RG σ → TY σ → Ext σi σ → kO σ th 2 → JJ p l e R s m args below meth c 2 D cA A n0 s0 QM σ 0 [(0, .ref th), (1, .int (i32 v1))] [] := by
  intro σ v1 g1 h hGσ hYσ hE hth H locs ls hH hl hc
  have B := K.1
  have hl9 := K.2.2.2.2.2.2
  unfold w_X2_ofChannel_0 at h
  refine lv_iload_n B.1 B.2.1 dX2_ofChannel_0 rfl (lv_at hl 1 rfl) ?_
  rcases Classical.em (v1 = 0) with e9 | e9
  · rw [if_pos e9] at h
    refine lv_tableIn (off := 35) (tgt := 36) B.1 B.2.1 dX2_ofChannel_1 (by rw [i32_toInt g1, e9]; decide) (by rw [i32_toInt g1, e9]; decide) (by rw [i32_toInt g1, e9]; rfl) (by decide) ?_
    exact a_X2_ofChannel_36 K hQ hX hTh _ h hGσ hYσ hE hth _ _ _ hH (lv_sub (l' := [(0, .ref th)]) hl [0] rfl) hc
  rw [if_neg e9] at h
  have k1 := e9
  rcases Classical.em (v1 = 1) with e9 | e9
  · rw [if_pos e9] at h
    refine lv_tableIn (off := 41) (tgt := 42) B.1 B.2.1 dX2_ofChannel_1 (by rw [i32_toInt g1, e9]; decide) (by rw [i32_toInt g1, e9]; decide) (by rw [i32_toInt g1, e9]; rfl) (by decide) ?_
    exact a_X2_ofChannel_42 K hQ hX hTh _ h hGσ hYσ hE hth _ _ _ hH (lv_sub (l' := [(0, .ref th)]) hl [0] rfl) hc
  rw [if_neg e9] at h
  have k2 := e9
  rcases Classical.em (v1 = 2) with e9 | e9
  · rw [if_pos e9] at h
    refine lv_tableIn (off := 47) (tgt := 48) B.1 B.2.1 dX2_ofChannel_1 (by rw [i32_toInt g1, e9]; decide) (by rw [i32_toInt g1, e9]; decide) (by rw [i32_toInt g1, e9]; rfl) (by decide) ?_
    exact a_X2_ofChannel_48 K hQ hX hTh _ h hGσ hYσ hE hth _ _ _ hH (lv_sub (l' := [(0, .ref th)]) hl [0] rfl) hc
  rw [if_neg e9] at h
  have k3 := e9
  rcases Classical.em (v1 = 3) with e9 | e9
  · rw [if_pos e9] at h
    refine lv_tableIn (off := 56) (tgt := 57) B.1 B.2.1 dX2_ofChannel_1 (by rw [i32_toInt g1, e9]; decide) (by rw [i32_toInt g1, e9]; decide) (by rw [i32_toInt g1, e9]; rfl) (by decide) ?_
    exact a_X2_ofChannel_57 K hQ hX hTh _ h hGσ hYσ hE hth _ _ _ hH (lv_sub (l' := [(0, .ref th)]) hl [0] rfl) hc
  rw [if_neg e9] at h
  have k4 := e9
  rcases Classical.em (v1 = 4) with e9 | e9
  · rw [if_pos e9] at h
    refine lv_tableIn (off := 61) (tgt := 62) B.1 B.2.1 dX2_ofChannel_1 (by rw [i32_toInt g1, e9]; decide) (by rw [i32_toInt g1, e9]; decide) (by rw [i32_toInt g1, e9]; rfl) (by decide) ?_
    exact a_X2_ofChannel_62 K hQ hX hTh _ h hGσ hYσ hE hth _ _ _ hH (lv_sub (l' := [(0, .ref th)]) hl [0] rfl) hc
  rw [if_neg e9] at h
  have k5 := e9
  rcases (show (v1 < 0 ∨ 4 < v1) ∨ False by omega) with e9 | e9
  · refine lv_tableOut (tgt := 75) B.1 B.2.1 dX2_ofChannel_1 (by rw [i32_toInt g1]; exact e9) (by decide) ?_
    exact a_X2_ofChannel_75 K hQ hX hTh _ h hGσ hYσ hE hth _ _ _ hH (lv_sub (l' := [(0, .ref th)]) hl [0] rfl) hc
  exact e9.elim
theorem ok_X2_ofChannel (hl0 : l.stackTraces = false) (hT : TyC cA tys) {Q : Sg → Int64 → Prop} {X : Sg → String → Prop} (σ : Sg) (th : Nat) (v1 : Int) (g1 : rng v1) (hth : kO σ th 2) (hG : RG σ) (hY : TY σ) (h : wp_X2_ofChannel th v1 σ Q X) : Ok l D cA tys A yX2_ofChannel (.code yX2_ofChannel cX2_ofChannel 2 (some .long)) 0 0 [.ref th, .int (i32 v1)] σ (QcJ σ Q) (QxC σ X) := by
  unfold wp_X2_ofChannel at h
  exact oc_J hl0 (by decide) (by exact Nat.le_of_ble_eq_true rfl) hT (fun p e R s m args below meth c K hQ hX hTh H locs ls hH hl hc => a_X2_ofChannel_0 K hQ hX hTh σ v1 g1 h hG hY (Ext.rfl' σ) hth H locs ls hH (lv_sub (l' := [(0, .ref th), (1, .int (i32 v1))]) hl [0, 1] rfl) hc)
theorem dX12_channel_0 : decode cX12_channel 0 = .ok (.iload_n 1, 1) := by decide +kernel
theorem dX12_channel_1 : decode cX12_channel 1 = .ok (.ifCond .lt 14, 3) := by decide +kernel
theorem dX12_channel_4 : decode cX12_channel 4 = .ok (.iload_n 1, 1) := by decide +kernel
theorem dX12_channel_5 : decode cX12_channel 5 = .ok (.aload_n 0, 1) := by decide +kernel
theorem dX12_channel_6 : decode cX12_channel 6 = .ok (.getfield 49, 3) := by decide +kernel
theorem dX12_channel_9 : decode cX12_channel 9 = .ok (.getfield 230, 3) := by decide +kernel
theorem dX12_channel_12 : decode cX12_channel 12 = .ok (.if_icmp .lt 11, 3) := by decide +kernel
theorem dX12_channel_15 : decode cX12_channel 15 = .ok (.new 92, 3) := by decide +kernel
theorem dX12_channel_18 : decode cX12_channel 18 = .ok (.dup, 1) := by decide +kernel
theorem dX12_channel_19 : decode cX12_channel 19 = .ok (.invokespecial 94, 3) := by decide +kernel
theorem dX12_channel_22 : decode cX12_channel 22 = .ok (.athrow, 1) := by decide +kernel
theorem dX12_channel_23 : decode cX12_channel 23 = .ok (.aload_n 0, 1) := by decide +kernel
theorem dX12_channel_24 : decode cX12_channel 24 = .ok (.invokevirtual 219, 3) := by decide +kernel
theorem dX12_channel_27 : decode cX12_channel 27 = .ok (.iload_n 2, 1) := by decide +kernel
theorem dX12_channel_28 : decode cX12_channel 28 = .ok (.ifCond .lt 8, 3) := by decide +kernel
theorem dX12_channel_31 : decode cX12_channel 31 = .ok (.iload_n 2, 1) := by decide +kernel
theorem dX12_channel_32 : decode cX12_channel 32 = .ok (.iconst 5, 1) := by decide +kernel
theorem dX12_channel_33 : decode cX12_channel 33 = .ok (.if_icmp .le 11, 3) := by decide +kernel
theorem dX12_channel_36 : decode cX12_channel 36 = .ok (.new 60, 3) := by decide +kernel
theorem dX12_channel_39 : decode cX12_channel 39 = .ok (.dup, 1) := by decide +kernel
theorem dX12_channel_40 : decode cX12_channel 40 = .ok (.invokespecial 62, 3) := by decide +kernel
theorem dX12_channel_43 : decode cX12_channel 43 = .ok (.athrow, 1) := by decide +kernel
theorem dX12_channel_44 : decode cX12_channel 44 = .ok (.aload_n 0, 1) := by decide +kernel
theorem dX12_channel_45 : decode cX12_channel 45 = .ok (.getfield 49, 3) := by decide +kernel
theorem dX12_channel_48 : decode cX12_channel 48 = .ok (.getfield 233, 3) := by decide +kernel
theorem dX12_channel_51 : decode cX12_channel 51 = .ok (.iload_n 1, 1) := by decide +kernel
theorem dX12_channel_52 : decode cX12_channel 52 = .ok (.aaload, 1) := by decide +kernel
theorem dX12_channel_53 : decode cX12_channel 53 = .ok (.iload_n 2, 1) := by decide +kernel
theorem dX12_channel_54 : decode cX12_channel 54 = .ok (.invokevirtual 237, 3) := by decide +kernel
theorem dX12_channel_57 : decode cX12_channel 57 = .ok (.lreturn, 1) := by decide +kernel
set_option maxRecDepth 20000 in
theorem a_X12_channel_15 {Q : Sg → Int64 → Prop} {X : Sg → String → Prop} {th : Nat} (K : MD l R p s m args c cX12_channel 3 RX12 D cA tys A n0 s0 7 110 []) (hQ : CQJ p l e R s m args below meth c cX12_channel D cA A n0 s0 QM σi Q) (hX : CX p l e R s m args below meth c 3 D cA A n0 s0 QM σi X) (hTh : CT p l e R s m args below meth c cX12_channel 3 D cA A n0 s0 QM σi RX12 X) : ∀ (σ : Sg), w_X12_channel_15 th Q X σ → RG σ → TY σ → Ext σi σ → kO σ th 12 → JJ p l e R s m args below meth c 3 D cA A n0 s0 QM σ 15 [(0, .ref th)] [] := by
  intro σ h hGσ hYσ hE hth H locs ls hH hl hc
  have B := K.1
  have hl9 := K.2.2.2.2.2.2
  unfold w_X12_channel_15 at h
  obtain ⟨q9, h⟩ := h
  exact hTh _ _ _ _ _ _ _ _ _ tw_X12_92_94 dX12_channel_15 dX12_channel_18 dX12_channel_19 dX12_channel_22 hH hl hc q9 h hGσ hYσ hE (by have := K.2.2.2.1; omega) (by have := K.2.2.2.2.1; omega)
set_option maxRecDepth 20000 in
theorem a_X12_channel_36 {Q : Sg → Int64 → Prop} {X : Sg → String → Prop} {th : Nat} (K : MD l R p s m args c cX12_channel 3 RX12 D cA tys A n0 s0 7 110 []) (hQ : CQJ p l e R s m args below meth c cX12_channel D cA A n0 s0 QM σi Q) (hX : CX p l e R s m args below meth c 3 D cA A n0 s0 QM σi X) (hTh : CT p l e R s m args below meth c cX12_channel 3 D cA A n0 s0 QM σi RX12 X) : ∀ (σ : Sg), w_X12_channel_36 th Q X σ → RG σ → TY σ → Ext σi σ → kO σ th 12 → JJ p l e R s m args below meth c 3 D cA A n0 s0 QM σ 36 [(0, .ref th)] [] := by
  intro σ h hGσ hYσ hE hth H locs ls hH hl hc
  have B := K.1
  have hl9 := K.2.2.2.2.2.2
  unfold w_X12_channel_36 at h
  obtain ⟨q9, h⟩ := h
  exact hTh _ _ _ _ _ _ _ _ _ tw_X12_60_62 dX12_channel_36 dX12_channel_39 dX12_channel_40 dX12_channel_43 hH hl hc q9 h hGσ hYσ hE (by have := K.2.2.2.1; omega) (by have := K.2.2.2.2.1; omega)
set_option maxRecDepth 20000 in
theorem a_X12_channel_44 {Q : Sg → Int64 → Prop} {X : Sg → String → Prop} {th : Nat} (K : MD l R p s m args c cX12_channel 3 RX12 D cA tys A n0 s0 7 110 []) (hQ : CQJ p l e R s m args below meth c cX12_channel D cA A n0 s0 QM σi Q) (hX : CX p l e R s m args below meth c 3 D cA A n0 s0 QM σi X) (hTh : CT p l e R s m args below meth c cX12_channel 3 D cA A n0 s0 QM σi RX12 X) : ∀ (σ : Sg) (v1 : Int) (v2 : Int) (g1 : rng v1) (g2 : rng v2), w_X12_channel_44 th Q X σ v1 v2 → RG σ → TY σ → Ext σi σ → kO σ th 12 → JJ p l e R s m args below meth c 3 D cA A n0 s0 QM σ 44 [(0, .ref th), (1, .int (i32 v1)), (2, .int (i32 v2))] [] := by
  intro σ v1 v2 g1 g2 h hGσ hYσ hE hth H locs ls hH hl hc
  have B := K.1
  have hl9 := K.2.2.2.2.2.2
  unfold w_X12_channel_44 at h
  refine lv_aload_n B.1 B.2.1 dX12_channel_44 rfl (lv_at hl 0 rfl) ?_
  refine f_getp B hH hth (by decide) rfl wu_X12 7 (by decide) wf_X12_49 rfl rfl dX12_channel_45 ?_
  obtain ⟨a15, ea15, h⟩ := h
  have ka15 : kO σ a15 9 := (hYσ.get hth (by decide)) a15 ea15
  have h := h ka15
  refine W.eq (g2 := F0 m 48 ls [.ref a15]) (by rw [ea15]; rfl) ?_
  refine f_getp B hH ka15 (by decide) rfl wu_X9 4 (by decide) wf_X12_233 rfl rfl dX12_channel_48 ?_
  refine lv_iload_n B.1 B.2.1 dX12_channel_51 rfl (lv_at hl 1 rfl) ?_
  obtain ⟨a16, ea16, h⟩ := h
  have ka16 : kO σ a16 112 := (hYσ.get ka15 (by decide)) a16 ea16
  have h := h ka16
  obtain ⟨q1, h⟩ := h
  refine W.eq (g2 := F0 m 52 ls [.int (i32 v1), .ref a16]) (by rw [ea16]; rfl) ?_
  refine y_aald B hH (t0 := 5) ka16 (by decide) K.2.1.2.2.1 q1 (hYσ.2 _) dX12_channel_52 ?_
  refine lv_iload_n B.1 B.2.1 dX12_channel_53 rfl (lv_at hl 2 rfl) ?_
  obtain ⟨a19, ea19, h⟩ := h
  have ka19 : kO σ a19 2 := (hYσ.get ka16 rfl) a19 ea19
  have h := h ka19
  refine W.eq (g2 := F0 m 54 ls [.int (i32 v2), .ref a19]) (by rw [ea19]; rfl) ?_
  refine c_V B hH hl hc K.2.2.1 (C := RX2) (T := TX2) (N := 8) (ci := 2) (As := [.int (i32 v2)]) (ok_X2_ofChannel hl9 K.2.1 σ a19 v2 g2 ka19 hGσ hYσ h) wc_X12_237 1 hd_X2_ofChannel ⟨Nat.le_trans (Nat.le_of_ble_eq_true rfl) K.2.2.2.1, Nat.le_trans (Nat.le_of_ble_eq_true rfl) K.2.2.2.2.1⟩ ka19.1 ka19.2 (by decide) rfl rfl (rest := []) rfl (Nat.le_of_ble_eq_true rfl) dX12_channel_54 (fun σ17 w hq => ?_) (fun σ9 E9 hx9 => hX σ9 E9 _ _ _ (tb_out K.2.2.2.2.2.1 rfl) hx9.1 hx9.2.1 hx9.2.2.1 (hE.trans hx9.2.2.2))
  obtain ⟨r18, rfl, h, hGσ17, hYσ17, xσ17⟩ := hq
  have h := h xσ17
  intro H locs ls hH hl hc
  refine W.eq (g2 := F0 m 57 ls [.long r18]) (rfl) ?_
  try dsimp only at h
  exact hQ _ _ _ _ _ _ dX12_channel_57 hH hc h hGσ17 hYσ17 (hE.trans xσ17)
set_option maxRecDepth 20000 in
theorem a_X12_channel_31 {Q : Sg → Int64 → Prop} {X : Sg → String → Prop} {th : Nat} (K : MD l R p s m args c cX12_channel 3 RX12 D cA tys A n0 s0 7 110 []) (hQ : CQJ p l e R s m args below meth c cX12_channel D cA A n0 s0 QM σi Q) (hX : CX p l e R s m args below meth c 3 D cA A n0 s0 QM σi X) (hTh : CT p l e R s m args below meth c cX12_channel 3 D cA A n0 s0 QM σi RX12 X) : ∀ (σ : Sg) (v1 : Int) (v2 : Int) (g1 : rng v1) (g2 : rng v2), w_X12_channel_31 th Q X σ v1 v2 → RG σ → TY σ → Ext σi σ → kO σ th 12 → JJ p l e R s m args below meth c 3 D cA A n0 s0 QM σ 31 [(0, .ref th), (1, .int (i32 v1)), (2, .int (i32 v2))] [] := by
  intro σ v1 v2 g1 g2 h hGσ hYσ hE hth H locs ls hH hl hc
  have B := K.1
  have hl9 := K.2.2.2.2.2.2
  unfold w_X12_channel_31 at h
  refine lv_iload_n B.1 B.2.1 dX12_channel_31 rfl (lv_at hl 2 rfl) ?_
  refine lv_iconst (v := i32 5) B.1 B.2.1 dX12_channel_32 (by decide) ?_
  refine lv_icmp_le (tgt := 44) B.1 B.2.1 dX12_channel_33 (by decide) (fun h9 => ?_) (fun h9 => ?_)
  · rw [if_pos ((i32_le g2 (by unfold rng; omega)).mp h9)] at h
    exact a_X12_channel_44 K hQ hX hTh _ _ _ g1 g2 h hGσ hYσ hE hth _ _ _ hH (lv_sub (l' := [(0, .ref th), (1, .int (i32 v1)), (2, .int (i32 v2))]) hl [0, 1, 2] rfl) hc
  · rw [if_neg (fun q => h9 ((i32_le g2 (by unfold rng; omega)).mpr q))] at h
    exact a_X12_channel_36 K hQ hX hTh _ h hGσ hYσ hE hth _ _ _ hH (lv_sub (l' := [(0, .ref th)]) hl [0] rfl) hc
set_option maxRecDepth 20000 in
theorem a_X12_channel_23 {Q : Sg → Int64 → Prop} {X : Sg → String → Prop} {th : Nat} (K : MD l R p s m args c cX12_channel 3 RX12 D cA tys A n0 s0 7 110 []) (hQ : CQJ p l e R s m args below meth c cX12_channel D cA A n0 s0 QM σi Q) (hX : CX p l e R s m args below meth c 3 D cA A n0 s0 QM σi X) (hTh : CT p l e R s m args below meth c cX12_channel 3 D cA A n0 s0 QM σi RX12 X) : ∀ (σ : Sg) (v1 : Int) (v2 : Int) (g1 : rng v1) (g2 : rng v2), w_X12_channel_23 th Q X σ v1 v2 → RG σ → TY σ → Ext σi σ → kO σ th 12 → JJ p l e R s m args below meth c 3 D cA A n0 s0 QM σ 23 [(0, .ref th), (1, .int (i32 v1)), (2, .int (i32 v2))] [] := by
  intro σ v1 v2 g1 g2 h hGσ hYσ hE hth H locs ls hH hl hc
  have B := K.1
  have hl9 := K.2.2.2.2.2.2
  unfold w_X12_channel_23 at h
  refine lv_aload_n B.1 B.2.1 dX12_channel_23 rfl (lv_at hl 0 rfl) ?_
  refine W.eq (g2 := F0 m 24 ls [.ref th]) (rfl) ?_
  refine c_V B hH hl hc K.2.2.1 (C := RX12) (T := TX12) (N := 9) (ci := 12) (As := []) (ok_X12_needWholeRun hl9 K.2.1 σ th hth hGσ hYσ h) wc_X12_219 0 hd_X12_needWholeRun ⟨Nat.le_trans (Nat.le_of_ble_eq_true rfl) K.2.2.2.1, Nat.le_trans (Nat.le_of_ble_eq_true rfl) K.2.2.2.2.1⟩ hth.1 hth.2 (by decide) rfl rfl (rest := []) rfl (Nat.le_of_ble_eq_true rfl) dX12_channel_24 (fun σ20 w hq => ?_) (fun σ9 E9 hx9 => hX σ9 E9 _ _ _ (tb_out K.2.2.2.2.2.1 rfl) hx9.1 hx9.2.1 hx9.2.2.1 (hE.trans hx9.2.2.2))
  obtain ⟨rfl, h, hGσ20, hYσ20, xσ20⟩ := hq
  have h := h xσ20
  intro H locs ls hH hl hc
  refine W.eq (g2 := F0 m 27 ls []) (rfl) ?_
  try dsimp only at h
  refine lv_iload_n B.1 B.2.1 dX12_channel_27 rfl (lv_at hl 2 rfl) ?_
  refine lv_if_lt (tgt := 36) B.1 B.2.1 dX12_channel_28 (by decide) (fun h9 => ?_) (fun h9 => ?_)
  · rw [if_pos ((z_lt g2).mp h9)] at h
    exact a_X12_channel_36 K hQ hX hTh _ h hGσ20 hYσ20 (hE.trans xσ20) (hth.up xσ20) _ _ _ hH (lv_sub (l' := [(0, .ref th)]) hl [0] rfl) hc
  · rw [if_neg (fun q => h9 ((z_lt g2).mpr q))] at h
    exact a_X12_channel_31 K hQ hX hTh _ _ _ g1 g2 h hGσ20 hYσ20 (hE.trans xσ20) (hth.up xσ20) _ _ _ hH (lv_sub (l' := [(0, .ref th), (1, .int (i32 v1)), (2, .int (i32 v2))]) hl [0, 1, 2] rfl) hc
set_option maxRecDepth 20000 in
theorem a_X12_channel_4 {Q : Sg → Int64 → Prop} {X : Sg → String → Prop} {th : Nat} (K : MD l R p s m args c cX12_channel 3 RX12 D cA tys A n0 s0 7 110 []) (hQ : CQJ p l e R s m args below meth c cX12_channel D cA A n0 s0 QM σi Q) (hX : CX p l e R s m args below meth c 3 D cA A n0 s0 QM σi X) (hTh : CT p l e R s m args below meth c cX12_channel 3 D cA A n0 s0 QM σi RX12 X) : ∀ (σ : Sg) (v1 : Int) (v2 : Int) (g1 : rng v1) (g2 : rng v2), w_X12_channel_4 th Q X σ v1 v2 → RG σ → TY σ → Ext σi σ → kO σ th 12 → JJ p l e R s m args below meth c 3 D cA A n0 s0 QM σ 4 [(0, .ref th), (1, .int (i32 v1)), (2, .int (i32 v2))] [] := by
  intro σ v1 v2 g1 g2 h hGσ hYσ hE hth H locs ls hH hl hc
  have B := K.1
  have hl9 := K.2.2.2.2.2.2
  unfold w_X12_channel_4 at h
  refine lv_iload_n B.1 B.2.1 dX12_channel_4 rfl (lv_at hl 1 rfl) ?_
  refine lv_aload_n B.1 B.2.1 dX12_channel_5 rfl (lv_at hl 0 rfl) ?_
  refine f_getp B hH hth (by decide) rfl wu_X12 7 (by decide) wf_X12_49 rfl rfl dX12_channel_6 ?_
  obtain ⟨a21, ea21, h⟩ := h
  have ka21 : kO σ a21 9 := (hYσ.get hth (by decide)) a21 ea21
  have h := h ka21
  refine W.eq (g2 := F0 m 9 ls [.ref a21, .int (i32 v1)]) (by rw [ea21]; rfl) ?_
  refine f_geti B hH ka21 (by decide) rfl wu_X9 11 (by decide) wf_X12_230 rfl rfl dX12_channel_9 ?_
  refine lv_icmp_lt (tgt := 23) B.1 B.2.1 dX12_channel_12 (by decide) (fun h9 => ?_) (fun h9 => ?_)
  · rw [if_pos ((i32_lt g1 (hGσ _ _)).mp h9)] at h
    exact a_X12_channel_23 K hQ hX hTh _ _ _ g1 g2 h hGσ hYσ hE hth _ _ _ hH (lv_sub (l' := [(0, .ref th), (1, .int (i32 v1)), (2, .int (i32 v2))]) hl [0, 1, 2] rfl) hc
  · rw [if_neg (fun q => h9 ((i32_lt g1 (hGσ _ _)).mpr q))] at h
    exact a_X12_channel_15 K hQ hX hTh _ h hGσ hYσ hE hth _ _ _ hH (lv_sub (l' := [(0, .ref th)]) hl [0] rfl) hc
set_option maxRecDepth 20000 in
theorem a_X12_channel_0 {Q : Sg → Int64 → Prop} {X : Sg → String → Prop} {th : Nat} (K : MD l R p s m args c cX12_channel 3 RX12 D cA tys A n0 s0 7 110 []) (hQ : CQJ p l e R s m args below meth c cX12_channel D cA A n0 s0 QM σi Q) (hX : CX p l e R s m args below meth c 3 D cA A n0 s0 QM σi X) (hTh : CT p l e R s m args below meth c cX12_channel 3 D cA A n0 s0 QM σi RX12 X) : ∀ (σ : Sg) (v1 : Int) (v2 : Int) (g1 : rng v1) (g2 : rng v2), w_X12_channel_0 th Q X σ v1 v2 → RG σ → TY σ → Ext σi σ → kO σ th 12 → JJ p l e R s m args below meth c 3 D cA A n0 s0 QM σ 0 [(0, .ref th), (1, .int (i32 v1)), (2, .int (i32 v2))] [] := by
  intro σ v1 v2 g1 g2 h hGσ hYσ hE hth H locs ls hH hl hc
  have B := K.1
  have hl9 := K.2.2.2.2.2.2
  unfold w_X12_channel_0 at h
  refine lv_iload_n B.1 B.2.1 dX12_channel_0 rfl (lv_at hl 1 rfl) ?_
  refine lv_if_lt (tgt := 15) B.1 B.2.1 dX12_channel_1 (by decide) (fun h9 => ?_) (fun h9 => ?_)
  · rw [if_pos ((z_lt g1).mp h9)] at h
    exact a_X12_channel_15 K hQ hX hTh _ h hGσ hYσ hE hth _ _ _ hH (lv_sub (l' := [(0, .ref th)]) hl [0] rfl) hc
  · rw [if_neg (fun q => h9 ((z_lt g1).mpr q))] at h
    exact a_X12_channel_4 K hQ hX hTh _ _ _ g1 g2 h hGσ hYσ hE hth _ _ _ hH (lv_sub (l' := [(0, .ref th), (1, .int (i32 v1)), (2, .int (i32 v2))]) hl [0, 1, 2] rfl) hc
theorem ok_X12_channel (hl0 : l.stackTraces = false) (hT : TyC cA tys) {Q : Sg → Int64 → Prop} {X : Sg → String → Prop} (σ : Sg) (th : Nat) (v1 : Int) (v2 : Int) (g1 : rng v1) (g2 : rng v2) (hth : kO σ th 12) (hG : RG σ) (hY : TY σ) (h : wp_X12_channel th v1 v2 σ Q X) : Ok l D cA tys A yX12_channel (.code yX12_channel cX12_channel 3 (some .long)) 7 110 [.ref th, .int (i32 v1), .int (i32 v2)] σ (QcJ σ Q) (QxC σ X) := by
  unfold wp_X12_channel at h
  exact oc_J hl0 (by decide) (by exact Nat.le_of_ble_eq_true rfl) hT (fun p e R s m args below meth c K hQ hX hTh H locs ls hH hl hc => a_X12_channel_0 K hQ hX hTh σ v1 v2 g1 g2 h hG hY (Ext.rfl' σ) hth H locs ls hH (lv_sub (l' := [(0, .ref th), (1, .int (i32 v1)), (2, .int (i32 v2))]) hl [0, 1, 2] rfl) hc)
theorem dX3_powerReturns_0 : decode cX3_powerReturns 0 = .ok (.aload_n 0, 1) := by decide +kernel
theorem dX3_powerReturns_1 : decode cX3_powerReturns 1 = .ok (.iconst 0, 1) := by decide +kernel
theorem dX3_powerReturns_2 : decode cX3_powerReturns 2 = .ok (.putfield 36, 3) := by decide +kernel
theorem dX3_powerReturns_5 : decode cX3_powerReturns 5 = .ok (.aload_n 0, 1) := by decide +kernel
theorem dX3_powerReturns_6 : decode cX3_powerReturns 6 = .ok (.iconst (-1), 1) := by decide +kernel
theorem dX3_powerReturns_7 : decode cX3_powerReturns 7 = .ok (.putfield 20, 3) := by decide +kernel
theorem dX3_powerReturns_10 : decode cX3_powerReturns 10 = .ok (.return_, 1) := by decide +kernel
set_option maxRecDepth 20000 in
theorem a_X3_powerReturns_0 {Q : Sg → Unit → Prop} {X : Sg → String → Prop} {th : Nat} (K : MD l R p s m args c cX3_powerReturns 1 RX3 D cA tys A n0 s0 0 0 []) (hQ : CQV p l e R s m args below meth c cX3_powerReturns D cA A n0 s0 QM σi Q) (hX : CX p l e R s m args below meth c 1 D cA A n0 s0 QM σi X) (hTh : CT p l e R s m args below meth c cX3_powerReturns 1 D cA A n0 s0 QM σi RX3 X) : ∀ (σ : Sg), w_X3_powerReturns_0 th Q X σ → RG σ → TY σ → Ext σi σ → kO σ th 3 → JJ p l e R s m args below meth c 1 D cA A n0 s0 QM σ 0 [(0, .ref th)] [] := by
  intro σ h hGσ hYσ hE hth H locs ls hH hl hc
  have B := K.1
  have hl9 := K.2.2.2.2.2.2
  unfold w_X3_powerReturns_0 at h
  refine lv_aload_n B.1 B.2.1 dX3_powerReturns_0 rfl (lv_at hl 0 rfl) ?_
  refine lv_iconst (v := i32 0) B.1 B.2.1 dX3_powerReturns_1 (by decide) ?_
  obtain ⟨σ5, eσ5⟩ : ∃ z, z = pI σ th 9 0 := ⟨_, rfl⟩
  have h := h σ5 eσ5
  refine f_puti B hH hth (by decide) rfl wu_X3 tyX3 tyX3_ok nmX3 9 (by decide) wf_X3_36 rfl (ty := .boolean) rfl rfl rfl rfl rfl dX3_powerReturns_2 (fun H locs hH => ?_)
  have hH : Hd D cA A s (pI σ th 9 0) H locs := hH
  rw [← eσ5] at hH
  have hGσ5 : RG σ5 := by rw [eσ5]; exact hGσ.pI (by unfold rng; omega)
  have hYσ5 : TY σ5 := by rw [eσ5]; exact hYσ.pI
  have xσ5 : Ext σ σ5 := by rw [eσ5]; exact Ext.pI
  have hc : CB n0 s0 σ5 := by rw [eσ5]; exact hc
  rw [show gc σ = gc σ5 by rw [eσ5]; try rfl, show gs σ = gs σ5 by rw [eσ5]; try rfl]
  refine lv_aload_n B.1 B.2.1 dX3_powerReturns_5 rfl (lv_at hl 0 rfl) ?_
  refine lv_iconst (v := i32 (-1)) B.1 B.2.1 dX3_powerReturns_6 (by decide) ?_
  obtain ⟨σ6, eσ6⟩ : ∃ z, z = pI σ5 th 8 (-1) := ⟨_, rfl⟩
  have h := h σ6 eσ6
  refine f_puti B hH (hth.up xσ5) (by decide) rfl wu_X3 tyX3 tyX3_ok nmX3 8 (by decide) wf_X3_20 rfl (ty := .int) rfl rfl rfl rfl rfl dX3_powerReturns_7 (fun H locs hH => ?_)
  have hH : Hd D cA A s (pI σ5 th 8 (-1)) H locs := hH
  rw [← eσ6] at hH
  have hGσ6 : RG σ6 := by rw [eσ6]; exact hGσ5.pI (by unfold rng; omega)
  have hYσ6 : TY σ6 := by rw [eσ6]; exact hYσ5.pI
  have xσ6 : Ext σ5 σ6 := by rw [eσ6]; exact Ext.pI
  have hc : CB n0 s0 σ6 := by rw [eσ6]; exact hc
  rw [show gc σ5 = gc σ6 by rw [eσ6]; try rfl, show gs σ5 = gs σ6 by rw [eσ6]; try rfl]
  exact hQ _ _ _ _ _ dX3_powerReturns_10 hH hc h hGσ6 hYσ6 ((hE.trans xσ5).trans xσ6)
theorem ok_X3_powerReturns (hl0 : l.stackTraces = false) (hT : TyC cA tys) {Q : Sg → Unit → Prop} {X : Sg → String → Prop} (σ : Sg) (th : Nat) (hth : kO σ th 3) (hG : RG σ) (hY : TY σ) (h : wp_X3_powerReturns th σ Q X) : Ok l D cA tys A yX3_powerReturns (.code yX3_powerReturns cX3_powerReturns 1 none) 0 0 [.ref th] σ (QcV σ Q) (QxC σ X) := by
  unfold wp_X3_powerReturns at h
  exact oc_V hl0 (by decide) (by exact Nat.le_of_ble_eq_true rfl) hT (fun p e R s m args below meth c K hQ hX hTh hin9 H locs ls hH hl hc => a_X3_powerReturns_0 K hQ hX hTh σ h hG hY (Ext.rfl' σ) hth H locs ls hH (lv_sub (l' := [(0, .ref th)]) hl [0] rfl) hc)
theorem dX4_forget_0 : decode cX4_forget 0 = .ok (.aload_n 0, 1) := by decide +kernel
theorem dX4_forget_1 : decode cX4_forget 1 = .ok (.iconst 0, 1) := by decide +kernel
theorem dX4_forget_2 : decode cX4_forget 2 = .ok (.putfield 53, 3) := by decide +kernel
theorem dX4_forget_5 : decode cX4_forget 5 = .ok (.aload_n 0, 1) := by decide +kernel
theorem dX4_forget_6 : decode cX4_forget 6 = .ok (.iconst 0, 1) := by decide +kernel
theorem dX4_forget_7 : decode cX4_forget 7 = .ok (.putfield 57, 3) := by decide +kernel
theorem dX4_forget_10 : decode cX4_forget 10 = .ok (.aload_n 0, 1) := by decide +kernel
theorem dX4_forget_11 : decode cX4_forget 11 = .ok (.iconst 0, 1) := by decide +kernel
theorem dX4_forget_12 : decode cX4_forget 12 = .ok (.putfield 60, 3) := by decide +kernel
theorem dX4_forget_15 : decode cX4_forget 15 = .ok (.aload_n 0, 1) := by decide +kernel
theorem dX4_forget_16 : decode cX4_forget 16 = .ok (.getfield 21, 3) := by decide +kernel
theorem dX4_forget_19 : decode cX4_forget 19 = .ok (.iconst (-1), 1) := by decide +kernel
theorem dX4_forget_20 : decode cX4_forget 20 = .ok (.invokestatic 47, 3) := by decide +kernel
theorem dX4_forget_23 : decode cX4_forget 23 = .ok (.aload_n 0, 1) := by decide +kernel
theorem dX4_forget_24 : decode cX4_forget 24 = .ok (.getfield 39, 3) := by decide +kernel
theorem dX4_forget_27 : decode cX4_forget 27 = .ok (.iconst 0, 1) := by decide +kernel
theorem dX4_forget_28 : decode cX4_forget 28 = .ok (.invokestatic 47, 3) := by decide +kernel
theorem dX4_forget_31 : decode cX4_forget 31 = .ok (.iconst 0, 1) := by decide +kernel
theorem dX4_forget_32 : decode cX4_forget 32 = .ok (.istore_n 1, 1) := by decide +kernel
theorem dX4_forget_33 : decode cX4_forget 33 = .ok (.iload_n 1, 1) := by decide +kernel
theorem dX4_forget_34 : decode cX4_forget 34 = .ok (.iconst 4, 1) := by decide +kernel
theorem dX4_forget_35 : decode cX4_forget 35 = .ok (.if_icmp .ge 16, 3) := by decide +kernel
theorem dX4_forget_38 : decode cX4_forget 38 = .ok (.aload_n 0, 1) := by decide +kernel
theorem dX4_forget_39 : decode cX4_forget 39 = .ok (.getfield 42, 3) := by decide +kernel
theorem dX4_forget_42 : decode cX4_forget 42 = .ok (.iload_n 1, 1) := by decide +kernel
theorem dX4_forget_43 : decode cX4_forget 43 = .ok (.iconst 0, 1) := by decide +kernel
theorem dX4_forget_44 : decode cX4_forget 44 = .ok (.bastore, 1) := by decide +kernel
theorem dX4_forget_45 : decode cX4_forget 45 = .ok (.iinc 1 1, 3) := by decide +kernel
theorem dX4_forget_48 : decode cX4_forget 48 = .ok (.goto (-15), 3) := by decide +kernel
theorem dX4_forget_51 : decode cX4_forget 51 = .ok (.return_, 1) := by decide +kernel
set_option maxRecDepth 20000 in
theorem a_X4_forget_51 {Q : Sg → Unit → Prop} {X : Sg → String → Prop} {th : Nat} (K : MD l R p s m args c cX4_forget 2 RX4 D cA tys A n0 s0 1 23 []) (hQ : CQV p l e R s m args below meth c cX4_forget D cA A n0 s0 QM σi Q) (hX : CX p l e R s m args below meth c 2 D cA A n0 s0 QM σi X) (hTh : CT p l e R s m args below meth c cX4_forget 2 D cA A n0 s0 QM σi RX4 X) : ∀ (σ : Sg), w_X4_forget_51 th Q X σ → RG σ → TY σ → Ext σi σ → kO σ th 4 → JJ p l e R s m args below meth c 2 D cA A n0 s0 QM σ 51 [(0, .ref th)] [] := by
  intro σ h hGσ hYσ hE hth H locs ls hH hl hc
  have B := K.1
  have hl9 := K.2.2.2.2.2.2
  unfold w_X4_forget_51 at h
  exact hQ _ _ _ _ _ dX4_forget_51 hH hc h hGσ hYσ hE
set_option maxRecDepth 20000 in
theorem a_X4_forget_38 {Q : Sg → Unit → Prop} {X : Sg → String → Prop} {th : Nat} (K : MD l R p s m args c cX4_forget 2 RX4 D cA tys A n0 s0 1 23 []) (hQ : CQV p l e R s m args below meth c cX4_forget D cA A n0 s0 QM σi Q) (hX : CX p l e R s m args below meth c 2 D cA A n0 s0 QM σi X) (hTh : CT p l e R s m args below meth c cX4_forget 2 D cA A n0 s0 QM σi RX4 X) {K33 : Sg → Int → Prop} (hK33 : ∀ (σ : Sg) (v1 : Int) (g1 : rng v1), K33 σ v1 → RG σ → TY σ → Ext σi σ → kO σ th 4 → JJ p l e R s m args below meth c 2 D cA A n0 s0 QM σ 33 [(0, .ref th), (1, .int (i32 v1))] []) : ∀ (σ : Sg) (v1 : Int) (g1 : rng v1), w_X4_forget_38 th K33 Q X σ v1 → RG σ → TY σ → Ext σi σ → kO σ th 4 → JJ p l e R s m args below meth c 2 D cA A n0 s0 QM σ 38 [(0, .ref th), (1, .int (i32 v1))] [] := by
  intro σ v1 g1 h hGσ hYσ hE hth H locs ls hH hl hc
  have B := K.1
  have hl9 := K.2.2.2.2.2.2
  unfold w_X4_forget_38 at h
  refine lv_aload_n B.1 B.2.1 dX4_forget_38 rfl (lv_at hl 0 rfl) ?_
  refine f_getp B hH hth (by decide) rfl wu_X4 13 (by decide) wf_X4_42 rfl rfl dX4_forget_39 ?_
  refine lv_iload_n B.1 B.2.1 dX4_forget_42 rfl (lv_at hl 1 rfl) ?_
  refine lv_iconst (v := i32 0) B.1 B.2.1 dX4_forget_43 (by decide) ?_
  obtain ⟨a15, ea15, h⟩ := h
  have ka15 : kO σ a15 103 := (hYσ.get hth (by decide)) a15 ea15
  have h := h ka15
  obtain ⟨q1, h⟩ := h
  obtain ⟨σ16, eσ16⟩ : ∃ z, z = pI σ a15 v1.toNat (nZ 0) := ⟨_, rfl⟩
  have h := h σ16 eσ16
  refine W.eq (g2 := F0 m 44 ls [.int (i32 0), .int (i32 v1), .ref a15]) (by rw [ea15]; rfl) ?_
  refine y_zast B K.2.1 hH ka15 q1 dX4_forget_44 (hYσ.2 _) (fun H locs hH => ?_)
  have hH : Hd D cA A s (pI σ a15 v1.toNat (nZ 0)) H locs := hH
  rw [← eσ16] at hH
  have hGσ16 : RG σ16 := by rw [eσ16]; exact hGσ.pI (rng_toInt _)
  have hYσ16 : TY σ16 := by rw [eσ16]; exact hYσ.pI
  have xσ16 : Ext σ σ16 := by rw [eσ16]; exact Ext.pI
  have hc : CB n0 s0 σ16 := by rw [eσ16]; exact hc
  rw [show gc σ = gc σ16 by rw [eσ16]; try rfl, show gs σ = gs σ16 by rw [eσ16]; try rfl]
  obtain ⟨q2, h⟩ := h
  refine lv_iinc (k := 1) (v := i32 (v1 + 1)) (lv' := [(1, .int (i32 (v1 + 1))), (0, .ref th)]) B.1 B.2.1 dX4_forget_45 hl rfl (i32_add _ _) (by decide) rfl (fun ls hl => ?_)
  refine lv_goto (tgt := 33) B.1 B.2.1 dX4_forget_48 (by decide) ?_
  exact hK33 _ _ q2 h hGσ16 hYσ16 (hE.trans xσ16) (hth.up xσ16) _ _ _ hH (lv_sub (l' := [(0, .ref th), (1, .int (i32 (v1 + 1)))]) hl [1, 0] rfl) hc
set_option maxRecDepth 20000 in
theorem a_X4_forget_33 {Q : Sg → Unit → Prop} {X : Sg → String → Prop} {th : Nat} (K : MD l R p s m args c cX4_forget 2 RX4 D cA tys A n0 s0 1 23 []) (hQ : CQV p l e R s m args below meth c cX4_forget D cA A n0 s0 QM σi Q) (hX : CX p l e R s m args below meth c 2 D cA A n0 s0 QM σi X) (hTh : CT p l e R s m args below meth c cX4_forget 2 D cA A n0 s0 QM σi RX4 X) {K33 : Sg → Int → Prop} (hK33 : ∀ (σ : Sg) (v1 : Int) (g1 : rng v1), K33 σ v1 → RG σ → TY σ → Ext σi σ → kO σ th 4 → JJ p l e R s m args below meth c 2 D cA A n0 s0 QM σ 33 [(0, .ref th), (1, .int (i32 v1))] []) : ∀ (σ : Sg) (v1 : Int) (g1 : rng v1), w_X4_forget_33 th K33 Q X σ v1 → RG σ → TY σ → Ext σi σ → kO σ th 4 → JJ p l e R s m args below meth c 2 D cA A n0 s0 QM σ 33 [(0, .ref th), (1, .int (i32 v1))] [] := by
  intro σ v1 g1 h hGσ hYσ hE hth H locs ls hH hl hc
  have B := K.1
  have hl9 := K.2.2.2.2.2.2
  unfold w_X4_forget_33 at h
  refine lv_iload_n B.1 B.2.1 dX4_forget_33 rfl (lv_at hl 1 rfl) ?_
  refine lv_iconst (v := i32 4) B.1 B.2.1 dX4_forget_34 (by decide) ?_
  refine lv_icmp_ge (tgt := 51) B.1 B.2.1 dX4_forget_35 (by decide) (fun h9 => ?_) (fun h9 => ?_)
  · rw [if_pos ((i32_le (by unfold rng; omega) g1).mp h9)] at h
    exact a_X4_forget_51 K hQ hX hTh _ h hGσ hYσ hE hth _ _ _ hH (lv_sub (l' := [(0, .ref th)]) hl [0] rfl) hc
  · rw [if_neg (fun q => h9 ((i32_le (by unfold rng; omega) g1).mpr q))] at h
    exact a_X4_forget_38 K hQ hX hTh hK33 _ _ g1 h hGσ hYσ hE hth _ _ _ hH (lv_sub (l' := [(0, .ref th), (1, .int (i32 v1))]) hl [0, 1] rfl) hc
theorem al_X4_forget_33 {Q : Sg → Unit → Prop} {X : Sg → String → Prop} {th : Nat} (K : MD l R p s m args c cX4_forget 2 RX4 D cA tys A n0 s0 1 23 []) (hQ : CQV p l e R s m args below meth c cX4_forget D cA A n0 s0 QM σi Q) (hX : CX p l e R s m args below meth c 2 D cA A n0 s0 QM σi X) (hTh : CT p l e R s m args below meth c cX4_forget 2 D cA A n0 s0 QM σi RX4 X) : ∀ (n : Nat), ∀ (σ : Sg) (v1 : Int) (g1 : rng v1), wl_X4_forget_33 th Q X n σ v1 → RG σ → TY σ → Ext σi σ → kO σ th 4 → JJ p l e R s m args below meth c 2 D cA A n0 s0 QM σ 33 [(0, .ref th), (1, .int (i32 v1))] [] := by
  intro n
  induction n with
  | zero => intro σ v1 g1 h; exact h.elim
  | succ n ih => exact fun σ v1 g1 h => a_X4_forget_33 K hQ hX hTh ih σ v1 g1 h
set_option maxRecDepth 20000 in
theorem a_X4_forget_0 {Q : Sg → Unit → Prop} {X : Sg → String → Prop} {th : Nat} (K : MD l R p s m args c cX4_forget 2 RX4 D cA tys A n0 s0 1 23 []) (hQ : CQV p l e R s m args below meth c cX4_forget D cA A n0 s0 QM σi Q) (hX : CX p l e R s m args below meth c 2 D cA A n0 s0 QM σi X) (hTh : CT p l e R s m args below meth c cX4_forget 2 D cA A n0 s0 QM σi RX4 X) : ∀ (σ : Sg), w_X4_forget_0 th Q X σ → RG σ → TY σ → Ext σi σ → kO σ th 4 → JJ p l e R s m args below meth c 2 D cA A n0 s0 QM σ 0 [(0, .ref th)] [] := by
  intro σ h hGσ hYσ hE hth H locs ls hH hl hc
  have B := K.1
  have hl9 := K.2.2.2.2.2.2
  unfold w_X4_forget_0 at h
  refine lv_aload_n B.1 B.2.1 dX4_forget_0 rfl (lv_at hl 0 rfl) ?_
  refine lv_iconst (v := i32 0) B.1 B.2.1 dX4_forget_1 (by decide) ?_
  obtain ⟨σ17, eσ17⟩ : ∃ z, z = pI σ th 1 0 := ⟨_, rfl⟩
  have h := h σ17 eσ17
  refine f_puti B hH hth (by decide) rfl wu_X4 tyX4 tyX4_ok nmX4 1 (by decide) wf_X4_53 rfl (ty := .int) rfl rfl rfl rfl rfl dX4_forget_2 (fun H locs hH => ?_)
  have hH : Hd D cA A s (pI σ th 1 0) H locs := hH
  rw [← eσ17] at hH
  have hGσ17 : RG σ17 := by rw [eσ17]; exact hGσ.pI (by unfold rng; omega)
  have hYσ17 : TY σ17 := by rw [eσ17]; exact hYσ.pI
  have xσ17 : Ext σ σ17 := by rw [eσ17]; exact Ext.pI
  have hc : CB n0 s0 σ17 := by rw [eσ17]; exact hc
  rw [show gc σ = gc σ17 by rw [eσ17]; try rfl, show gs σ = gs σ17 by rw [eσ17]; try rfl]
  refine lv_aload_n B.1 B.2.1 dX4_forget_5 rfl (lv_at hl 0 rfl) ?_
  refine lv_iconst (v := i32 0) B.1 B.2.1 dX4_forget_6 (by decide) ?_
  obtain ⟨σ18, eσ18⟩ : ∃ z, z = pI σ17 th 2 0 := ⟨_, rfl⟩
  have h := h σ18 eσ18
  refine f_puti B hH (hth.up xσ17) (by decide) rfl wu_X4 tyX4 tyX4_ok nmX4 2 (by decide) wf_X4_57 rfl (ty := .int) rfl rfl rfl rfl rfl dX4_forget_7 (fun H locs hH => ?_)
  have hH : Hd D cA A s (pI σ17 th 2 0) H locs := hH
  rw [← eσ18] at hH
  have hGσ18 : RG σ18 := by rw [eσ18]; exact hGσ17.pI (by unfold rng; omega)
  have hYσ18 : TY σ18 := by rw [eσ18]; exact hYσ17.pI
  have xσ18 : Ext σ17 σ18 := by rw [eσ18]; exact Ext.pI
  have hc : CB n0 s0 σ18 := by rw [eσ18]; exact hc
  rw [show gc σ17 = gc σ18 by rw [eσ18]; try rfl, show gs σ17 = gs σ18 by rw [eσ18]; try rfl]
  refine lv_aload_n B.1 B.2.1 dX4_forget_10 rfl (lv_at hl 0 rfl) ?_
  refine lv_iconst (v := i32 0) B.1 B.2.1 dX4_forget_11 (by decide) ?_
  obtain ⟨σ19, eσ19⟩ : ∃ z, z = pI σ18 th 7 0 := ⟨_, rfl⟩
  have h := h σ19 eσ19
  refine f_puti B hH (hth.up (xσ17.trans xσ18)) (by decide) rfl wu_X4 tyX4 tyX4_ok nmX4 7 (by decide) wf_X4_60 rfl (ty := .int) rfl rfl rfl rfl rfl dX4_forget_12 (fun H locs hH => ?_)
  have hH : Hd D cA A s (pI σ18 th 7 0) H locs := hH
  rw [← eσ19] at hH
  have hGσ19 : RG σ19 := by rw [eσ19]; exact hGσ18.pI (by unfold rng; omega)
  have hYσ19 : TY σ19 := by rw [eσ19]; exact hYσ18.pI
  have xσ19 : Ext σ18 σ19 := by rw [eσ19]; exact Ext.pI
  have hc : CB n0 s0 σ19 := by rw [eσ19]; exact hc
  rw [show gc σ18 = gc σ19 by rw [eσ19]; try rfl, show gs σ18 = gs σ19 by rw [eσ19]; try rfl]
  refine lv_aload_n B.1 B.2.1 dX4_forget_15 rfl (lv_at hl 0 rfl) ?_
  refine f_getp B hH (hth.up (xσ17.trans (xσ18.trans xσ19))) (by decide) rfl wu_X4 4 (by decide) wf_X4_21 rfl rfl dX4_forget_16 ?_
  refine lv_iconst (v := i32 (-1)) B.1 B.2.1 dX4_forget_19 (by decide) ?_
  refine W.eq (g2 := F0 m 20 ls [.int (i32 (-1)), va_rf (gP σ19 th 4)]) (rfl) ?_
  refine c_S B hH hl hc K.2.2.1 (As := [va_rf (gP σ19 th 4), .int (i32 (-1))]) (okC_J7_fill_53178 hl9 K.2.1 σ19 (gP σ19 th 4) (-1) (hYσ19.get (hth.up (xσ17.trans (xσ18.trans xσ19))) (by decide)) (by unfold rng; omega) hGσ19 hYσ19 h) wc_X4_47 2 hdC_J7_fill_53178 ⟨Nat.le_trans (Nat.le_of_ble_eq_true rfl) K.2.2.2.1, Nat.le_trans (Nat.le_of_ble_eq_true rfl) K.2.2.2.2.1⟩ rfl (rest := []) rfl (Nat.le_of_ble_eq_true rfl) dX4_forget_20 (fun σ20 w hq => ?_) (fun σ9 E9 hx9 => hX σ9 E9 _ _ _ (tb_out K.2.2.2.2.2.1 rfl) hx9.1 hx9.2.1 hx9.2.2.1 ((((hE.trans xσ17).trans xσ18).trans xσ19).trans hx9.2.2.2))
  obtain ⟨rfl, h, hGσ20, hYσ20, xσ20⟩ := hq
  have h := h xσ20
  intro H locs ls hH hl hc
  refine W.eq (g2 := F0 m 23 ls []) (rfl) ?_
  try dsimp only at h
  refine lv_aload_n B.1 B.2.1 dX4_forget_23 rfl (lv_at hl 0 rfl) ?_
  refine f_getp B hH (hth.up (xσ17.trans (xσ18.trans (xσ19.trans xσ20)))) (by decide) rfl wu_X4 12 (by decide) wf_X4_39 rfl rfl dX4_forget_24 ?_
  refine lv_iconst (v := i32 0) B.1 B.2.1 dX4_forget_27 (by decide) ?_
  refine W.eq (g2 := F0 m 28 ls [.int (i32 0), va_rf (gP σ20 th 12)]) (rfl) ?_
  refine c_S B hH hl hc K.2.2.1 (As := [va_rf (gP σ20 th 12), .int (i32 0)]) (okC_J7_fill_53178 hl9 K.2.1 σ20 (gP σ20 th 12) 0 (hYσ20.get (hth.up (xσ17.trans (xσ18.trans (xσ19.trans xσ20)))) (by decide)) (by unfold rng; omega) hGσ20 hYσ20 h) wc_X4_47 2 hdC_J7_fill_53178 ⟨Nat.le_trans (Nat.le_of_ble_eq_true rfl) K.2.2.2.1, Nat.le_trans (Nat.le_of_ble_eq_true rfl) K.2.2.2.2.1⟩ rfl (rest := []) rfl (Nat.le_of_ble_eq_true rfl) dX4_forget_28 (fun σ21 w hq => ?_) (fun σ9 E9 hx9 => hX σ9 E9 _ _ _ (tb_out K.2.2.2.2.2.1 rfl) hx9.1 hx9.2.1 hx9.2.2.1 (((((hE.trans xσ17).trans xσ18).trans xσ19).trans xσ20).trans hx9.2.2.2))
  obtain ⟨rfl, h, hGσ21, hYσ21, xσ21⟩ := hq
  have h := h xσ21
  intro H locs ls hH hl hc
  refine W.eq (g2 := F0 m 31 ls []) (rfl) ?_
  try dsimp only at h
  refine lv_iconst (v := i32 0) B.1 B.2.1 dX4_forget_31 (by decide) ?_
  refine lv_istore_n (lv' := [(1, .int (i32 0)), (0, .ref th)]) B.1 B.2.1 dX4_forget_32 rfl hl (by decide) rfl (fun ls hl => ?_)
  obtain ⟨n9, h⟩ := h
  exact al_X4_forget_33 K hQ hX hTh n9 _ _ (by unfold rng; omega) h hGσ21 hYσ21 (((((hE.trans xσ17).trans xσ18).trans xσ19).trans xσ20).trans xσ21) (hth.up (xσ17.trans (xσ18.trans (xσ19.trans (xσ20.trans xσ21))))) _ _ _ hH (lv_sub (l' := [(0, .ref th), (1, .int (i32 0))]) hl [1, 0] rfl) hc
theorem ok_X4_forget (hl0 : l.stackTraces = false) (hT : TyC cA tys) {Q : Sg → Unit → Prop} {X : Sg → String → Prop} (σ : Sg) (th : Nat) (hth : kO σ th 4) (hG : RG σ) (hY : TY σ) (h : wp_X4_forget th σ Q X) : Ok l D cA tys A yX4_forget (.code yX4_forget cX4_forget 2 none) 1 23 [.ref th] σ (QcV σ Q) (QxC σ X) := by
  unfold wp_X4_forget at h
  exact oc_V hl0 (by decide) (by exact Nat.le_of_ble_eq_true rfl) hT (fun p e R s m args below meth c K hQ hX hTh hin9 H locs ls hH hl hc => a_X4_forget_0 K hQ hX hTh σ h hG hY (Ext.rfl' σ) hth H locs ls hH (lv_sub (l' := [(0, .ref th)]) hl [0] rfl) hc)
theorem dX8_releaseAll_0 : decode cX8_releaseAll 0 = .ok (.aload_n 1, 1) := by decide +kernel
theorem dX8_releaseAll_1 : decode cX8_releaseAll 1 = .ok (.getfield 58, 3) := by decide +kernel
theorem dX8_releaseAll_4 : decode cX8_releaseAll 4 = .ok (.ifnull 22, 3) := by decide +kernel
theorem dX8_releaseAll_7 : decode cX8_releaseAll 7 = .ok (.aload_n 1, 1) := by decide +kernel
theorem dX8_releaseAll_8 : decode cX8_releaseAll 8 = .ok (.getfield 58, 3) := by decide +kernel
theorem dX8_releaseAll_11 : decode cX8_releaseAll 11 = .ok (.aload_n 0, 1) := by decide +kernel
theorem dX8_releaseAll_12 : decode cX8_releaseAll 12 = .ok (.getfield 15, 3) := by decide +kernel
theorem dX8_releaseAll_15 : decode cX8_releaseAll 15 = .ok (.putfield 22, 3) := by decide +kernel
theorem dX8_releaseAll_18 : decode cX8_releaseAll 18 = .ok (.aload_n 0, 1) := by decide +kernel
theorem dX8_releaseAll_19 : decode cX8_releaseAll 19 = .ok (.aload_n 1, 1) := by decide +kernel
theorem dX8_releaseAll_20 : decode cX8_releaseAll 20 = .ok (.getfield 63, 3) := by decide +kernel
theorem dX8_releaseAll_23 : decode cX8_releaseAll 23 = .ok (.putfield 15, 3) := by decide +kernel
theorem dX8_releaseAll_26 : decode cX8_releaseAll 26 = .ok (.aload_n 1, 1) := by decide +kernel
theorem dX8_releaseAll_27 : decode cX8_releaseAll 27 = .ok (.aconst_null, 1) := by decide +kernel
theorem dX8_releaseAll_28 : decode cX8_releaseAll 28 = .ok (.putfield 63, 3) := by decide +kernel
theorem dX8_releaseAll_31 : decode cX8_releaseAll 31 = .ok (.aload_n 1, 1) := by decide +kernel
theorem dX8_releaseAll_32 : decode cX8_releaseAll 32 = .ok (.aconst_null, 1) := by decide +kernel
theorem dX8_releaseAll_33 : decode cX8_releaseAll 33 = .ok (.putfield 58, 3) := by decide +kernel
theorem dX8_releaseAll_36 : decode cX8_releaseAll 36 = .ok (.aload_n 1, 1) := by decide +kernel
theorem dX8_releaseAll_37 : decode cX8_releaseAll 37 = .ok (.iconst 0, 1) := by decide +kernel
theorem dX8_releaseAll_38 : decode cX8_releaseAll 38 = .ok (.putfield 66, 3) := by decide +kernel
theorem dX8_releaseAll_41 : decode cX8_releaseAll 41 = .ok (.return_, 1) := by decide +kernel
set_option maxRecDepth 20000 in
theorem a_X8_releaseAll_26 {Q : Sg → Unit → Prop} {X : Sg → String → Prop} {th : Nat} (K : MD l R p s m args c cX8_releaseAll 2 RX8 D cA tys A n0 s0 0 0 []) (hQ : CQV p l e R s m args below meth c cX8_releaseAll D cA A n0 s0 QM σi Q) (hX : CX p l e R s m args below meth c 2 D cA A n0 s0 QM σi X) (hTh : CT p l e R s m args below meth c cX8_releaseAll 2 D cA A n0 s0 QM σi RX8 X) : ∀ (σ : Sg) (v1 : Option Nat) (g1 : tyV σ 1 v1), w_X8_releaseAll_26 th Q X σ v1 → RG σ → TY σ → Ext σi σ → kO σ th 8 → JJ p l e R s m args below meth c 2 D cA A n0 s0 QM σ 26 [(0, .ref th), (1, va_rf v1)] [] := by
  intro σ v1 g1 h hGσ hYσ hE hth H locs ls hH hl hc
  have B := K.1
  have hl9 := K.2.2.2.2.2.2
  unfold w_X8_releaseAll_26 at h
  refine lv_aload_nQ B.1 B.2.1 dX8_releaseAll_26 rfl (lv_at hl 1 rfl) ?_
  refine lv_null B.1 B.2.1 dX8_releaseAll_27 ?_
  obtain ⟨a19, ea19, h⟩ := h
  have ka19 : kO σ a19 1 := g1 a19 ea19
  have h := h ka19
  obtain ⟨σ20, eσ20⟩ : ∃ z, z = pP σ a19 0 none := ⟨_, rfl⟩
  have h := h σ20 eσ20
  refine W.eq (g2 := F0 m 28 ls [va_rf none, .ref a19]) (by rw [ea19]; rfl) ?_
  refine f_putp B hH ka19 (by decide) rfl wu_X1 tyX1 tyX1_ok nmX1 0 (by decide) wf_X8_63 rfl (r := none) (ty := .object "StreamHouse$Cell") rfl rfl rfl (nrO _ _) (ftO _ _) dX8_releaseAll_28 (fun H locs hH => ?_)
  have hH : Hd D cA A s (pP σ a19 0 none) H locs := hH
  rw [← eσ20] at hH
  have hGσ20 : RG σ20 := by rw [eσ20]; exact hGσ.pP
  have hYσ20 : TY σ20 := by rw [eσ20]; exact hYσ.pP ka19 (d := 0) (by decide) (tyn _ _)
  have xσ20 : Ext σ σ20 := by rw [eσ20]; exact Ext.pP
  have hc : CB n0 s0 σ20 := by rw [eσ20]; exact hc
  rw [show gc σ = gc σ20 by rw [eσ20]; try rfl, show gs σ = gs σ20 by rw [eσ20]; try rfl]
  refine lv_aload_nQ B.1 B.2.1 dX8_releaseAll_31 rfl (lv_at hl 1 rfl) ?_
  refine lv_null B.1 B.2.1 dX8_releaseAll_32 ?_
  obtain ⟨σ21, eσ21⟩ : ∃ z, z = pP σ20 a19 1 none := ⟨_, rfl⟩
  have h := h σ21 eσ21
  refine W.eq (g2 := F0 m 33 ls [va_rf none, .ref a19]) (by rw [ea19]; rfl) ?_
  refine f_putp B hH (ka19.up xσ20) (by decide) rfl wu_X1 tyX1 tyX1_ok nmX1 1 (by decide) wf_X8_58 rfl (r := none) (ty := .object "StreamHouse$Cell") rfl rfl rfl (nrO _ _) (ftO _ _) dX8_releaseAll_33 (fun H locs hH => ?_)
  have hH : Hd D cA A s (pP σ20 a19 1 none) H locs := hH
  rw [← eσ21] at hH
  have hGσ21 : RG σ21 := by rw [eσ21]; exact hGσ20.pP
  have hYσ21 : TY σ21 := by rw [eσ21]; exact hYσ20.pP (ka19.up xσ20) (d := 0) (by decide) (tyn _ _)
  have xσ21 : Ext σ20 σ21 := by rw [eσ21]; exact Ext.pP
  have hc : CB n0 s0 σ21 := by rw [eσ21]; exact hc
  rw [show gc σ20 = gc σ21 by rw [eσ21]; try rfl, show gs σ20 = gs σ21 by rw [eσ21]; try rfl]
  refine lv_aload_nQ B.1 B.2.1 dX8_releaseAll_36 rfl (lv_at hl 1 rfl) ?_
  refine lv_iconst (v := i32 0) B.1 B.2.1 dX8_releaseAll_37 (by decide) ?_
  obtain ⟨σ22, eσ22⟩ : ∃ z, z = pI σ21 a19 2 0 := ⟨_, rfl⟩
  have h := h σ22 eσ22
  refine W.eq (g2 := F0 m 38 ls [.int (i32 0), .ref a19]) (by rw [ea19]; rfl) ?_
  refine f_puti B hH (ka19.up (xσ20.trans xσ21)) (by decide) rfl wu_X1 tyX1 tyX1_ok nmX1 2 (by decide) wf_X8_66 rfl (ty := .int) rfl rfl rfl rfl rfl dX8_releaseAll_38 (fun H locs hH => ?_)
  have hH : Hd D cA A s (pI σ21 a19 2 0) H locs := hH
  rw [← eσ22] at hH
  have hGσ22 : RG σ22 := by rw [eσ22]; exact hGσ21.pI (by unfold rng; omega)
  have hYσ22 : TY σ22 := by rw [eσ22]; exact hYσ21.pI
  have xσ22 : Ext σ21 σ22 := by rw [eσ22]; exact Ext.pI
  have hc : CB n0 s0 σ22 := by rw [eσ22]; exact hc
  rw [show gc σ21 = gc σ22 by rw [eσ22]; try rfl, show gs σ21 = gs σ22 by rw [eσ22]; try rfl]
  exact hQ _ _ _ _ _ dX8_releaseAll_41 hH hc h hGσ22 hYσ22 (((hE.trans xσ20).trans xσ21).trans xσ22)
set_option maxRecDepth 20000 in
theorem a_X8_releaseAll_7 {Q : Sg → Unit → Prop} {X : Sg → String → Prop} {th : Nat} (K : MD l R p s m args c cX8_releaseAll 2 RX8 D cA tys A n0 s0 0 0 []) (hQ : CQV p l e R s m args below meth c cX8_releaseAll D cA A n0 s0 QM σi Q) (hX : CX p l e R s m args below meth c 2 D cA A n0 s0 QM σi X) (hTh : CT p l e R s m args below meth c cX8_releaseAll 2 D cA A n0 s0 QM σi RX8 X) : ∀ (σ : Sg) (v1 : Option Nat) (g1 : tyV σ 1 v1), w_X8_releaseAll_7 th Q X σ v1 → RG σ → TY σ → Ext σi σ → kO σ th 8 → JJ p l e R s m args below meth c 2 D cA A n0 s0 QM σ 7 [(0, .ref th), (1, va_rf v1)] [] := by
  intro σ v1 g1 h hGσ hYσ hE hth H locs ls hH hl hc
  have B := K.1
  have hl9 := K.2.2.2.2.2.2
  unfold w_X8_releaseAll_7 at h
  refine lv_aload_nQ B.1 B.2.1 dX8_releaseAll_7 rfl (lv_at hl 1 rfl) ?_
  obtain ⟨a23, ea23, h⟩ := h
  have ka23 : kO σ a23 1 := g1 a23 ea23
  have h := h ka23
  refine W.eq (g2 := F0 m 8 ls [.ref a23]) (by rw [ea23]; rfl) ?_
  refine f_getp B hH ka23 (by decide) rfl wu_X1 1 (by decide) wf_X8_58 rfl rfl dX8_releaseAll_8 ?_
  refine lv_aload_n B.1 B.2.1 dX8_releaseAll_11 rfl (lv_at hl 0 rfl) ?_
  refine f_getp B hH hth (by decide) rfl wu_X8 0 (by decide) wf_X8_15 rfl rfl dX8_releaseAll_12 ?_
  obtain ⟨a24, ea24, h⟩ := h
  have ka24 : kO σ a24 0 := (hYσ.get ka23 (by decide)) a24 ea24
  have h := h ka24
  obtain ⟨σ25, eσ25⟩ : ∃ z, z = pP σ a24 1 (gP σ th 0) := ⟨_, rfl⟩
  have h := h σ25 eσ25
  refine W.eq (g2 := F0 m 15 ls [va_rf (gP σ th 0), .ref a24]) (by rw [ea24]; rfl) ?_
  refine f_putp B hH ka24 (by decide) rfl wu_X0 tyX0 tyX0_ok nmX0 1 (by decide) wf_X8_22 rfl (r := (gP σ th 0)) (ty := .object "StreamHouse$Cell") rfl rfl rfl (nrO _ _) (ftO _ _) dX8_releaseAll_15 (fun H locs hH => ?_)
  have hH : Hd D cA A s (pP σ a24 1 (gP σ th 0)) H locs := hH
  rw [← eσ25] at hH
  have hGσ25 : RG σ25 := by rw [eσ25]; exact hGσ.pP
  have hYσ25 : TY σ25 := by rw [eσ25]; exact hYσ.pP ka24 (d := 0) (by decide) (hYσ.get hth (by decide))
  have xσ25 : Ext σ σ25 := by rw [eσ25]; exact Ext.pP
  have hc : CB n0 s0 σ25 := by rw [eσ25]; exact hc
  rw [show gc σ = gc σ25 by rw [eσ25]; try rfl, show gs σ = gs σ25 by rw [eσ25]; try rfl]
  refine lv_aload_n B.1 B.2.1 dX8_releaseAll_18 rfl (lv_at hl 0 rfl) ?_
  refine lv_aload_nQ B.1 B.2.1 dX8_releaseAll_19 rfl (lv_at hl 1 rfl) ?_
  refine W.eq (g2 := F0 m 20 ls [.ref a23, .ref th]) (by rw [ea23]; rfl) ?_
  refine f_getp B hH (ka23.up xσ25) (by decide) rfl wu_X1 0 (by decide) wf_X8_63 rfl rfl dX8_releaseAll_20 ?_
  obtain ⟨σ26, eσ26⟩ : ∃ z, z = pP σ25 th 0 (gP σ25 a23 0) := ⟨_, rfl⟩
  have h := h σ26 eσ26
  refine W.eq (g2 := F0 m 23 ls [va_rf (gP σ25 a23 0), .ref th]) (rfl) ?_
  refine f_putp B hH (hth.up xσ25) (by decide) rfl wu_X8 tyX8 tyX8_ok nmX8 0 (by decide) wf_X8_15 rfl (r := (gP σ25 a23 0)) (ty := .object "StreamHouse$Cell") rfl rfl rfl (nrO _ _) (ftO _ _) dX8_releaseAll_23 (fun H locs hH => ?_)
  have hH : Hd D cA A s (pP σ25 th 0 (gP σ25 a23 0)) H locs := hH
  rw [← eσ26] at hH
  have hGσ26 : RG σ26 := by rw [eσ26]; exact hGσ25.pP
  have hYσ26 : TY σ26 := by rw [eσ26]; exact hYσ25.pP (hth.up xσ25) (d := 0) (by decide) (hYσ25.get (ka23.up xσ25) (by decide))
  have xσ26 : Ext σ25 σ26 := by rw [eσ26]; exact Ext.pP
  have hc : CB n0 s0 σ26 := by rw [eσ26]; exact hc
  rw [show gc σ25 = gc σ26 by rw [eσ26]; try rfl, show gs σ25 = gs σ26 by rw [eσ26]; try rfl]
  exact a_X8_releaseAll_26 K hQ hX hTh _ _ (g1.up (xσ25.trans xσ26)) h hGσ26 hYσ26 ((hE.trans xσ25).trans xσ26) (hth.up (xσ25.trans xσ26)) _ _ _ hH (lv_sub (l' := [(0, .ref th), (1, va_rf v1)]) hl [0, 1] rfl) hc
set_option maxRecDepth 20000 in
theorem a_X8_releaseAll_0 {Q : Sg → Unit → Prop} {X : Sg → String → Prop} {th : Nat} (K : MD l R p s m args c cX8_releaseAll 2 RX8 D cA tys A n0 s0 0 0 []) (hQ : CQV p l e R s m args below meth c cX8_releaseAll D cA A n0 s0 QM σi Q) (hX : CX p l e R s m args below meth c 2 D cA A n0 s0 QM σi X) (hTh : CT p l e R s m args below meth c cX8_releaseAll 2 D cA A n0 s0 QM σi RX8 X) : ∀ (σ : Sg) (v1 : Option Nat) (g1 : tyV σ 1 v1), w_X8_releaseAll_0 th Q X σ v1 → RG σ → TY σ → Ext σi σ → kO σ th 8 → JJ p l e R s m args below meth c 2 D cA A n0 s0 QM σ 0 [(0, .ref th), (1, va_rf v1)] [] := by
  intro σ v1 g1 h hGσ hYσ hE hth H locs ls hH hl hc
  have B := K.1
  have hl9 := K.2.2.2.2.2.2
  unfold w_X8_releaseAll_0 at h
  refine lv_aload_nQ B.1 B.2.1 dX8_releaseAll_0 rfl (lv_at hl 1 rfl) ?_
  obtain ⟨a27, ea27, h⟩ := h
  have ka27 : kO σ a27 1 := g1 a27 ea27
  have h := h ka27
  refine W.eq (g2 := F0 m 1 ls [.ref a27]) (by rw [ea27]; rfl) ?_
  refine f_getp B hH ka27 (by decide) rfl wu_X1 1 (by decide) wf_X8_58 rfl rfl dX8_releaseAll_1 ?_
  refine lv_ifnullQ (tgt := 26) B.1 B.2.1 dX8_releaseAll_4 (by decide) (fun h9 => ?_) (fun h9 => ?_)
  · rw [if_pos (h9)] at h
    exact a_X8_releaseAll_26 K hQ hX hTh _ _ g1 h hGσ hYσ hE hth _ _ _ hH (lv_sub (l' := [(0, .ref th), (1, va_rf v1)]) hl [0, 1] rfl) hc
  · rw [if_neg (h9)] at h
    exact a_X8_releaseAll_7 K hQ hX hTh _ _ g1 h hGσ hYσ hE hth _ _ _ hH (lv_sub (l' := [(0, .ref th), (1, va_rf v1)]) hl [0, 1] rfl) hc
theorem ok_X8_releaseAll (hl0 : l.stackTraces = false) (hT : TyC cA tys) {Q : Sg → Unit → Prop} {X : Sg → String → Prop} (σ : Sg) (th : Nat) (v1 : Option Nat) (g1 : tyV σ 1 v1) (hth : kO σ th 8) (hG : RG σ) (hY : TY σ) (h : wp_X8_releaseAll th v1 σ Q X) : Ok l D cA tys A yX8_releaseAll (.code yX8_releaseAll cX8_releaseAll 2 none) 0 0 [.ref th, va_rf v1] σ (QcV σ Q) (QxC σ X) := by
  unfold wp_X8_releaseAll at h
  exact oc_V hl0 (by decide) (by cases v1 <;> exact Nat.le_of_ble_eq_true rfl) hT (fun p e R s m args below meth c K hQ hX hTh hin9 H locs ls hH hl hc => a_X8_releaseAll_0 K hQ hX hTh σ v1 g1 h hG hY (Ext.rfl' σ) hth H locs ls hH (lv_sub (l' := [(0, .ref th), (1, va_rf v1)]) hl [0, 1] (by cases v1 <;> rfl)) hc)
theorem dX3_releaseParts_0 : decode cX3_releaseParts 0 = .ok (.iconst 0, 1) := by decide +kernel
theorem dX3_releaseParts_1 : decode cX3_releaseParts 1 = .ok (.istore_n 2, 1) := by decide +kernel
theorem dX3_releaseParts_2 : decode cX3_releaseParts 2 = .ok (.iload_n 2, 1) := by decide +kernel
theorem dX3_releaseParts_3 : decode cX3_releaseParts 3 = .ok (.aload_n 1, 1) := by decide +kernel
theorem dX3_releaseParts_4 : decode cX3_releaseParts 4 = .ok (.arraylength, 1) := by decide +kernel
theorem dX3_releaseParts_5 : decode cX3_releaseParts 5 = .ok (.if_icmp .ge 35, 3) := by decide +kernel
theorem dX3_releaseParts_8 : decode cX3_releaseParts 8 = .ok (.aload_n 1, 1) := by decide +kernel
theorem dX3_releaseParts_9 : decode cX3_releaseParts 9 = .ok (.iload_n 2, 1) := by decide +kernel
theorem dX3_releaseParts_10 : decode cX3_releaseParts 10 = .ok (.aaload, 1) := by decide +kernel
theorem dX3_releaseParts_11 : decode cX3_releaseParts 11 = .ok (.ifnull 23, 3) := by decide +kernel
theorem dX3_releaseParts_14 : decode cX3_releaseParts 14 = .ok (.aload_n 0, 1) := by decide +kernel
theorem dX3_releaseParts_15 : decode cX3_releaseParts 15 = .ok (.aload_n 1, 1) := by decide +kernel
theorem dX3_releaseParts_16 : decode cX3_releaseParts 16 = .ok (.iload_n 2, 1) := by decide +kernel
theorem dX3_releaseParts_17 : decode cX3_releaseParts 17 = .ok (.aaload, 1) := by decide +kernel
theorem dX3_releaseParts_18 : decode cX3_releaseParts 18 = .ok (.getfield 78, 3) := by decide +kernel
theorem dX3_releaseParts_21 : decode cX3_releaseParts 21 = .ok (.invokevirtual 82, 3) := by decide +kernel
theorem dX3_releaseParts_24 : decode cX3_releaseParts 24 = .ok (.aload_n 0, 1) := by decide +kernel
theorem dX3_releaseParts_25 : decode cX3_releaseParts 25 = .ok (.aload_n 1, 1) := by decide +kernel
theorem dX3_releaseParts_26 : decode cX3_releaseParts 26 = .ok (.iload_n 2, 1) := by decide +kernel
theorem dX3_releaseParts_27 : decode cX3_releaseParts 27 = .ok (.aaload, 1) := by decide +kernel
theorem dX3_releaseParts_28 : decode cX3_releaseParts 28 = .ok (.getfield 88, 3) := by decide +kernel
theorem dX3_releaseParts_31 : decode cX3_releaseParts 31 = .ok (.invokevirtual 82, 3) := by decide +kernel
theorem dX3_releaseParts_34 : decode cX3_releaseParts 34 = .ok (.iinc 2 1, 3) := by decide +kernel
theorem dX3_releaseParts_37 : decode cX3_releaseParts 37 = .ok (.goto (-35), 3) := by decide +kernel
theorem dX3_releaseParts_40 : decode cX3_releaseParts 40 = .ok (.return_, 1) := by decide +kernel
set_option maxRecDepth 20000 in
theorem a_X3_releaseParts_40 {Q : Sg → Unit → Prop} {X : Sg → String → Prop} (K : MD l R p s m args c cX3_releaseParts 3 RX3 D cA tys A n0 s0 1 21 []) (hQ : CQV p l e R s m args below meth c cX3_releaseParts D cA A n0 s0 QM σi Q) (hX : CX p l e R s m args below meth c 3 D cA A n0 s0 QM σi X) (hTh : CT p l e R s m args below meth c cX3_releaseParts 3 D cA A n0 s0 QM σi RX3 X) : ∀ (σ : Sg), w_X3_releaseParts_40 Q X σ → RG σ → TY σ → Ext σi σ → JJ p l e R s m args below meth c 3 D cA A n0 s0 QM σ 40 [] [] := by
  intro σ h hGσ hYσ hE H locs ls hH hl hc
  have B := K.1
  have hl9 := K.2.2.2.2.2.2
  unfold w_X3_releaseParts_40 at h
  exact hQ _ _ _ _ _ dX3_releaseParts_40 hH hc h hGσ hYσ hE
set_option maxRecDepth 20000 in
theorem a_X3_releaseParts_34 {Q : Sg → Unit → Prop} {X : Sg → String → Prop} (K : MD l R p s m args c cX3_releaseParts 3 RX3 D cA tys A n0 s0 1 21 []) (hQ : CQV p l e R s m args below meth c cX3_releaseParts D cA A n0 s0 QM σi Q) (hX : CX p l e R s m args below meth c 3 D cA A n0 s0 QM σi X) (hTh : CT p l e R s m args below meth c cX3_releaseParts 3 D cA A n0 s0 QM σi RX3 X) {K2 : Sg → Option Nat → Option Nat → Int → Prop} (hK2 : ∀ (σ : Sg) (v0 : Option Nat) (v1 : Option Nat) (v2 : Int) (g0 : tyV σ 8 v0) (g1 : tyV σ 120 v1) (g2 : rng v2), K2 σ v0 v1 v2 → RG σ → TY σ → Ext σi σ → JJ p l e R s m args below meth c 3 D cA A n0 s0 QM σ 2 [(0, va_rf v0), (1, va_rf v1), (2, .int (i32 v2))] []) : ∀ (σ : Sg) (v0 : Option Nat) (v1 : Option Nat) (v2 : Int) (g0 : tyV σ 8 v0) (g1 : tyV σ 120 v1) (g2 : rng v2), w_X3_releaseParts_34 K2 Q X σ v0 v1 v2 → RG σ → TY σ → Ext σi σ → JJ p l e R s m args below meth c 3 D cA A n0 s0 QM σ 34 [(0, va_rf v0), (1, va_rf v1), (2, .int (i32 v2))] [] := by
  intro σ v0 v1 v2 g0 g1 g2 h hGσ hYσ hE H locs ls hH hl hc
  have B := K.1
  have hl9 := K.2.2.2.2.2.2
  unfold w_X3_releaseParts_34 at h
  obtain ⟨q1, h⟩ := h
  refine lv_iinc (k := 2) (v := i32 (v2 + 1)) (lv' := [(2, .int (i32 (v2 + 1))), (0, va_rf v0), (1, va_rf v1)]) B.1 B.2.1 dX3_releaseParts_34 hl rfl (i32_add _ _) (by decide) (by generalize v1 = w9; cases w9 <;> rfl) (fun ls hl => ?_)
  refine lv_goto (tgt := 2) B.1 B.2.1 dX3_releaseParts_37 (by decide) ?_
  exact hK2 _ _ _ _ g0 g1 q1 h hGσ hYσ hE _ _ _ hH (lv_sub (l' := [(0, va_rf v0), (1, va_rf v1), (2, .int (i32 (v2 + 1)))]) hl [1, 2, 0] rfl) hc
set_option maxRecDepth 20000 in
theorem a_X3_releaseParts_14 {Q : Sg → Unit → Prop} {X : Sg → String → Prop} (K : MD l R p s m args c cX3_releaseParts 3 RX3 D cA tys A n0 s0 1 21 []) (hQ : CQV p l e R s m args below meth c cX3_releaseParts D cA A n0 s0 QM σi Q) (hX : CX p l e R s m args below meth c 3 D cA A n0 s0 QM σi X) (hTh : CT p l e R s m args below meth c cX3_releaseParts 3 D cA A n0 s0 QM σi RX3 X) {K2 : Sg → Option Nat → Option Nat → Int → Prop} (hK2 : ∀ (σ : Sg) (v0 : Option Nat) (v1 : Option Nat) (v2 : Int) (g0 : tyV σ 8 v0) (g1 : tyV σ 120 v1) (g2 : rng v2), K2 σ v0 v1 v2 → RG σ → TY σ → Ext σi σ → JJ p l e R s m args below meth c 3 D cA A n0 s0 QM σ 2 [(0, va_rf v0), (1, va_rf v1), (2, .int (i32 v2))] []) : ∀ (σ : Sg) (v0 : Option Nat) (v1 : Option Nat) (v2 : Int) (g0 : tyV σ 8 v0) (g1 : tyV σ 120 v1) (g2 : rng v2), w_X3_releaseParts_14 K2 Q X σ v0 v1 v2 → RG σ → TY σ → Ext σi σ → JJ p l e R s m args below meth c 3 D cA A n0 s0 QM σ 14 [(0, va_rf v0), (1, va_rf v1), (2, .int (i32 v2))] [] := by
  intro σ v0 v1 v2 g0 g1 g2 h hGσ hYσ hE H locs ls hH hl hc
  have B := K.1
  have hl9 := K.2.2.2.2.2.2
  unfold w_X3_releaseParts_14 at h
  refine lv_aload_nQ B.1 B.2.1 dX3_releaseParts_14 rfl (lv_at hl 0 rfl) ?_
  refine lv_aload_nQ B.1 B.2.1 dX3_releaseParts_15 rfl (lv_at hl 1 rfl) ?_
  refine lv_iload_n B.1 B.2.1 dX3_releaseParts_16 rfl (lv_at hl 2 rfl) ?_
  obtain ⟨a17, ea17, h⟩ := h
  have ka17 : kO σ a17 120 := g1 a17 ea17
  have h := h ka17
  obtain ⟨q1, h⟩ := h
  refine W.eq (g2 := F0 m 17 ls [.int (i32 v2), .ref a17, va_rf v0]) (by rw [ea17]; rfl) ?_
  refine y_aald B hH (t0 := 7) ka17 (by decide) K.2.1.2.2.2.2.1 q1 (hYσ.2 _) dX3_releaseParts_17 ?_
  obtain ⟨a18, ea18, h⟩ := h
  have ka18 : kO σ a18 10 := (hYσ.get ka17 rfl) a18 ea18
  have h := h ka18
  refine W.eq (g2 := F0 m 18 ls [.ref a18, va_rf v0]) (by rw [ea18]; rfl) ?_
  refine f_getp B hH ka18 (by decide) rfl wu_X10 2 (by decide) wf_X3_78 rfl rfl dX3_releaseParts_18 ?_
  obtain ⟨a20, ea20, h⟩ := h
  have ka20 : kO σ a20 8 := g0 a20 ea20
  have h := h ka20
  refine W.eq (g2 := F0 m 21 ls [va_rf (gP σ a18 2), .ref a20]) (by rw [ea20]; rfl) ?_
  refine c_V B hH hl hc K.2.2.1 (C := RX8) (T := TX8) (N := 3) (ci := 8) (As := [va_rf (gP σ a18 2)]) (ok_X8_releaseAll hl9 K.2.1 σ a20 (gP σ a18 2) (hYσ.get ka18 (by decide)) ka20 hGσ hYσ h) wc_X3_82 1 hd_X8_releaseAll ⟨Nat.le_trans (Nat.le_of_ble_eq_true rfl) K.2.2.2.1, Nat.le_trans (Nat.le_of_ble_eq_true rfl) K.2.2.2.2.1⟩ ka20.1 ka20.2 (by decide) rfl rfl (rest := []) rfl (Nat.le_of_ble_eq_true rfl) dX3_releaseParts_21 (fun σ19 w hq => ?_) (fun σ9 E9 hx9 => hX σ9 E9 _ _ _ (tb_out K.2.2.2.2.2.1 rfl) hx9.1 hx9.2.1 hx9.2.2.1 (hE.trans hx9.2.2.2))
  obtain ⟨rfl, h, hGσ19, hYσ19, xσ19⟩ := hq
  have h := h xσ19
  intro H locs ls hH hl hc
  refine W.eq (g2 := F0 m 24 ls []) (rfl) ?_
  try dsimp only at h
  refine lv_aload_nQ B.1 B.2.1 dX3_releaseParts_24 rfl (lv_at hl 0 rfl) ?_
  refine lv_aload_nQ B.1 B.2.1 dX3_releaseParts_25 rfl (lv_at hl 1 rfl) ?_
  refine lv_iload_n B.1 B.2.1 dX3_releaseParts_26 rfl (lv_at hl 2 rfl) ?_
  obtain ⟨q2, h⟩ := h
  refine W.eq (g2 := F0 m 27 ls [.int (i32 v2), .ref a17, va_rf v0]) (by rw [ea17]; rfl) ?_
  refine y_aald B hH (t0 := 7) (ka17.up xσ19) (by decide) K.2.1.2.2.2.2.1 q2 (hYσ19.2 _) dX3_releaseParts_27 ?_
  obtain ⟨a21, ea21, h⟩ := h
  have ka21 : kO σ19 a21 10 := (hYσ19.get (ka17.up xσ19) rfl) a21 ea21
  have h := h ka21
  refine W.eq (g2 := F0 m 28 ls [.ref a21, va_rf v0]) (by rw [ea21]; rfl) ?_
  refine f_getp B hH ka21 (by decide) rfl wu_X10 3 (by decide) wf_X3_88 rfl rfl dX3_releaseParts_28 ?_
  refine W.eq (g2 := F0 m 31 ls [va_rf (gP σ19 a21 3), .ref a20]) (by rw [ea20]; rfl) ?_
  refine c_V B hH hl hc K.2.2.1 (C := RX8) (T := TX8) (N := 3) (ci := 8) (As := [va_rf (gP σ19 a21 3)]) (ok_X8_releaseAll hl9 K.2.1 σ19 a20 (gP σ19 a21 3) (hYσ19.get ka21 (by decide)) (ka20.up xσ19) hGσ19 hYσ19 h) wc_X3_82 1 hd_X8_releaseAll ⟨Nat.le_trans (Nat.le_of_ble_eq_true rfl) K.2.2.2.1, Nat.le_trans (Nat.le_of_ble_eq_true rfl) K.2.2.2.2.1⟩ (ka20.up xσ19).1 (ka20.up xσ19).2 (by decide) rfl rfl (rest := []) rfl (Nat.le_of_ble_eq_true rfl) dX3_releaseParts_31 (fun σ22 w hq => ?_) (fun σ9 E9 hx9 => hX σ9 E9 _ _ _ (tb_out K.2.2.2.2.2.1 rfl) hx9.1 hx9.2.1 hx9.2.2.1 ((hE.trans xσ19).trans hx9.2.2.2))
  obtain ⟨rfl, h, hGσ22, hYσ22, xσ22⟩ := hq
  have h := h xσ22
  intro H locs ls hH hl hc
  refine W.eq (g2 := F0 m 34 ls []) (rfl) ?_
  try dsimp only at h
  exact a_X3_releaseParts_34 K hQ hX hTh hK2 _ _ _ _ (g0.up (xσ19.trans xσ22)) (g1.up (xσ19.trans xσ22)) g2 h hGσ22 hYσ22 ((hE.trans xσ19).trans xσ22) _ _ _ hH (lv_sub (l' := [(0, va_rf v0), (1, va_rf v1), (2, .int (i32 v2))]) hl [0, 1, 2] rfl) hc
set_option maxRecDepth 20000 in
theorem a_X3_releaseParts_8 {Q : Sg → Unit → Prop} {X : Sg → String → Prop} (K : MD l R p s m args c cX3_releaseParts 3 RX3 D cA tys A n0 s0 1 21 []) (hQ : CQV p l e R s m args below meth c cX3_releaseParts D cA A n0 s0 QM σi Q) (hX : CX p l e R s m args below meth c 3 D cA A n0 s0 QM σi X) (hTh : CT p l e R s m args below meth c cX3_releaseParts 3 D cA A n0 s0 QM σi RX3 X) {K2 : Sg → Option Nat → Option Nat → Int → Prop} (hK2 : ∀ (σ : Sg) (v0 : Option Nat) (v1 : Option Nat) (v2 : Int) (g0 : tyV σ 8 v0) (g1 : tyV σ 120 v1) (g2 : rng v2), K2 σ v0 v1 v2 → RG σ → TY σ → Ext σi σ → JJ p l e R s m args below meth c 3 D cA A n0 s0 QM σ 2 [(0, va_rf v0), (1, va_rf v1), (2, .int (i32 v2))] []) : ∀ (σ : Sg) (v0 : Option Nat) (v1 : Option Nat) (v2 : Int) (g0 : tyV σ 8 v0) (g1 : tyV σ 120 v1) (g2 : rng v2), w_X3_releaseParts_8 K2 Q X σ v0 v1 v2 → RG σ → TY σ → Ext σi σ → JJ p l e R s m args below meth c 3 D cA A n0 s0 QM σ 8 [(0, va_rf v0), (1, va_rf v1), (2, .int (i32 v2))] [] := by
  intro σ v0 v1 v2 g0 g1 g2 h hGσ hYσ hE H locs ls hH hl hc
  have B := K.1
  have hl9 := K.2.2.2.2.2.2
  unfold w_X3_releaseParts_8 at h
  refine lv_aload_nQ B.1 B.2.1 dX3_releaseParts_8 rfl (lv_at hl 1 rfl) ?_
  refine lv_iload_n B.1 B.2.1 dX3_releaseParts_9 rfl (lv_at hl 2 rfl) ?_
  obtain ⟨a23, ea23, h⟩ := h
  have ka23 : kO σ a23 120 := g1 a23 ea23
  have h := h ka23
  obtain ⟨q1, h⟩ := h
  refine W.eq (g2 := F0 m 10 ls [.int (i32 v2), .ref a23]) (by rw [ea23]; rfl) ?_
  refine y_aald B hH (t0 := 7) ka23 (by decide) K.2.1.2.2.2.2.1 q1 (hYσ.2 _) dX3_releaseParts_10 ?_
  refine lv_ifnullQ (tgt := 34) B.1 B.2.1 dX3_releaseParts_11 (by decide) (fun h9 => ?_) (fun h9 => ?_)
  · rw [if_pos (h9)] at h
    exact a_X3_releaseParts_34 K hQ hX hTh hK2 _ _ _ _ g0 g1 g2 h hGσ hYσ hE _ _ _ hH (lv_sub (l' := [(0, va_rf v0), (1, va_rf v1), (2, .int (i32 v2))]) hl [0, 1, 2] rfl) hc
  · rw [if_neg (h9)] at h
    exact a_X3_releaseParts_14 K hQ hX hTh hK2 _ _ _ _ g0 g1 g2 h hGσ hYσ hE _ _ _ hH (lv_sub (l' := [(0, va_rf v0), (1, va_rf v1), (2, .int (i32 v2))]) hl [0, 1, 2] rfl) hc
set_option maxRecDepth 20000 in
theorem a_X3_releaseParts_2 {Q : Sg → Unit → Prop} {X : Sg → String → Prop} (K : MD l R p s m args c cX3_releaseParts 3 RX3 D cA tys A n0 s0 1 21 []) (hQ : CQV p l e R s m args below meth c cX3_releaseParts D cA A n0 s0 QM σi Q) (hX : CX p l e R s m args below meth c 3 D cA A n0 s0 QM σi X) (hTh : CT p l e R s m args below meth c cX3_releaseParts 3 D cA A n0 s0 QM σi RX3 X) {K2 : Sg → Option Nat → Option Nat → Int → Prop} (hK2 : ∀ (σ : Sg) (v0 : Option Nat) (v1 : Option Nat) (v2 : Int) (g0 : tyV σ 8 v0) (g1 : tyV σ 120 v1) (g2 : rng v2), K2 σ v0 v1 v2 → RG σ → TY σ → Ext σi σ → JJ p l e R s m args below meth c 3 D cA A n0 s0 QM σ 2 [(0, va_rf v0), (1, va_rf v1), (2, .int (i32 v2))] []) : ∀ (σ : Sg) (v0 : Option Nat) (v1 : Option Nat) (v2 : Int) (g0 : tyV σ 8 v0) (g1 : tyV σ 120 v1) (g2 : rng v2), w_X3_releaseParts_2 K2 Q X σ v0 v1 v2 → RG σ → TY σ → Ext σi σ → JJ p l e R s m args below meth c 3 D cA A n0 s0 QM σ 2 [(0, va_rf v0), (1, va_rf v1), (2, .int (i32 v2))] [] := by
  intro σ v0 v1 v2 g0 g1 g2 h hGσ hYσ hE H locs ls hH hl hc
  have B := K.1
  have hl9 := K.2.2.2.2.2.2
  unfold w_X3_releaseParts_2 at h
  refine lv_iload_n B.1 B.2.1 dX3_releaseParts_2 rfl (lv_at hl 2 rfl) ?_
  refine lv_aload_nQ B.1 B.2.1 dX3_releaseParts_3 rfl (lv_at hl 1 rfl) ?_
  obtain ⟨a24, ea24, h⟩ := h
  have ka24 : kO σ a24 120 := g1 a24 ea24
  have h := h ka24
  refine W.eq (g2 := F0 m 4 ls [.ref a24, .int (i32 v2)]) (by rw [ea24]; rfl) ?_
  refine h_alen B hH ka24.1 (by decide) ka24.2 7 K.2.1.2.2.2.2.1 dX3_releaseParts_4 ?_
  refine lv_icmp_ge (tgt := 40) B.1 B.2.1 dX3_releaseParts_5 (by decide) (fun h9 => ?_) (fun h9 => ?_)
  · rw [if_pos ((i32_le (rng_gn (hYσ.2 _)) g2).mp h9)] at h
    exact a_X3_releaseParts_40 K hQ hX hTh _ h hGσ hYσ hE _ _ _ hH (lv_sub (l' := []) hl [] rfl) hc
  · rw [if_neg (fun q => h9 ((i32_le (rng_gn (hYσ.2 _)) g2).mpr q))] at h
    exact a_X3_releaseParts_8 K hQ hX hTh hK2 _ _ _ _ g0 g1 g2 h hGσ hYσ hE _ _ _ hH (lv_sub (l' := [(0, va_rf v0), (1, va_rf v1), (2, .int (i32 v2))]) hl [0, 1, 2] rfl) hc
theorem al_X3_releaseParts_2 {Q : Sg → Unit → Prop} {X : Sg → String → Prop} (K : MD l R p s m args c cX3_releaseParts 3 RX3 D cA tys A n0 s0 1 21 []) (hQ : CQV p l e R s m args below meth c cX3_releaseParts D cA A n0 s0 QM σi Q) (hX : CX p l e R s m args below meth c 3 D cA A n0 s0 QM σi X) (hTh : CT p l e R s m args below meth c cX3_releaseParts 3 D cA A n0 s0 QM σi RX3 X) : ∀ (n : Nat), ∀ (σ : Sg) (v0 : Option Nat) (v1 : Option Nat) (v2 : Int) (g0 : tyV σ 8 v0) (g1 : tyV σ 120 v1) (g2 : rng v2), wl_X3_releaseParts_2 Q X n σ v0 v1 v2 → RG σ → TY σ → Ext σi σ → JJ p l e R s m args below meth c 3 D cA A n0 s0 QM σ 2 [(0, va_rf v0), (1, va_rf v1), (2, .int (i32 v2))] [] := by
  intro n
  induction n with
  | zero => intro σ v0 v1 v2 g0 g1 g2 h; exact h.elim
  | succ n ih => exact fun σ v0 v1 v2 g0 g1 g2 h => a_X3_releaseParts_2 K hQ hX hTh ih σ v0 v1 v2 g0 g1 g2 h
set_option maxRecDepth 20000 in
theorem a_X3_releaseParts_0 {Q : Sg → Unit → Prop} {X : Sg → String → Prop} (K : MD l R p s m args c cX3_releaseParts 3 RX3 D cA tys A n0 s0 1 21 []) (hQ : CQV p l e R s m args below meth c cX3_releaseParts D cA A n0 s0 QM σi Q) (hX : CX p l e R s m args below meth c 3 D cA A n0 s0 QM σi X) (hTh : CT p l e R s m args below meth c cX3_releaseParts 3 D cA A n0 s0 QM σi RX3 X) : ∀ (σ : Sg) (v0 : Option Nat) (v1 : Option Nat) (g0 : tyV σ 8 v0) (g1 : tyV σ 120 v1), w_X3_releaseParts_0 Q X σ v0 v1 → RG σ → TY σ → Ext σi σ → JJ p l e R s m args below meth c 3 D cA A n0 s0 QM σ 0 [(0, va_rf v0), (1, va_rf v1)] [] := by
  intro σ v0 v1 g0 g1 h hGσ hYσ hE H locs ls hH hl hc
  have B := K.1
  have hl9 := K.2.2.2.2.2.2
  unfold w_X3_releaseParts_0 at h
  refine lv_iconst (v := i32 0) B.1 B.2.1 dX3_releaseParts_0 (by decide) ?_
  refine lv_istore_n (lv' := [(2, .int (i32 0)), (0, va_rf v0), (1, va_rf v1)]) B.1 B.2.1 dX3_releaseParts_1 rfl hl (by decide) (by generalize v1 = w9; cases w9 <;> rfl) (fun ls hl => ?_)
  obtain ⟨n9, h⟩ := h
  exact al_X3_releaseParts_2 K hQ hX hTh n9 _ _ _ _ g0 g1 (by unfold rng; omega) h hGσ hYσ hE _ _ _ hH (lv_sub (l' := [(0, va_rf v0), (1, va_rf v1), (2, .int (i32 0))]) hl [1, 2, 0] rfl) hc
theorem ok_X3_releaseParts (hl0 : l.stackTraces = false) (hT : TyC cA tys) {Q : Sg → Unit → Prop} {X : Sg → String → Prop} (σ : Sg) (v0 : Option Nat) (v1 : Option Nat) (g0 : tyV σ 8 v0) (g1 : tyV σ 120 v1) (hG : RG σ) (hY : TY σ) (h : wp_X3_releaseParts v0 v1 σ Q X) : Ok l D cA tys A yX3_releaseParts (.code yX3_releaseParts cX3_releaseParts 3 none) 1 21 [va_rf v0, va_rf v1] σ (QcV σ Q) (QxC σ X) := by
  unfold wp_X3_releaseParts at h
  exact oc_V hl0 (by decide) (by cases v0 <;> cases v1 <;> exact Nat.le_of_ble_eq_true rfl) hT (fun p e R s m args below meth c K hQ hX hTh hin9 H locs ls hH hl hc => a_X3_releaseParts_0 K hQ hX hTh σ v0 v1 g0 g1 h hG hY (Ext.rfl' σ) H locs ls hH (lv_sub (l' := [(0, va_rf v0), (1, va_rf v1)]) hl [0, 1] (by cases v0 <;> cases v1 <;> rfl)) hc)
theorem dX3_giveUp_0 : decode cX3_giveUp 0 = .ok (.aload_n 0, 1) := by decide +kernel
theorem dX3_giveUp_1 : decode cX3_giveUp 1 = .ok (.iconst 0, 1) := by decide +kernel
theorem dX3_giveUp_2 : decode cX3_giveUp 2 = .ok (.putfield 27, 3) := by decide +kernel
theorem dX3_giveUp_5 : decode cX3_giveUp 5 = .ok (.aload_n 1, 1) := by decide +kernel
theorem dX3_giveUp_6 : decode cX3_giveUp 6 = .ok (.aload_n 0, 1) := by decide +kernel
theorem dX3_giveUp_7 : decode cX3_giveUp 7 = .ok (.getfield 11, 3) := by decide +kernel
theorem dX3_giveUp_10 : decode cX3_giveUp 10 = .ok (.invokestatic 70, 3) := by decide +kernel
theorem dX3_giveUp_13 : decode cX3_giveUp 13 = .ok (.return_, 1) := by decide +kernel
set_option maxRecDepth 20000 in
theorem a_X3_giveUp_0 {Q : Sg → Unit → Prop} {X : Sg → String → Prop} {th : Nat} (K : MD l R p s m args c cX3_giveUp 2 RX3 D cA tys A n0 s0 2 43 []) (hQ : CQV p l e R s m args below meth c cX3_giveUp D cA A n0 s0 QM σi Q) (hX : CX p l e R s m args below meth c 2 D cA A n0 s0 QM σi X) (hTh : CT p l e R s m args below meth c cX3_giveUp 2 D cA A n0 s0 QM σi RX3 X) : ∀ (σ : Sg) (v1 : Option Nat) (g1 : tyV σ 8 v1), w_X3_giveUp_0 th Q X σ v1 → RG σ → TY σ → Ext σi σ → kO σ th 3 → JJ p l e R s m args below meth c 2 D cA A n0 s0 QM σ 0 [(0, .ref th), (1, va_rf v1)] [] := by
  intro σ v1 g1 h hGσ hYσ hE hth H locs ls hH hl hc
  have B := K.1
  have hl9 := K.2.2.2.2.2.2
  unfold w_X3_giveUp_0 at h
  refine lv_aload_n B.1 B.2.1 dX3_giveUp_0 rfl (lv_at hl 0 rfl) ?_
  refine lv_iconst (v := i32 0) B.1 B.2.1 dX3_giveUp_1 (by decide) ?_
  obtain ⟨σ5, eσ5⟩ : ∃ z, z = pI σ th 3 0 := ⟨_, rfl⟩
  have h := h σ5 eσ5
  refine f_puti B hH hth (by decide) rfl wu_X3 tyX3 tyX3_ok nmX3 3 (by decide) wf_X3_27 rfl (ty := .int) rfl rfl rfl rfl rfl dX3_giveUp_2 (fun H locs hH => ?_)
  have hH : Hd D cA A s (pI σ th 3 0) H locs := hH
  rw [← eσ5] at hH
  have hGσ5 : RG σ5 := by rw [eσ5]; exact hGσ.pI (by unfold rng; omega)
  have hYσ5 : TY σ5 := by rw [eσ5]; exact hYσ.pI
  have xσ5 : Ext σ σ5 := by rw [eσ5]; exact Ext.pI
  have hc : CB n0 s0 σ5 := by rw [eσ5]; exact hc
  rw [show gc σ = gc σ5 by rw [eσ5]; try rfl, show gs σ = gs σ5 by rw [eσ5]; try rfl]
  refine lv_aload_nQ B.1 B.2.1 dX3_giveUp_5 rfl (lv_at hl 1 rfl) ?_
  refine lv_aload_n B.1 B.2.1 dX3_giveUp_6 rfl (lv_at hl 0 rfl) ?_
  refine f_getp B hH (hth.up xσ5) (by decide) rfl wu_X3 0 (by decide) wf_X3_11 rfl rfl dX3_giveUp_7 ?_
  refine W.eq (g2 := F0 m 10 ls [va_rf (gP σ5 th 0), va_rf v1]) (rfl) ?_
  refine c_S B hH hl hc K.2.2.1 (As := [va_rf v1, va_rf (gP σ5 th 0)]) (ok_X3_releaseParts hl9 K.2.1 σ5 v1 (gP σ5 th 0) (g1.up xσ5) (hYσ5.get (hth.up xσ5) (by decide)) hGσ5 hYσ5 h) wc_X3_70 2 hd_X3_releaseParts ⟨Nat.le_trans (Nat.le_of_ble_eq_true rfl) K.2.2.2.1, Nat.le_trans (Nat.le_of_ble_eq_true rfl) K.2.2.2.2.1⟩ rfl (rest := []) rfl (Nat.le_of_ble_eq_true rfl) dX3_giveUp_10 (fun σ6 w hq => ?_) (fun σ9 E9 hx9 => hX σ9 E9 _ _ _ (tb_out K.2.2.2.2.2.1 rfl) hx9.1 hx9.2.1 hx9.2.2.1 ((hE.trans xσ5).trans hx9.2.2.2))
  obtain ⟨rfl, h, hGσ6, hYσ6, xσ6⟩ := hq
  have h := h xσ6
  intro H locs ls hH hl hc
  refine W.eq (g2 := F0 m 13 ls []) (rfl) ?_
  try dsimp only at h
  exact hQ _ _ _ _ _ dX3_giveUp_13 hH hc h hGσ6 hYσ6 ((hE.trans xσ5).trans xσ6)
theorem ok_X3_giveUp (hl0 : l.stackTraces = false) (hT : TyC cA tys) {Q : Sg → Unit → Prop} {X : Sg → String → Prop} (σ : Sg) (th : Nat) (v1 : Option Nat) (g1 : tyV σ 8 v1) (hth : kO σ th 3) (hG : RG σ) (hY : TY σ) (h : wp_X3_giveUp th v1 σ Q X) : Ok l D cA tys A yX3_giveUp (.code yX3_giveUp cX3_giveUp 2 none) 2 43 [.ref th, va_rf v1] σ (QcV σ Q) (QxC σ X) := by
  unfold wp_X3_giveUp at h
  exact oc_V hl0 (by decide) (by cases v1 <;> exact Nat.le_of_ble_eq_true rfl) hT (fun p e R s m args below meth c K hQ hX hTh hin9 H locs ls hH hl hc => a_X3_giveUp_0 K hQ hX hTh σ v1 g1 h hG hY (Ext.rfl' σ) hth H locs ls hH (lv_sub (l' := [(0, .ref th), (1, va_rf v1)]) hl [0, 1] (by cases v1 <;> rfl)) hc)
theorem dX3_forgetMarks_0 : decode cX3_forgetMarks 0 = .ok (.aload_n 0, 1) := by decide +kernel
theorem dX3_forgetMarks_1 : decode cX3_forgetMarks 1 = .ok (.aload_n 1, 1) := by decide +kernel
theorem dX3_forgetMarks_2 : decode cX3_forgetMarks 2 = .ok (.invokevirtual 74, 3) := by decide +kernel
theorem dX3_forgetMarks_5 : decode cX3_forgetMarks 5 = .ok (.aload_n 1, 1) := by decide +kernel
theorem dX3_forgetMarks_6 : decode cX3_forgetMarks 6 = .ok (.aload_n 0, 1) := by decide +kernel
theorem dX3_forgetMarks_7 : decode cX3_forgetMarks 7 = .ok (.getfield 17, 3) := by decide +kernel
theorem dX3_forgetMarks_10 : decode cX3_forgetMarks 10 = .ok (.invokestatic 70, 3) := by decide +kernel
theorem dX3_forgetMarks_13 : decode cX3_forgetMarks 13 = .ok (.aload_n 0, 1) := by decide +kernel
theorem dX3_forgetMarks_14 : decode cX3_forgetMarks 14 = .ok (.iconst 0, 1) := by decide +kernel
theorem dX3_forgetMarks_15 : decode cX3_forgetMarks 15 = .ok (.putfield 24, 3) := by decide +kernel
theorem dX3_forgetMarks_18 : decode cX3_forgetMarks 18 = .ok (.aload_n 0, 1) := by decide +kernel
theorem dX3_forgetMarks_19 : decode cX3_forgetMarks 19 = .ok (.iconst 0, 1) := by decide +kernel
theorem dX3_forgetMarks_20 : decode cX3_forgetMarks 20 = .ok (.putfield 64, 3) := by decide +kernel
theorem dX3_forgetMarks_23 : decode cX3_forgetMarks 23 = .ok (.return_, 1) := by decide +kernel
set_option maxRecDepth 20000 in
theorem a_X3_forgetMarks_0 {Q : Sg → Unit → Prop} {X : Sg → String → Prop} {th : Nat} (K : MD l R p s m args c cX3_forgetMarks 2 RX3 D cA tys A n0 s0 3 64 []) (hQ : CQV p l e R s m args below meth c cX3_forgetMarks D cA A n0 s0 QM σi Q) (hX : CX p l e R s m args below meth c 2 D cA A n0 s0 QM σi X) (hTh : CT p l e R s m args below meth c cX3_forgetMarks 2 D cA A n0 s0 QM σi RX3 X) : ∀ (σ : Sg) (v1 : Option Nat) (g1 : tyV σ 8 v1), w_X3_forgetMarks_0 th Q X σ v1 → RG σ → TY σ → Ext σi σ → kO σ th 3 → JJ p l e R s m args below meth c 2 D cA A n0 s0 QM σ 0 [(0, .ref th), (1, va_rf v1)] [] := by
  intro σ v1 g1 h hGσ hYσ hE hth H locs ls hH hl hc
  have B := K.1
  have hl9 := K.2.2.2.2.2.2
  unfold w_X3_forgetMarks_0 at h
  refine lv_aload_n B.1 B.2.1 dX3_forgetMarks_0 rfl (lv_at hl 0 rfl) ?_
  refine lv_aload_nQ B.1 B.2.1 dX3_forgetMarks_1 rfl (lv_at hl 1 rfl) ?_
  refine W.eq (g2 := F0 m 2 ls [va_rf v1, .ref th]) (rfl) ?_
  refine c_V B hH hl hc K.2.2.1 (C := RX3) (T := TX3) (N := 10) (ci := 3) (As := [va_rf v1]) (ok_X3_giveUp hl9 K.2.1 σ th v1 g1 hth hGσ hYσ h) wc_X3_74 1 hd_X3_giveUp ⟨Nat.le_trans (Nat.le_of_ble_eq_true rfl) K.2.2.2.1, Nat.le_trans (Nat.le_of_ble_eq_true rfl) K.2.2.2.2.1⟩ hth.1 hth.2 (by decide) rfl rfl (rest := []) rfl (Nat.le_of_ble_eq_true rfl) dX3_forgetMarks_2 (fun σ9 w hq => ?_) (fun σ9 E9 hx9 => hX σ9 E9 _ _ _ (tb_out K.2.2.2.2.2.1 rfl) hx9.1 hx9.2.1 hx9.2.2.1 (hE.trans hx9.2.2.2))
  obtain ⟨rfl, h, hGσ9, hYσ9, xσ9⟩ := hq
  have h := h xσ9
  intro H locs ls hH hl hc
  refine W.eq (g2 := F0 m 5 ls []) (rfl) ?_
  try dsimp only at h
  refine lv_aload_nQ B.1 B.2.1 dX3_forgetMarks_5 rfl (lv_at hl 1 rfl) ?_
  refine lv_aload_n B.1 B.2.1 dX3_forgetMarks_6 rfl (lv_at hl 0 rfl) ?_
  refine f_getp B hH (hth.up xσ9) (by decide) rfl wu_X3 1 (by decide) wf_X3_17 rfl rfl dX3_forgetMarks_7 ?_
  refine W.eq (g2 := F0 m 10 ls [va_rf (gP σ9 th 1), va_rf v1]) (rfl) ?_
  refine c_S B hH hl hc K.2.2.1 (As := [va_rf v1, va_rf (gP σ9 th 1)]) (ok_X3_releaseParts hl9 K.2.1 σ9 v1 (gP σ9 th 1) (g1.up xσ9) (hYσ9.get (hth.up xσ9) (by decide)) hGσ9 hYσ9 h) wc_X3_70 2 hd_X3_releaseParts ⟨Nat.le_trans (Nat.le_of_ble_eq_true rfl) K.2.2.2.1, Nat.le_trans (Nat.le_of_ble_eq_true rfl) K.2.2.2.2.1⟩ rfl (rest := []) rfl (Nat.le_of_ble_eq_true rfl) dX3_forgetMarks_10 (fun σ10 w hq => ?_) (fun σ9 E9 hx9 => hX σ9 E9 _ _ _ (tb_out K.2.2.2.2.2.1 rfl) hx9.1 hx9.2.1 hx9.2.2.1 ((hE.trans xσ9).trans hx9.2.2.2))
  obtain ⟨rfl, h, hGσ10, hYσ10, xσ10⟩ := hq
  have h := h xσ10
  intro H locs ls hH hl hc
  refine W.eq (g2 := F0 m 13 ls []) (rfl) ?_
  try dsimp only at h
  refine lv_aload_n B.1 B.2.1 dX3_forgetMarks_13 rfl (lv_at hl 0 rfl) ?_
  refine lv_iconst (v := i32 0) B.1 B.2.1 dX3_forgetMarks_14 (by decide) ?_
  obtain ⟨σ11, eσ11⟩ : ∃ z, z = pI σ10 th 2 0 := ⟨_, rfl⟩
  have h := h σ11 eσ11
  refine f_puti B hH (hth.up (xσ9.trans xσ10)) (by decide) rfl wu_X3 tyX3 tyX3_ok nmX3 2 (by decide) wf_X3_24 rfl (ty := .int) rfl rfl rfl rfl rfl dX3_forgetMarks_15 (fun H locs hH => ?_)
  have hH : Hd D cA A s (pI σ10 th 2 0) H locs := hH
  rw [← eσ11] at hH
  have hGσ11 : RG σ11 := by rw [eσ11]; exact hGσ10.pI (by unfold rng; omega)
  have hYσ11 : TY σ11 := by rw [eσ11]; exact hYσ10.pI
  have xσ11 : Ext σ10 σ11 := by rw [eσ11]; exact Ext.pI
  have hc : CB n0 s0 σ11 := by rw [eσ11]; exact hc
  rw [show gc σ10 = gc σ11 by rw [eσ11]; try rfl, show gs σ10 = gs σ11 by rw [eσ11]; try rfl]
  refine lv_aload_n B.1 B.2.1 dX3_forgetMarks_18 rfl (lv_at hl 0 rfl) ?_
  refine lv_iconst (v := i32 0) B.1 B.2.1 dX3_forgetMarks_19 (by decide) ?_
  obtain ⟨σ12, eσ12⟩ : ∃ z, z = pI σ11 th 4 0 := ⟨_, rfl⟩
  have h := h σ12 eσ12
  refine f_puti B hH (hth.up (xσ9.trans (xσ10.trans xσ11))) (by decide) rfl wu_X3 tyX3 tyX3_ok nmX3 4 (by decide) wf_X3_64 rfl (ty := .int) rfl rfl rfl rfl rfl dX3_forgetMarks_20 (fun H locs hH => ?_)
  have hH : Hd D cA A s (pI σ11 th 4 0) H locs := hH
  rw [← eσ12] at hH
  have hGσ12 : RG σ12 := by rw [eσ12]; exact hGσ11.pI (by unfold rng; omega)
  have hYσ12 : TY σ12 := by rw [eσ12]; exact hYσ11.pI
  have xσ12 : Ext σ11 σ12 := by rw [eσ12]; exact Ext.pI
  have hc : CB n0 s0 σ12 := by rw [eσ12]; exact hc
  rw [show gc σ11 = gc σ12 by rw [eσ12]; try rfl, show gs σ11 = gs σ12 by rw [eσ12]; try rfl]
  exact hQ _ _ _ _ _ dX3_forgetMarks_23 hH hc h hGσ12 hYσ12 ((((hE.trans xσ9).trans xσ10).trans xσ11).trans xσ12)
theorem ok_X3_forgetMarks (hl0 : l.stackTraces = false) (hT : TyC cA tys) {Q : Sg → Unit → Prop} {X : Sg → String → Prop} (σ : Sg) (th : Nat) (v1 : Option Nat) (g1 : tyV σ 8 v1) (hth : kO σ th 3) (hG : RG σ) (hY : TY σ) (h : wp_X3_forgetMarks th v1 σ Q X) : Ok l D cA tys A yX3_forgetMarks (.code yX3_forgetMarks cX3_forgetMarks 2 none) 3 64 [.ref th, va_rf v1] σ (QcV σ Q) (QxC σ X) := by
  unfold wp_X3_forgetMarks at h
  exact oc_V hl0 (by decide) (by cases v1 <;> exact Nat.le_of_ble_eq_true rfl) hT (fun p e R s m args below meth c K hQ hX hTh hin9 H locs ls hH hl hc => a_X3_forgetMarks_0 K hQ hX hTh σ v1 g1 h hG hY (Ext.rfl' σ) hth H locs ls hH (lv_sub (l' := [(0, .ref th), (1, va_rf v1)]) hl [0, 1] (by cases v1 <;> rfl)) hc)
theorem dX9_empty_0 : decode cX9_empty 0 = .ok (.iconst 0, 1) := by decide +kernel
theorem dX9_empty_1 : decode cX9_empty 1 = .ok (.istore_n 1, 1) := by decide +kernel
theorem dX9_empty_2 : decode cX9_empty 2 = .ok (.iload_n 1, 1) := by decide +kernel
theorem dX9_empty_3 : decode cX9_empty 3 = .ok (.aload_n 0, 1) := by decide +kernel
theorem dX9_empty_4 : decode cX9_empty 4 = .ok (.getfield 78, 3) := by decide +kernel
theorem dX9_empty_7 : decode cX9_empty 7 = .ok (.if_icmp .ge 57, 3) := by decide +kernel
theorem dX9_empty_10 : decode cX9_empty 10 = .ok (.aload_n 0, 1) := by decide +kernel
theorem dX9_empty_11 : decode cX9_empty 11 = .ok (.getfield 48, 3) := by decide +kernel
theorem dX9_empty_14 : decode cX9_empty 14 = .ok (.aload_n 0, 1) := by decide +kernel
theorem dX9_empty_15 : decode cX9_empty 15 = .ok (.getfield 20, 3) := by decide +kernel
theorem dX9_empty_18 : decode cX9_empty 18 = .ok (.iload_n 1, 1) := by decide +kernel
theorem dX9_empty_19 : decode cX9_empty 19 = .ok (.aaload, 1) := by decide +kernel
theorem dX9_empty_20 : decode cX9_empty 20 = .ok (.getfield 138, 3) := by decide +kernel
theorem dX9_empty_23 : decode cX9_empty 23 = .ok (.invokevirtual 64, 3) := by decide +kernel
theorem dX9_empty_26 : decode cX9_empty 26 = .ok (.aload_n 0, 1) := by decide +kernel
theorem dX9_empty_27 : decode cX9_empty 27 = .ok (.getfield 48, 3) := by decide +kernel
theorem dX9_empty_30 : decode cX9_empty 30 = .ok (.aload_n 0, 1) := by decide +kernel
theorem dX9_empty_31 : decode cX9_empty 31 = .ok (.getfield 20, 3) := by decide +kernel
theorem dX9_empty_34 : decode cX9_empty 34 = .ok (.iload_n 1, 1) := by decide +kernel
theorem dX9_empty_35 : decode cX9_empty 35 = .ok (.aaload, 1) := by decide +kernel
theorem dX9_empty_36 : decode cX9_empty 36 = .ok (.getfield 142, 3) := by decide +kernel
theorem dX9_empty_39 : decode cX9_empty 39 = .ok (.invokevirtual 64, 3) := by decide +kernel
theorem dX9_empty_42 : decode cX9_empty 42 = .ok (.aload_n 0, 1) := by decide +kernel
theorem dX9_empty_43 : decode cX9_empty 43 = .ok (.getfield 48, 3) := by decide +kernel
theorem dX9_empty_46 : decode cX9_empty 46 = .ok (.aload_n 0, 1) := by decide +kernel
theorem dX9_empty_47 : decode cX9_empty 47 = .ok (.getfield 20, 3) := by decide +kernel
theorem dX9_empty_50 : decode cX9_empty 50 = .ok (.iload_n 1, 1) := by decide +kernel
theorem dX9_empty_51 : decode cX9_empty 51 = .ok (.aaload, 1) := by decide +kernel
theorem dX9_empty_52 : decode cX9_empty 52 = .ok (.getfield 145, 3) := by decide +kernel
theorem dX9_empty_55 : decode cX9_empty 55 = .ok (.invokevirtual 64, 3) := by decide +kernel
theorem dX9_empty_58 : decode cX9_empty 58 = .ok (.iinc 1 1, 3) := by decide +kernel
theorem dX9_empty_61 : decode cX9_empty 61 = .ok (.goto (-59), 3) := by decide +kernel
theorem dX9_empty_64 : decode cX9_empty 64 = .ok (.iconst 0, 1) := by decide +kernel
theorem dX9_empty_65 : decode cX9_empty 65 = .ok (.istore_n 1, 1) := by decide +kernel
theorem dX9_empty_66 : decode cX9_empty 66 = .ok (.iload_n 1, 1) := by decide +kernel
theorem dX9_empty_67 : decode cX9_empty 67 = .ok (.aload_n 0, 1) := by decide +kernel
theorem dX9_empty_68 : decode cX9_empty 68 = .ok (.getfield 81, 3) := by decide +kernel
theorem dX9_empty_71 : decode cX9_empty 71 = .ok (.if_icmp .ge 25, 3) := by decide +kernel
theorem dX9_empty_74 : decode cX9_empty 74 = .ok (.aload_n 0, 1) := by decide +kernel
theorem dX9_empty_75 : decode cX9_empty 75 = .ok (.getfield 48, 3) := by decide +kernel
theorem dX9_empty_78 : decode cX9_empty 78 = .ok (.aload_n 0, 1) := by decide +kernel
theorem dX9_empty_79 : decode cX9_empty 79 = .ok (.getfield 26, 3) := by decide +kernel
theorem dX9_empty_82 : decode cX9_empty 82 = .ok (.iload_n 1, 1) := by decide +kernel
theorem dX9_empty_83 : decode cX9_empty 83 = .ok (.aaload, 1) := by decide +kernel
theorem dX9_empty_84 : decode cX9_empty 84 = .ok (.getfield 148, 3) := by decide +kernel
theorem dX9_empty_87 : decode cX9_empty 87 = .ok (.invokevirtual 64, 3) := by decide +kernel
theorem dX9_empty_90 : decode cX9_empty 90 = .ok (.iinc 1 1, 3) := by decide +kernel
theorem dX9_empty_93 : decode cX9_empty 93 = .ok (.goto (-27), 3) := by decide +kernel
theorem dX9_empty_96 : decode cX9_empty 96 = .ok (.iconst 0, 1) := by decide +kernel
theorem dX9_empty_97 : decode cX9_empty 97 = .ok (.istore_n 1, 1) := by decide +kernel
theorem dX9_empty_98 : decode cX9_empty 98 = .ok (.iload_n 1, 1) := by decide +kernel
theorem dX9_empty_99 : decode cX9_empty 99 = .ok (.iconst 4, 1) := by decide +kernel
theorem dX9_empty_100 : decode cX9_empty 100 = .ok (.if_icmp .ge 35, 3) := by decide +kernel
theorem dX9_empty_103 : decode cX9_empty 103 = .ok (.aload_n 0, 1) := by decide +kernel
theorem dX9_empty_104 : decode cX9_empty 104 = .ok (.getfield 48, 3) := by decide +kernel
theorem dX9_empty_107 : decode cX9_empty 107 = .ok (.aload_n 0, 1) := by decide +kernel
theorem dX9_empty_108 : decode cX9_empty 108 = .ok (.getfield 38, 3) := by decide +kernel
theorem dX9_empty_111 : decode cX9_empty 111 = .ok (.iload_n 1, 1) := by decide +kernel
theorem dX9_empty_112 : decode cX9_empty 112 = .ok (.aaload, 1) := by decide +kernel
theorem dX9_empty_113 : decode cX9_empty 113 = .ok (.invokevirtual 64, 3) := by decide +kernel
theorem dX9_empty_116 : decode cX9_empty 116 = .ok (.aload_n 0, 1) := by decide +kernel
theorem dX9_empty_117 : decode cX9_empty 117 = .ok (.getfield 48, 3) := by decide +kernel
theorem dX9_empty_120 : decode cX9_empty 120 = .ok (.aload_n 0, 1) := by decide +kernel
theorem dX9_empty_121 : decode cX9_empty 121 = .ok (.getfield 42, 3) := by decide +kernel
theorem dX9_empty_124 : decode cX9_empty 124 = .ok (.iload_n 1, 1) := by decide +kernel
theorem dX9_empty_125 : decode cX9_empty 125 = .ok (.aaload, 1) := by decide +kernel
theorem dX9_empty_126 : decode cX9_empty 126 = .ok (.invokevirtual 64, 3) := by decide +kernel
theorem dX9_empty_129 : decode cX9_empty 129 = .ok (.iinc 1 1, 3) := by decide +kernel
theorem dX9_empty_132 : decode cX9_empty 132 = .ok (.goto (-34), 3) := by decide +kernel
theorem dX9_empty_135 : decode cX9_empty 135 = .ok (.aload_n 0, 1) := by decide +kernel
theorem dX9_empty_136 : decode cX9_empty 136 = .ok (.iconst 0, 1) := by decide +kernel
theorem dX9_empty_137 : decode cX9_empty 137 = .ok (.putfield 151, 3) := by decide +kernel
theorem dX9_empty_140 : decode cX9_empty 140 = .ok (.aload_n 0, 1) := by decide +kernel
theorem dX9_empty_141 : decode cX9_empty 141 = .ok (.getfield 57, 3) := by decide +kernel
theorem dX9_empty_144 : decode cX9_empty 144 = .ok (.iconst 0, 1) := by decide +kernel
theorem dX9_empty_145 : decode cX9_empty 145 = .ok (.putfield 154, 3) := by decide +kernel
theorem dX9_empty_148 : decode cX9_empty 148 = .ok (.return_, 1) := by decide +kernel
set_option maxRecDepth 20000 in
theorem a_X9_empty_135 {Q : Sg → Unit → Prop} {X : Sg → String → Prop} {th : Nat} (K : MD l R p s m args c cX9_empty 2 RX9 D cA tys A n0 s0 1 21 []) (hQ : CQV p l e R s m args below meth c cX9_empty D cA A n0 s0 QM σi Q) (hX : CX p l e R s m args below meth c 2 D cA A n0 s0 QM σi X) (hTh : CT p l e R s m args below meth c cX9_empty 2 D cA A n0 s0 QM σi RX9 X) : ∀ (σ : Sg), w_X9_empty_135 th Q X σ → RG σ → TY σ → Ext σi σ → kO σ th 9 → JJ p l e R s m args below meth c 2 D cA A n0 s0 QM σ 135 [(0, .ref th)] [] := by
  intro σ h hGσ hYσ hE hth H locs ls hH hl hc
  have B := K.1
  have hl9 := K.2.2.2.2.2.2
  unfold w_X9_empty_135 at h
  refine lv_aload_n B.1 B.2.1 dX9_empty_135 rfl (lv_at hl 0 rfl) ?_
  refine lv_iconst (v := i32 0) B.1 B.2.1 dX9_empty_136 (by decide) ?_
  obtain ⟨σ51, eσ51⟩ : ∃ z, z = pI σ th 14 0 := ⟨_, rfl⟩
  have h := h σ51 eσ51
  refine f_puti B hH hth (by decide) rfl wu_X9 tyX9 tyX9_ok nmX9 14 (by decide) wf_X9_151 rfl (ty := .int) rfl rfl rfl rfl rfl dX9_empty_137 (fun H locs hH => ?_)
  have hH : Hd D cA A s (pI σ th 14 0) H locs := hH
  rw [← eσ51] at hH
  have hGσ51 : RG σ51 := by rw [eσ51]; exact hGσ.pI (by unfold rng; omega)
  have hYσ51 : TY σ51 := by rw [eσ51]; exact hYσ.pI
  have xσ51 : Ext σ σ51 := by rw [eσ51]; exact Ext.pI
  have hc : CB n0 s0 σ51 := by rw [eσ51]; exact hc
  rw [show gc σ = gc σ51 by rw [eσ51]; try rfl, show gs σ = gs σ51 by rw [eσ51]; try rfl]
  refine lv_aload_n B.1 B.2.1 dX9_empty_140 rfl (lv_at hl 0 rfl) ?_
  refine f_getp B hH (hth.up xσ51) (by decide) rfl wu_X9 1 (by decide) wf_X9_57 rfl rfl dX9_empty_141 ?_
  refine lv_iconst (v := i32 0) B.1 B.2.1 dX9_empty_144 (by decide) ?_
  obtain ⟨a52, ea52, h⟩ := h
  have ka52 : kO σ51 a52 11 := (hYσ51.get (hth.up xσ51) (by decide)) a52 ea52
  have h := h ka52
  obtain ⟨σ53, eσ53⟩ : ∃ z, z = pI σ51 a52 4 0 := ⟨_, rfl⟩
  have h := h σ53 eσ53
  refine W.eq (g2 := F0 m 145 ls [.int (i32 0), .ref a52]) (by rw [ea52]; rfl) ?_
  refine f_puti B hH ka52 (by decide) rfl wu_X11 tyX11 tyX11_ok nmX11 4 (by decide) wf_X9_154 rfl (ty := .int) rfl rfl rfl rfl rfl dX9_empty_145 (fun H locs hH => ?_)
  have hH : Hd D cA A s (pI σ51 a52 4 0) H locs := hH
  rw [← eσ53] at hH
  have hGσ53 : RG σ53 := by rw [eσ53]; exact hGσ51.pI (by unfold rng; omega)
  have hYσ53 : TY σ53 := by rw [eσ53]; exact hYσ51.pI
  have xσ53 : Ext σ51 σ53 := by rw [eσ53]; exact Ext.pI
  have hc : CB n0 s0 σ53 := by rw [eσ53]; exact hc
  rw [show gc σ51 = gc σ53 by rw [eσ53]; try rfl, show gs σ51 = gs σ53 by rw [eσ53]; try rfl]
  exact hQ _ _ _ _ _ dX9_empty_148 hH hc h hGσ53 hYσ53 ((hE.trans xσ51).trans xσ53)
set_option maxRecDepth 20000 in
theorem a_X9_empty_103 {Q : Sg → Unit → Prop} {X : Sg → String → Prop} {th : Nat} (K : MD l R p s m args c cX9_empty 2 RX9 D cA tys A n0 s0 1 21 []) (hQ : CQV p l e R s m args below meth c cX9_empty D cA A n0 s0 QM σi Q) (hX : CX p l e R s m args below meth c 2 D cA A n0 s0 QM σi X) (hTh : CT p l e R s m args below meth c cX9_empty 2 D cA A n0 s0 QM σi RX9 X) {K98 : Sg → Int → Prop} (hK98 : ∀ (σ : Sg) (v1 : Int) (g1 : rng v1), K98 σ v1 → RG σ → TY σ → Ext σi σ → kO σ th 9 → JJ p l e R s m args below meth c 2 D cA A n0 s0 QM σ 98 [(0, .ref th), (1, .int (i32 v1))] []) : ∀ (σ : Sg) (v1 : Int) (g1 : rng v1), w_X9_empty_103 th K98 Q X σ v1 → RG σ → TY σ → Ext σi σ → kO σ th 9 → JJ p l e R s m args below meth c 2 D cA A n0 s0 QM σ 103 [(0, .ref th), (1, .int (i32 v1))] [] := by
  intro σ v1 g1 h hGσ hYσ hE hth H locs ls hH hl hc
  have B := K.1
  have hl9 := K.2.2.2.2.2.2
  unfold w_X9_empty_103 at h
  refine lv_aload_n B.1 B.2.1 dX9_empty_103 rfl (lv_at hl 0 rfl) ?_
  refine f_getp B hH hth (by decide) rfl wu_X9 0 (by decide) wf_X9_48 rfl rfl dX9_empty_104 ?_
  refine lv_aload_n B.1 B.2.1 dX9_empty_107 rfl (lv_at hl 0 rfl) ?_
  refine f_getp B hH hth (by decide) rfl wu_X9 6 (by decide) wf_X9_38 rfl rfl dX9_empty_108 ?_
  refine lv_iload_n B.1 B.2.1 dX9_empty_111 rfl (lv_at hl 1 rfl) ?_
  obtain ⟨a54, ea54, h⟩ := h
  have ka54 : kO σ a54 111 := (hYσ.get hth (by decide)) a54 ea54
  have h := h ka54
  obtain ⟨q1, h⟩ := h
  refine W.eq (g2 := F0 m 112 ls [.int (i32 v1), .ref a54, va_rf (gP σ th 0)]) (by rw [ea54]; rfl) ?_
  refine y_aald B hH (t0 := 4) ka54 (by decide) K.2.1.2.1 q1 (hYσ.2 _) dX9_empty_112 ?_
  obtain ⟨a56, ea56, h⟩ := h
  have ka56 : kO σ a56 8 := (hYσ.get hth (by decide)) a56 ea56
  have h := h ka56
  refine W.eq (g2 := F0 m 113 ls [va_rf (gP σ a54 v1.toNat), .ref a56]) (by rw [ea56]; rfl) ?_
  refine c_V B hH hl hc K.2.2.1 (C := RX8) (T := TX8) (N := 3) (ci := 8) (As := [va_rf (gP σ a54 v1.toNat)]) (ok_X8_releaseAll hl9 K.2.1 σ a56 (gP σ a54 v1.toNat) (hYσ.get ka54 rfl) ka56 hGσ hYσ h) wc_X9_64 1 hd_X8_releaseAll ⟨Nat.le_trans (Nat.le_of_ble_eq_true rfl) K.2.2.2.1, Nat.le_trans (Nat.le_of_ble_eq_true rfl) K.2.2.2.2.1⟩ ka56.1 ka56.2 (by decide) rfl rfl (rest := []) rfl (Nat.le_of_ble_eq_true rfl) dX9_empty_113 (fun σ55 w hq => ?_) (fun σ9 E9 hx9 => hX σ9 E9 _ _ _ (tb_out K.2.2.2.2.2.1 rfl) hx9.1 hx9.2.1 hx9.2.2.1 (hE.trans hx9.2.2.2))
  obtain ⟨rfl, h, hGσ55, hYσ55, xσ55⟩ := hq
  have h := h xσ55
  intro H locs ls hH hl hc
  refine W.eq (g2 := F0 m 116 ls []) (rfl) ?_
  try dsimp only at h
  refine lv_aload_n B.1 B.2.1 dX9_empty_116 rfl (lv_at hl 0 rfl) ?_
  refine f_getp B hH (hth.up xσ55) (by decide) rfl wu_X9 0 (by decide) wf_X9_48 rfl rfl dX9_empty_117 ?_
  refine lv_aload_n B.1 B.2.1 dX9_empty_120 rfl (lv_at hl 0 rfl) ?_
  refine f_getp B hH (hth.up xσ55) (by decide) rfl wu_X9 7 (by decide) wf_X9_42 rfl rfl dX9_empty_121 ?_
  refine lv_iload_n B.1 B.2.1 dX9_empty_124 rfl (lv_at hl 1 rfl) ?_
  obtain ⟨a57, ea57, h⟩ := h
  have ka57 : kO σ55 a57 111 := (hYσ55.get (hth.up xσ55) (by decide)) a57 ea57
  have h := h ka57
  obtain ⟨q2, h⟩ := h
  refine W.eq (g2 := F0 m 125 ls [.int (i32 v1), .ref a57, va_rf (gP σ55 th 0)]) (by rw [ea57]; rfl) ?_
  refine y_aald B hH (t0 := 4) ka57 (by decide) K.2.1.2.1 q2 (hYσ55.2 _) dX9_empty_125 ?_
  obtain ⟨a59, ea59, h⟩ := h
  have ka59 : kO σ55 a59 8 := (hYσ55.get (hth.up xσ55) (by decide)) a59 ea59
  have h := h ka59
  refine W.eq (g2 := F0 m 126 ls [va_rf (gP σ55 a57 v1.toNat), .ref a59]) (by rw [ea59]; rfl) ?_
  refine c_V B hH hl hc K.2.2.1 (C := RX8) (T := TX8) (N := 3) (ci := 8) (As := [va_rf (gP σ55 a57 v1.toNat)]) (ok_X8_releaseAll hl9 K.2.1 σ55 a59 (gP σ55 a57 v1.toNat) (hYσ55.get ka57 rfl) ka59 hGσ55 hYσ55 h) wc_X9_64 1 hd_X8_releaseAll ⟨Nat.le_trans (Nat.le_of_ble_eq_true rfl) K.2.2.2.1, Nat.le_trans (Nat.le_of_ble_eq_true rfl) K.2.2.2.2.1⟩ ka59.1 ka59.2 (by decide) rfl rfl (rest := []) rfl (Nat.le_of_ble_eq_true rfl) dX9_empty_126 (fun σ58 w hq => ?_) (fun σ9 E9 hx9 => hX σ9 E9 _ _ _ (tb_out K.2.2.2.2.2.1 rfl) hx9.1 hx9.2.1 hx9.2.2.1 ((hE.trans xσ55).trans hx9.2.2.2))
  obtain ⟨rfl, h, hGσ58, hYσ58, xσ58⟩ := hq
  have h := h xσ58
  intro H locs ls hH hl hc
  refine W.eq (g2 := F0 m 129 ls []) (rfl) ?_
  try dsimp only at h
  obtain ⟨q3, h⟩ := h
  refine lv_iinc (k := 1) (v := i32 (v1 + 1)) (lv' := [(1, .int (i32 (v1 + 1))), (0, .ref th)]) B.1 B.2.1 dX9_empty_129 hl rfl (i32_add _ _) (by decide) rfl (fun ls hl => ?_)
  refine lv_goto (tgt := 98) B.1 B.2.1 dX9_empty_132 (by decide) ?_
  exact hK98 _ _ q3 h hGσ58 hYσ58 ((hE.trans xσ55).trans xσ58) (hth.up (xσ55.trans xσ58)) _ _ _ hH (lv_sub (l' := [(0, .ref th), (1, .int (i32 (v1 + 1)))]) hl [1, 0] rfl) hc
set_option maxRecDepth 20000 in
theorem a_X9_empty_98 {Q : Sg → Unit → Prop} {X : Sg → String → Prop} {th : Nat} (K : MD l R p s m args c cX9_empty 2 RX9 D cA tys A n0 s0 1 21 []) (hQ : CQV p l e R s m args below meth c cX9_empty D cA A n0 s0 QM σi Q) (hX : CX p l e R s m args below meth c 2 D cA A n0 s0 QM σi X) (hTh : CT p l e R s m args below meth c cX9_empty 2 D cA A n0 s0 QM σi RX9 X) {K98 : Sg → Int → Prop} (hK98 : ∀ (σ : Sg) (v1 : Int) (g1 : rng v1), K98 σ v1 → RG σ → TY σ → Ext σi σ → kO σ th 9 → JJ p l e R s m args below meth c 2 D cA A n0 s0 QM σ 98 [(0, .ref th), (1, .int (i32 v1))] []) : ∀ (σ : Sg) (v1 : Int) (g1 : rng v1), w_X9_empty_98 th K98 Q X σ v1 → RG σ → TY σ → Ext σi σ → kO σ th 9 → JJ p l e R s m args below meth c 2 D cA A n0 s0 QM σ 98 [(0, .ref th), (1, .int (i32 v1))] [] := by
  intro σ v1 g1 h hGσ hYσ hE hth H locs ls hH hl hc
  have B := K.1
  have hl9 := K.2.2.2.2.2.2
  unfold w_X9_empty_98 at h
  refine lv_iload_n B.1 B.2.1 dX9_empty_98 rfl (lv_at hl 1 rfl) ?_
  refine lv_iconst (v := i32 4) B.1 B.2.1 dX9_empty_99 (by decide) ?_
  refine lv_icmp_ge (tgt := 135) B.1 B.2.1 dX9_empty_100 (by decide) (fun h9 => ?_) (fun h9 => ?_)
  · rw [if_pos ((i32_le (by unfold rng; omega) g1).mp h9)] at h
    exact a_X9_empty_135 K hQ hX hTh _ h hGσ hYσ hE hth _ _ _ hH (lv_sub (l' := [(0, .ref th)]) hl [0] rfl) hc
  · rw [if_neg (fun q => h9 ((i32_le (by unfold rng; omega) g1).mpr q))] at h
    exact a_X9_empty_103 K hQ hX hTh hK98 _ _ g1 h hGσ hYσ hE hth _ _ _ hH (lv_sub (l' := [(0, .ref th), (1, .int (i32 v1))]) hl [0, 1] rfl) hc
theorem al_X9_empty_98 {Q : Sg → Unit → Prop} {X : Sg → String → Prop} {th : Nat} (K : MD l R p s m args c cX9_empty 2 RX9 D cA tys A n0 s0 1 21 []) (hQ : CQV p l e R s m args below meth c cX9_empty D cA A n0 s0 QM σi Q) (hX : CX p l e R s m args below meth c 2 D cA A n0 s0 QM σi X) (hTh : CT p l e R s m args below meth c cX9_empty 2 D cA A n0 s0 QM σi RX9 X) : ∀ (n : Nat), ∀ (σ : Sg) (v1 : Int) (g1 : rng v1), wl_X9_empty_98 th Q X n σ v1 → RG σ → TY σ → Ext σi σ → kO σ th 9 → JJ p l e R s m args below meth c 2 D cA A n0 s0 QM σ 98 [(0, .ref th), (1, .int (i32 v1))] [] := by
  intro n
  induction n with
  | zero => intro σ v1 g1 h; exact h.elim
  | succ n ih => exact fun σ v1 g1 h => a_X9_empty_98 K hQ hX hTh ih σ v1 g1 h
set_option maxRecDepth 20000 in
theorem a_X9_empty_96 {Q : Sg → Unit → Prop} {X : Sg → String → Prop} {th : Nat} (K : MD l R p s m args c cX9_empty 2 RX9 D cA tys A n0 s0 1 21 []) (hQ : CQV p l e R s m args below meth c cX9_empty D cA A n0 s0 QM σi Q) (hX : CX p l e R s m args below meth c 2 D cA A n0 s0 QM σi X) (hTh : CT p l e R s m args below meth c cX9_empty 2 D cA A n0 s0 QM σi RX9 X) : ∀ (σ : Sg), w_X9_empty_96 th Q X σ → RG σ → TY σ → Ext σi σ → kO σ th 9 → JJ p l e R s m args below meth c 2 D cA A n0 s0 QM σ 96 [(0, .ref th)] [] := by
  intro σ h hGσ hYσ hE hth H locs ls hH hl hc
  have B := K.1
  have hl9 := K.2.2.2.2.2.2
  unfold w_X9_empty_96 at h
  refine lv_iconst (v := i32 0) B.1 B.2.1 dX9_empty_96 (by decide) ?_
  refine lv_istore_n (lv' := [(1, .int (i32 0)), (0, .ref th)]) B.1 B.2.1 dX9_empty_97 rfl hl (by decide) rfl (fun ls hl => ?_)
  obtain ⟨n9, h⟩ := h
  exact al_X9_empty_98 K hQ hX hTh n9 _ _ (by unfold rng; omega) h hGσ hYσ hE hth _ _ _ hH (lv_sub (l' := [(0, .ref th), (1, .int (i32 0))]) hl [1, 0] rfl) hc
set_option maxRecDepth 20000 in
theorem a_X9_empty_74 {Q : Sg → Unit → Prop} {X : Sg → String → Prop} {th : Nat} (K : MD l R p s m args c cX9_empty 2 RX9 D cA tys A n0 s0 1 21 []) (hQ : CQV p l e R s m args below meth c cX9_empty D cA A n0 s0 QM σi Q) (hX : CX p l e R s m args below meth c 2 D cA A n0 s0 QM σi X) (hTh : CT p l e R s m args below meth c cX9_empty 2 D cA A n0 s0 QM σi RX9 X) {K66 : Sg → Int → Prop} (hK66 : ∀ (σ : Sg) (v1 : Int) (g1 : rng v1), K66 σ v1 → RG σ → TY σ → Ext σi σ → kO σ th 9 → JJ p l e R s m args below meth c 2 D cA A n0 s0 QM σ 66 [(0, .ref th), (1, .int (i32 v1))] []) : ∀ (σ : Sg) (v1 : Int) (g1 : rng v1), w_X9_empty_74 th K66 Q X σ v1 → RG σ → TY σ → Ext σi σ → kO σ th 9 → JJ p l e R s m args below meth c 2 D cA A n0 s0 QM σ 74 [(0, .ref th), (1, .int (i32 v1))] [] := by
  intro σ v1 g1 h hGσ hYσ hE hth H locs ls hH hl hc
  have B := K.1
  have hl9 := K.2.2.2.2.2.2
  unfold w_X9_empty_74 at h
  refine lv_aload_n B.1 B.2.1 dX9_empty_74 rfl (lv_at hl 0 rfl) ?_
  refine f_getp B hH hth (by decide) rfl wu_X9 0 (by decide) wf_X9_48 rfl rfl dX9_empty_75 ?_
  refine lv_aload_n B.1 B.2.1 dX9_empty_78 rfl (lv_at hl 0 rfl) ?_
  refine f_getp B hH hth (by decide) rfl wu_X9 4 (by decide) wf_X9_26 rfl rfl dX9_empty_79 ?_
  refine lv_iload_n B.1 B.2.1 dX9_empty_82 rfl (lv_at hl 1 rfl) ?_
  obtain ⟨a60, ea60, h⟩ := h
  have ka60 : kO σ a60 112 := (hYσ.get hth (by decide)) a60 ea60
  have h := h ka60
  obtain ⟨q1, h⟩ := h
  refine W.eq (g2 := F0 m 83 ls [.int (i32 v1), .ref a60, va_rf (gP σ th 0)]) (by rw [ea60]; rfl) ?_
  refine y_aald B hH (t0 := 5) ka60 (by decide) K.2.1.2.2.1 q1 (hYσ.2 _) dX9_empty_83 ?_
  obtain ⟨a61, ea61, h⟩ := h
  have ka61 : kO σ a61 2 := (hYσ.get ka60 rfl) a61 ea61
  have h := h ka61
  refine W.eq (g2 := F0 m 84 ls [.ref a61, va_rf (gP σ th 0)]) (by rw [ea61]; rfl) ?_
  refine f_getp B hH ka61 (by decide) rfl wu_X2 0 (by decide) wf_X9_148 rfl rfl dX9_empty_84 ?_
  obtain ⟨a63, ea63, h⟩ := h
  have ka63 : kO σ a63 8 := (hYσ.get hth (by decide)) a63 ea63
  have h := h ka63
  refine W.eq (g2 := F0 m 87 ls [va_rf (gP σ a61 0), .ref a63]) (by rw [ea63]; rfl) ?_
  refine c_V B hH hl hc K.2.2.1 (C := RX8) (T := TX8) (N := 3) (ci := 8) (As := [va_rf (gP σ a61 0)]) (ok_X8_releaseAll hl9 K.2.1 σ a63 (gP σ a61 0) (hYσ.get ka61 (by decide)) ka63 hGσ hYσ h) wc_X9_64 1 hd_X8_releaseAll ⟨Nat.le_trans (Nat.le_of_ble_eq_true rfl) K.2.2.2.1, Nat.le_trans (Nat.le_of_ble_eq_true rfl) K.2.2.2.2.1⟩ ka63.1 ka63.2 (by decide) rfl rfl (rest := []) rfl (Nat.le_of_ble_eq_true rfl) dX9_empty_87 (fun σ62 w hq => ?_) (fun σ9 E9 hx9 => hX σ9 E9 _ _ _ (tb_out K.2.2.2.2.2.1 rfl) hx9.1 hx9.2.1 hx9.2.2.1 (hE.trans hx9.2.2.2))
  obtain ⟨rfl, h, hGσ62, hYσ62, xσ62⟩ := hq
  have h := h xσ62
  intro H locs ls hH hl hc
  refine W.eq (g2 := F0 m 90 ls []) (rfl) ?_
  try dsimp only at h
  obtain ⟨q2, h⟩ := h
  refine lv_iinc (k := 1) (v := i32 (v1 + 1)) (lv' := [(1, .int (i32 (v1 + 1))), (0, .ref th)]) B.1 B.2.1 dX9_empty_90 hl rfl (i32_add _ _) (by decide) rfl (fun ls hl => ?_)
  refine lv_goto (tgt := 66) B.1 B.2.1 dX9_empty_93 (by decide) ?_
  exact hK66 _ _ q2 h hGσ62 hYσ62 (hE.trans xσ62) (hth.up xσ62) _ _ _ hH (lv_sub (l' := [(0, .ref th), (1, .int (i32 (v1 + 1)))]) hl [1, 0] rfl) hc
set_option maxRecDepth 20000 in
theorem a_X9_empty_66 {Q : Sg → Unit → Prop} {X : Sg → String → Prop} {th : Nat} (K : MD l R p s m args c cX9_empty 2 RX9 D cA tys A n0 s0 1 21 []) (hQ : CQV p l e R s m args below meth c cX9_empty D cA A n0 s0 QM σi Q) (hX : CX p l e R s m args below meth c 2 D cA A n0 s0 QM σi X) (hTh : CT p l e R s m args below meth c cX9_empty 2 D cA A n0 s0 QM σi RX9 X) {K66 : Sg → Int → Prop} (hK66 : ∀ (σ : Sg) (v1 : Int) (g1 : rng v1), K66 σ v1 → RG σ → TY σ → Ext σi σ → kO σ th 9 → JJ p l e R s m args below meth c 2 D cA A n0 s0 QM σ 66 [(0, .ref th), (1, .int (i32 v1))] []) : ∀ (σ : Sg) (v1 : Int) (g1 : rng v1), w_X9_empty_66 th K66 Q X σ v1 → RG σ → TY σ → Ext σi σ → kO σ th 9 → JJ p l e R s m args below meth c 2 D cA A n0 s0 QM σ 66 [(0, .ref th), (1, .int (i32 v1))] [] := by
  intro σ v1 g1 h hGσ hYσ hE hth H locs ls hH hl hc
  have B := K.1
  have hl9 := K.2.2.2.2.2.2
  unfold w_X9_empty_66 at h
  refine lv_iload_n B.1 B.2.1 dX9_empty_66 rfl (lv_at hl 1 rfl) ?_
  refine lv_aload_n B.1 B.2.1 dX9_empty_67 rfl (lv_at hl 0 rfl) ?_
  refine f_geti B hH hth (by decide) rfl wu_X9 11 (by decide) wf_X9_81 rfl rfl dX9_empty_68 ?_
  refine lv_icmp_ge (tgt := 96) B.1 B.2.1 dX9_empty_71 (by decide) (fun h9 => ?_) (fun h9 => ?_)
  · rw [if_pos ((i32_le (hGσ _ _) g1).mp h9)] at h
    exact a_X9_empty_96 K hQ hX hTh _ h hGσ hYσ hE hth _ _ _ hH (lv_sub (l' := [(0, .ref th)]) hl [0] rfl) hc
  · rw [if_neg (fun q => h9 ((i32_le (hGσ _ _) g1).mpr q))] at h
    exact a_X9_empty_74 K hQ hX hTh hK66 _ _ g1 h hGσ hYσ hE hth _ _ _ hH (lv_sub (l' := [(0, .ref th), (1, .int (i32 v1))]) hl [0, 1] rfl) hc
theorem al_X9_empty_66 {Q : Sg → Unit → Prop} {X : Sg → String → Prop} {th : Nat} (K : MD l R p s m args c cX9_empty 2 RX9 D cA tys A n0 s0 1 21 []) (hQ : CQV p l e R s m args below meth c cX9_empty D cA A n0 s0 QM σi Q) (hX : CX p l e R s m args below meth c 2 D cA A n0 s0 QM σi X) (hTh : CT p l e R s m args below meth c cX9_empty 2 D cA A n0 s0 QM σi RX9 X) : ∀ (n : Nat), ∀ (σ : Sg) (v1 : Int) (g1 : rng v1), wl_X9_empty_66 th Q X n σ v1 → RG σ → TY σ → Ext σi σ → kO σ th 9 → JJ p l e R s m args below meth c 2 D cA A n0 s0 QM σ 66 [(0, .ref th), (1, .int (i32 v1))] [] := by
  intro n
  induction n with
  | zero => intro σ v1 g1 h; exact h.elim
  | succ n ih => exact fun σ v1 g1 h => a_X9_empty_66 K hQ hX hTh ih σ v1 g1 h
set_option maxRecDepth 20000 in
theorem a_X9_empty_64 {Q : Sg → Unit → Prop} {X : Sg → String → Prop} {th : Nat} (K : MD l R p s m args c cX9_empty 2 RX9 D cA tys A n0 s0 1 21 []) (hQ : CQV p l e R s m args below meth c cX9_empty D cA A n0 s0 QM σi Q) (hX : CX p l e R s m args below meth c 2 D cA A n0 s0 QM σi X) (hTh : CT p l e R s m args below meth c cX9_empty 2 D cA A n0 s0 QM σi RX9 X) : ∀ (σ : Sg), w_X9_empty_64 th Q X σ → RG σ → TY σ → Ext σi σ → kO σ th 9 → JJ p l e R s m args below meth c 2 D cA A n0 s0 QM σ 64 [(0, .ref th)] [] := by
  intro σ h hGσ hYσ hE hth H locs ls hH hl hc
  have B := K.1
  have hl9 := K.2.2.2.2.2.2
  unfold w_X9_empty_64 at h
  refine lv_iconst (v := i32 0) B.1 B.2.1 dX9_empty_64 (by decide) ?_
  refine lv_istore_n (lv' := [(1, .int (i32 0)), (0, .ref th)]) B.1 B.2.1 dX9_empty_65 rfl hl (by decide) rfl (fun ls hl => ?_)
  obtain ⟨n9, h⟩ := h
  exact al_X9_empty_66 K hQ hX hTh n9 _ _ (by unfold rng; omega) h hGσ hYσ hE hth _ _ _ hH (lv_sub (l' := [(0, .ref th), (1, .int (i32 0))]) hl [1, 0] rfl) hc
set_option maxRecDepth 20000 in
theorem a_X9_empty_10 {Q : Sg → Unit → Prop} {X : Sg → String → Prop} {th : Nat} (K : MD l R p s m args c cX9_empty 2 RX9 D cA tys A n0 s0 1 21 []) (hQ : CQV p l e R s m args below meth c cX9_empty D cA A n0 s0 QM σi Q) (hX : CX p l e R s m args below meth c 2 D cA A n0 s0 QM σi X) (hTh : CT p l e R s m args below meth c cX9_empty 2 D cA A n0 s0 QM σi RX9 X) {K2 : Sg → Int → Prop} (hK2 : ∀ (σ : Sg) (v1 : Int) (g1 : rng v1), K2 σ v1 → RG σ → TY σ → Ext σi σ → kO σ th 9 → JJ p l e R s m args below meth c 2 D cA A n0 s0 QM σ 2 [(0, .ref th), (1, .int (i32 v1))] []) : ∀ (σ : Sg) (v1 : Int) (g1 : rng v1), w_X9_empty_10 th K2 Q X σ v1 → RG σ → TY σ → Ext σi σ → kO σ th 9 → JJ p l e R s m args below meth c 2 D cA A n0 s0 QM σ 10 [(0, .ref th), (1, .int (i32 v1))] [] := by
  intro σ v1 g1 h hGσ hYσ hE hth H locs ls hH hl hc
  have B := K.1
  have hl9 := K.2.2.2.2.2.2
  unfold w_X9_empty_10 at h
  refine lv_aload_n B.1 B.2.1 dX9_empty_10 rfl (lv_at hl 0 rfl) ?_
  refine f_getp B hH hth (by decide) rfl wu_X9 0 (by decide) wf_X9_48 rfl rfl dX9_empty_11 ?_
  refine lv_aload_n B.1 B.2.1 dX9_empty_14 rfl (lv_at hl 0 rfl) ?_
  refine f_getp B hH hth (by decide) rfl wu_X9 3 (by decide) wf_X9_20 rfl rfl dX9_empty_15 ?_
  refine lv_iload_n B.1 B.2.1 dX9_empty_18 rfl (lv_at hl 1 rfl) ?_
  obtain ⟨a64, ea64, h⟩ := h
  have ka64 : kO σ a64 120 := (hYσ.get hth (by decide)) a64 ea64
  have h := h ka64
  obtain ⟨q1, h⟩ := h
  refine W.eq (g2 := F0 m 19 ls [.int (i32 v1), .ref a64, va_rf (gP σ th 0)]) (by rw [ea64]; rfl) ?_
  refine y_aald B hH (t0 := 7) ka64 (by decide) K.2.1.2.2.2.2.1 q1 (hYσ.2 _) dX9_empty_19 ?_
  obtain ⟨a65, ea65, h⟩ := h
  have ka65 : kO σ a65 10 := (hYσ.get ka64 rfl) a65 ea65
  have h := h ka65
  refine W.eq (g2 := F0 m 20 ls [.ref a65, va_rf (gP σ th 0)]) (by rw [ea65]; rfl) ?_
  refine f_getp B hH ka65 (by decide) rfl wu_X10 2 (by decide) wf_X9_138 rfl rfl dX9_empty_20 ?_
  obtain ⟨a67, ea67, h⟩ := h
  have ka67 : kO σ a67 8 := (hYσ.get hth (by decide)) a67 ea67
  have h := h ka67
  refine W.eq (g2 := F0 m 23 ls [va_rf (gP σ a65 2), .ref a67]) (by rw [ea67]; rfl) ?_
  refine c_V B hH hl hc K.2.2.1 (C := RX8) (T := TX8) (N := 3) (ci := 8) (As := [va_rf (gP σ a65 2)]) (ok_X8_releaseAll hl9 K.2.1 σ a67 (gP σ a65 2) (hYσ.get ka65 (by decide)) ka67 hGσ hYσ h) wc_X9_64 1 hd_X8_releaseAll ⟨Nat.le_trans (Nat.le_of_ble_eq_true rfl) K.2.2.2.1, Nat.le_trans (Nat.le_of_ble_eq_true rfl) K.2.2.2.2.1⟩ ka67.1 ka67.2 (by decide) rfl rfl (rest := []) rfl (Nat.le_of_ble_eq_true rfl) dX9_empty_23 (fun σ66 w hq => ?_) (fun σ9 E9 hx9 => hX σ9 E9 _ _ _ (tb_out K.2.2.2.2.2.1 rfl) hx9.1 hx9.2.1 hx9.2.2.1 (hE.trans hx9.2.2.2))
  obtain ⟨rfl, h, hGσ66, hYσ66, xσ66⟩ := hq
  have h := h xσ66
  intro H locs ls hH hl hc
  refine W.eq (g2 := F0 m 26 ls []) (rfl) ?_
  try dsimp only at h
  refine lv_aload_n B.1 B.2.1 dX9_empty_26 rfl (lv_at hl 0 rfl) ?_
  refine f_getp B hH (hth.up xσ66) (by decide) rfl wu_X9 0 (by decide) wf_X9_48 rfl rfl dX9_empty_27 ?_
  refine lv_aload_n B.1 B.2.1 dX9_empty_30 rfl (lv_at hl 0 rfl) ?_
  refine f_getp B hH (hth.up xσ66) (by decide) rfl wu_X9 3 (by decide) wf_X9_20 rfl rfl dX9_empty_31 ?_
  refine lv_iload_n B.1 B.2.1 dX9_empty_34 rfl (lv_at hl 1 rfl) ?_
  obtain ⟨a68, ea68, h⟩ := h
  have ka68 : kO σ66 a68 120 := (hYσ66.get (hth.up xσ66) (by decide)) a68 ea68
  have h := h ka68
  obtain ⟨q2, h⟩ := h
  refine W.eq (g2 := F0 m 35 ls [.int (i32 v1), .ref a68, va_rf (gP σ66 th 0)]) (by rw [ea68]; rfl) ?_
  refine y_aald B hH (t0 := 7) ka68 (by decide) K.2.1.2.2.2.2.1 q2 (hYσ66.2 _) dX9_empty_35 ?_
  obtain ⟨a69, ea69, h⟩ := h
  have ka69 : kO σ66 a69 10 := (hYσ66.get ka68 rfl) a69 ea69
  have h := h ka69
  refine W.eq (g2 := F0 m 36 ls [.ref a69, va_rf (gP σ66 th 0)]) (by rw [ea69]; rfl) ?_
  refine f_getp B hH ka69 (by decide) rfl wu_X10 3 (by decide) wf_X9_142 rfl rfl dX9_empty_36 ?_
  obtain ⟨a71, ea71, h⟩ := h
  have ka71 : kO σ66 a71 8 := (hYσ66.get (hth.up xσ66) (by decide)) a71 ea71
  have h := h ka71
  refine W.eq (g2 := F0 m 39 ls [va_rf (gP σ66 a69 3), .ref a71]) (by rw [ea71]; rfl) ?_
  refine c_V B hH hl hc K.2.2.1 (C := RX8) (T := TX8) (N := 3) (ci := 8) (As := [va_rf (gP σ66 a69 3)]) (ok_X8_releaseAll hl9 K.2.1 σ66 a71 (gP σ66 a69 3) (hYσ66.get ka69 (by decide)) ka71 hGσ66 hYσ66 h) wc_X9_64 1 hd_X8_releaseAll ⟨Nat.le_trans (Nat.le_of_ble_eq_true rfl) K.2.2.2.1, Nat.le_trans (Nat.le_of_ble_eq_true rfl) K.2.2.2.2.1⟩ ka71.1 ka71.2 (by decide) rfl rfl (rest := []) rfl (Nat.le_of_ble_eq_true rfl) dX9_empty_39 (fun σ70 w hq => ?_) (fun σ9 E9 hx9 => hX σ9 E9 _ _ _ (tb_out K.2.2.2.2.2.1 rfl) hx9.1 hx9.2.1 hx9.2.2.1 ((hE.trans xσ66).trans hx9.2.2.2))
  obtain ⟨rfl, h, hGσ70, hYσ70, xσ70⟩ := hq
  have h := h xσ70
  intro H locs ls hH hl hc
  refine W.eq (g2 := F0 m 42 ls []) (rfl) ?_
  try dsimp only at h
  refine lv_aload_n B.1 B.2.1 dX9_empty_42 rfl (lv_at hl 0 rfl) ?_
  refine f_getp B hH (hth.up (xσ66.trans xσ70)) (by decide) rfl wu_X9 0 (by decide) wf_X9_48 rfl rfl dX9_empty_43 ?_
  refine lv_aload_n B.1 B.2.1 dX9_empty_46 rfl (lv_at hl 0 rfl) ?_
  refine f_getp B hH (hth.up (xσ66.trans xσ70)) (by decide) rfl wu_X9 3 (by decide) wf_X9_20 rfl rfl dX9_empty_47 ?_
  refine lv_iload_n B.1 B.2.1 dX9_empty_50 rfl (lv_at hl 1 rfl) ?_
  obtain ⟨a72, ea72, h⟩ := h
  have ka72 : kO σ70 a72 120 := (hYσ70.get (hth.up (xσ66.trans xσ70)) (by decide)) a72 ea72
  have h := h ka72
  obtain ⟨q3, h⟩ := h
  refine W.eq (g2 := F0 m 51 ls [.int (i32 v1), .ref a72, va_rf (gP σ70 th 0)]) (by rw [ea72]; rfl) ?_
  refine y_aald B hH (t0 := 7) ka72 (by decide) K.2.1.2.2.2.2.1 q3 (hYσ70.2 _) dX9_empty_51 ?_
  obtain ⟨a73, ea73, h⟩ := h
  have ka73 : kO σ70 a73 10 := (hYσ70.get ka72 rfl) a73 ea73
  have h := h ka73
  refine W.eq (g2 := F0 m 52 ls [.ref a73, va_rf (gP σ70 th 0)]) (by rw [ea73]; rfl) ?_
  refine f_getp B hH ka73 (by decide) rfl wu_X10 4 (by decide) wf_X9_145 rfl rfl dX9_empty_52 ?_
  obtain ⟨a75, ea75, h⟩ := h
  have ka75 : kO σ70 a75 8 := (hYσ70.get (hth.up (xσ66.trans xσ70)) (by decide)) a75 ea75
  have h := h ka75
  refine W.eq (g2 := F0 m 55 ls [va_rf (gP σ70 a73 4), .ref a75]) (by rw [ea75]; rfl) ?_
  refine c_V B hH hl hc K.2.2.1 (C := RX8) (T := TX8) (N := 3) (ci := 8) (As := [va_rf (gP σ70 a73 4)]) (ok_X8_releaseAll hl9 K.2.1 σ70 a75 (gP σ70 a73 4) (hYσ70.get ka73 (by decide)) ka75 hGσ70 hYσ70 h) wc_X9_64 1 hd_X8_releaseAll ⟨Nat.le_trans (Nat.le_of_ble_eq_true rfl) K.2.2.2.1, Nat.le_trans (Nat.le_of_ble_eq_true rfl) K.2.2.2.2.1⟩ ka75.1 ka75.2 (by decide) rfl rfl (rest := []) rfl (Nat.le_of_ble_eq_true rfl) dX9_empty_55 (fun σ74 w hq => ?_) (fun σ9 E9 hx9 => hX σ9 E9 _ _ _ (tb_out K.2.2.2.2.2.1 rfl) hx9.1 hx9.2.1 hx9.2.2.1 (((hE.trans xσ66).trans xσ70).trans hx9.2.2.2))
  obtain ⟨rfl, h, hGσ74, hYσ74, xσ74⟩ := hq
  have h := h xσ74
  intro H locs ls hH hl hc
  refine W.eq (g2 := F0 m 58 ls []) (rfl) ?_
  try dsimp only at h
  obtain ⟨q4, h⟩ := h
  refine lv_iinc (k := 1) (v := i32 (v1 + 1)) (lv' := [(1, .int (i32 (v1 + 1))), (0, .ref th)]) B.1 B.2.1 dX9_empty_58 hl rfl (i32_add _ _) (by decide) rfl (fun ls hl => ?_)
  refine lv_goto (tgt := 2) B.1 B.2.1 dX9_empty_61 (by decide) ?_
  exact hK2 _ _ q4 h hGσ74 hYσ74 (((hE.trans xσ66).trans xσ70).trans xσ74) (hth.up (xσ66.trans (xσ70.trans xσ74))) _ _ _ hH (lv_sub (l' := [(0, .ref th), (1, .int (i32 (v1 + 1)))]) hl [1, 0] rfl) hc
set_option maxRecDepth 20000 in
theorem a_X9_empty_2 {Q : Sg → Unit → Prop} {X : Sg → String → Prop} {th : Nat} (K : MD l R p s m args c cX9_empty 2 RX9 D cA tys A n0 s0 1 21 []) (hQ : CQV p l e R s m args below meth c cX9_empty D cA A n0 s0 QM σi Q) (hX : CX p l e R s m args below meth c 2 D cA A n0 s0 QM σi X) (hTh : CT p l e R s m args below meth c cX9_empty 2 D cA A n0 s0 QM σi RX9 X) {K2 : Sg → Int → Prop} (hK2 : ∀ (σ : Sg) (v1 : Int) (g1 : rng v1), K2 σ v1 → RG σ → TY σ → Ext σi σ → kO σ th 9 → JJ p l e R s m args below meth c 2 D cA A n0 s0 QM σ 2 [(0, .ref th), (1, .int (i32 v1))] []) : ∀ (σ : Sg) (v1 : Int) (g1 : rng v1), w_X9_empty_2 th K2 Q X σ v1 → RG σ → TY σ → Ext σi σ → kO σ th 9 → JJ p l e R s m args below meth c 2 D cA A n0 s0 QM σ 2 [(0, .ref th), (1, .int (i32 v1))] [] := by
  intro σ v1 g1 h hGσ hYσ hE hth H locs ls hH hl hc
  have B := K.1
  have hl9 := K.2.2.2.2.2.2
  unfold w_X9_empty_2 at h
  refine lv_iload_n B.1 B.2.1 dX9_empty_2 rfl (lv_at hl 1 rfl) ?_
  refine lv_aload_n B.1 B.2.1 dX9_empty_3 rfl (lv_at hl 0 rfl) ?_
  refine f_geti B hH hth (by decide) rfl wu_X9 10 (by decide) wf_X9_78 rfl rfl dX9_empty_4 ?_
  refine lv_icmp_ge (tgt := 64) B.1 B.2.1 dX9_empty_7 (by decide) (fun h9 => ?_) (fun h9 => ?_)
  · rw [if_pos ((i32_le (hGσ _ _) g1).mp h9)] at h
    exact a_X9_empty_64 K hQ hX hTh _ h hGσ hYσ hE hth _ _ _ hH (lv_sub (l' := [(0, .ref th)]) hl [0] rfl) hc
  · rw [if_neg (fun q => h9 ((i32_le (hGσ _ _) g1).mpr q))] at h
    exact a_X9_empty_10 K hQ hX hTh hK2 _ _ g1 h hGσ hYσ hE hth _ _ _ hH (lv_sub (l' := [(0, .ref th), (1, .int (i32 v1))]) hl [0, 1] rfl) hc
theorem al_X9_empty_2 {Q : Sg → Unit → Prop} {X : Sg → String → Prop} {th : Nat} (K : MD l R p s m args c cX9_empty 2 RX9 D cA tys A n0 s0 1 21 []) (hQ : CQV p l e R s m args below meth c cX9_empty D cA A n0 s0 QM σi Q) (hX : CX p l e R s m args below meth c 2 D cA A n0 s0 QM σi X) (hTh : CT p l e R s m args below meth c cX9_empty 2 D cA A n0 s0 QM σi RX9 X) : ∀ (n : Nat), ∀ (σ : Sg) (v1 : Int) (g1 : rng v1), wl_X9_empty_2 th Q X n σ v1 → RG σ → TY σ → Ext σi σ → kO σ th 9 → JJ p l e R s m args below meth c 2 D cA A n0 s0 QM σ 2 [(0, .ref th), (1, .int (i32 v1))] [] := by
  intro n
  induction n with
  | zero => intro σ v1 g1 h; exact h.elim
  | succ n ih => exact fun σ v1 g1 h => a_X9_empty_2 K hQ hX hTh ih σ v1 g1 h
set_option maxRecDepth 20000 in
theorem a_X9_empty_0 {Q : Sg → Unit → Prop} {X : Sg → String → Prop} {th : Nat} (K : MD l R p s m args c cX9_empty 2 RX9 D cA tys A n0 s0 1 21 []) (hQ : CQV p l e R s m args below meth c cX9_empty D cA A n0 s0 QM σi Q) (hX : CX p l e R s m args below meth c 2 D cA A n0 s0 QM σi X) (hTh : CT p l e R s m args below meth c cX9_empty 2 D cA A n0 s0 QM σi RX9 X) : ∀ (σ : Sg), w_X9_empty_0 th Q X σ → RG σ → TY σ → Ext σi σ → kO σ th 9 → JJ p l e R s m args below meth c 2 D cA A n0 s0 QM σ 0 [(0, .ref th)] [] := by
  intro σ h hGσ hYσ hE hth H locs ls hH hl hc
  have B := K.1
  have hl9 := K.2.2.2.2.2.2
  unfold w_X9_empty_0 at h
  refine lv_iconst (v := i32 0) B.1 B.2.1 dX9_empty_0 (by decide) ?_
  refine lv_istore_n (lv' := [(1, .int (i32 0)), (0, .ref th)]) B.1 B.2.1 dX9_empty_1 rfl hl (by decide) rfl (fun ls hl => ?_)
  obtain ⟨n9, h⟩ := h
  exact al_X9_empty_2 K hQ hX hTh n9 _ _ (by unfold rng; omega) h hGσ hYσ hE hth _ _ _ hH (lv_sub (l' := [(0, .ref th), (1, .int (i32 0))]) hl [1, 0] rfl) hc
theorem ok_X9_empty (hl0 : l.stackTraces = false) (hT : TyC cA tys) {Q : Sg → Unit → Prop} {X : Sg → String → Prop} (σ : Sg) (th : Nat) (hth : kO σ th 9) (hG : RG σ) (hY : TY σ) (h : wp_X9_empty th σ Q X) : Ok l D cA tys A yX9_empty (.code yX9_empty cX9_empty 2 none) 1 21 [.ref th] σ (QcV σ Q) (QxC σ X) := by
  unfold wp_X9_empty at h
  exact oc_V hl0 (by decide) (by exact Nat.le_of_ble_eq_true rfl) hT (fun p e R s m args below meth c K hQ hX hTh hin9 H locs ls hH hl hc => a_X9_empty_0 K hQ hX hTh σ h hG hY (Ext.rfl' σ) hth H locs ls hH (lv_sub (l' := [(0, .ref th)]) hl [0] rfl) hc)
theorem dX9_end_0 : decode cX9_end 0 = .ok (.aload_n 0, 1) := by decide +kernel
theorem dX9_end_1 : decode cX9_end 1 = .ok (.invokevirtual 61, 3) := by decide +kernel
theorem dX9_end_4 : decode cX9_end 4 = .ok (.iconst 0, 1) := by decide +kernel
theorem dX9_end_5 : decode cX9_end 5 = .ok (.istore_n 1, 1) := by decide +kernel
theorem dX9_end_6 : decode cX9_end 6 = .ok (.iload_n 1, 1) := by decide +kernel
theorem dX9_end_7 : decode cX9_end 7 = .ok (.iconst 4, 1) := by decide +kernel
theorem dX9_end_8 : decode cX9_end 8 = .ok (.if_icmp .ge 22, 3) := by decide +kernel
theorem dX9_end_11 : decode cX9_end 11 = .ok (.aload_n 0, 1) := by decide +kernel
theorem dX9_end_12 : decode cX9_end 12 = .ok (.getfield 48, 3) := by decide +kernel
theorem dX9_end_15 : decode cX9_end 15 = .ok (.aload_n 0, 1) := by decide +kernel
theorem dX9_end_16 : decode cX9_end 16 = .ok (.getfield 45, 3) := by decide +kernel
theorem dX9_end_19 : decode cX9_end 19 = .ok (.iload_n 1, 1) := by decide +kernel
theorem dX9_end_20 : decode cX9_end 20 = .ok (.aaload, 1) := by decide +kernel
theorem dX9_end_21 : decode cX9_end 21 = .ok (.invokevirtual 64, 3) := by decide +kernel
theorem dX9_end_24 : decode cX9_end 24 = .ok (.iinc 1 1, 3) := by decide +kernel
theorem dX9_end_27 : decode cX9_end 27 = .ok (.goto (-21), 3) := by decide +kernel
theorem dX9_end_30 : decode cX9_end 30 = .ok (.aload_n 0, 1) := by decide +kernel
theorem dX9_end_31 : decode cX9_end 31 = .ok (.getfield 12, 3) := by decide +kernel
theorem dX9_end_34 : decode cX9_end 34 = .ok (.aload_n 0, 1) := by decide +kernel
theorem dX9_end_35 : decode cX9_end 35 = .ok (.getfield 48, 3) := by decide +kernel
theorem dX9_end_38 : decode cX9_end 38 = .ok (.invokevirtual 70, 3) := by decide +kernel
theorem dX9_end_41 : decode cX9_end 41 = .ok (.aload_n 0, 1) := by decide +kernel
theorem dX9_end_42 : decode cX9_end 42 = .ok (.getfield 48, 3) := by decide +kernel
theorem dX9_end_45 : decode cX9_end 45 = .ok (.iconst 0, 1) := by decide +kernel
theorem dX9_end_46 : decode cX9_end 46 = .ok (.putfield 74, 3) := by decide +kernel
theorem dX9_end_49 : decode cX9_end 49 = .ok (.aload_n 0, 1) := by decide +kernel
theorem dX9_end_50 : decode cX9_end 50 = .ok (.iconst 0, 1) := by decide +kernel
theorem dX9_end_51 : decode cX9_end 51 = .ok (.putfield 78, 3) := by decide +kernel
theorem dX9_end_54 : decode cX9_end 54 = .ok (.aload_n 0, 1) := by decide +kernel
theorem dX9_end_55 : decode cX9_end 55 = .ok (.iconst 0, 1) := by decide +kernel
theorem dX9_end_56 : decode cX9_end 56 = .ok (.putfield 81, 3) := by decide +kernel
theorem dX9_end_59 : decode cX9_end 59 = .ok (.aload_n 0, 1) := by decide +kernel
theorem dX9_end_60 : decode cX9_end 60 = .ok (.iconst 0, 1) := by decide +kernel
theorem dX9_end_61 : decode cX9_end 61 = .ok (.putfield 84, 3) := by decide +kernel
theorem dX9_end_64 : decode cX9_end 64 = .ok (.aload_n 0, 1) := by decide +kernel
theorem dX9_end_65 : decode cX9_end 65 = .ok (.iconst 0, 1) := by decide +kernel
theorem dX9_end_66 : decode cX9_end 66 = .ok (.putfield 88, 3) := by decide +kernel
theorem dX9_end_69 : decode cX9_end 69 = .ok (.aload_n 0, 1) := by decide +kernel
theorem dX9_end_70 : decode cX9_end 70 = .ok (.iconst 0, 1) := by decide +kernel
theorem dX9_end_71 : decode cX9_end 71 = .ok (.putfield 91, 3) := by decide +kernel
theorem dX9_end_74 : decode cX9_end 74 = .ok (.aload_n 0, 1) := by decide +kernel
theorem dX9_end_75 : decode cX9_end 75 = .ok (.iconst 0, 1) := by decide +kernel
theorem dX9_end_76 : decode cX9_end 76 = .ok (.putfield 94, 3) := by decide +kernel
theorem dX9_end_79 : decode cX9_end 79 = .ok (.return_, 1) := by decide +kernel
set_option maxRecDepth 20000 in
theorem a_X9_end_30 {Q : Sg → Unit → Prop} {X : Sg → String → Prop} {th : Nat} (K : MD l R p s m args c cX9_end 2 RX9 D cA tys A n0 s0 4 85 []) (hQ : CQV p l e R s m args below meth c cX9_end D cA A n0 s0 QM σi Q) (hX : CX p l e R s m args below meth c 2 D cA A n0 s0 QM σi X) (hTh : CT p l e R s m args below meth c cX9_end 2 D cA A n0 s0 QM σi RX9 X) : ∀ (σ : Sg), w_X9_end_30 th Q X σ → RG σ → TY σ → Ext σi σ → kO σ th 9 → JJ p l e R s m args below meth c 2 D cA A n0 s0 QM σ 30 [(0, .ref th)] [] := by
  intro σ h hGσ hYσ hE hth H locs ls hH hl hc
  have B := K.1
  have hl9 := K.2.2.2.2.2.2
  unfold w_X9_end_30 at h
  refine lv_aload_n B.1 B.2.1 dX9_end_30 rfl (lv_at hl 0 rfl) ?_
  refine f_getp B hH hth (by decide) rfl wu_X9 2 (by decide) wf_X9_12 rfl rfl dX9_end_31 ?_
  refine lv_aload_n B.1 B.2.1 dX9_end_34 rfl (lv_at hl 0 rfl) ?_
  refine f_getp B hH hth (by decide) rfl wu_X9 0 (by decide) wf_X9_48 rfl rfl dX9_end_35 ?_
  obtain ⟨a30, ea30, h⟩ := h
  have ka30 : kO σ a30 3 := (hYσ.get hth (by decide)) a30 ea30
  have h := h ka30
  refine W.eq (g2 := F0 m 38 ls [va_rf (gP σ th 0), .ref a30]) (by rw [ea30]; rfl) ?_
  refine c_V B hH hl hc K.2.2.1 (C := RX3) (T := TX3) (N := 10) (ci := 3) (As := [va_rf (gP σ th 0)]) (ok_X3_forgetMarks hl9 K.2.1 σ a30 (gP σ th 0) (hYσ.get hth (by decide)) ka30 hGσ hYσ h) wc_X9_70 1 hd_X3_forgetMarks ⟨Nat.le_trans (Nat.le_of_ble_eq_true rfl) K.2.2.2.1, Nat.le_trans (Nat.le_of_ble_eq_true rfl) K.2.2.2.2.1⟩ ka30.1 ka30.2 (by decide) rfl rfl (rest := []) rfl (Nat.le_of_ble_eq_true rfl) dX9_end_38 (fun σ29 w hq => ?_) (fun σ9 E9 hx9 => hX σ9 E9 _ _ _ (tb_out K.2.2.2.2.2.1 rfl) hx9.1 hx9.2.1 hx9.2.2.1 (hE.trans hx9.2.2.2))
  obtain ⟨rfl, h, hGσ29, hYσ29, xσ29⟩ := hq
  have h := h xσ29
  intro H locs ls hH hl hc
  refine W.eq (g2 := F0 m 41 ls []) (rfl) ?_
  try dsimp only at h
  refine lv_aload_n B.1 B.2.1 dX9_end_41 rfl (lv_at hl 0 rfl) ?_
  refine f_getp B hH (hth.up xσ29) (by decide) rfl wu_X9 0 (by decide) wf_X9_48 rfl rfl dX9_end_42 ?_
  refine lv_iconst (v := i32 0) B.1 B.2.1 dX9_end_45 (by decide) ?_
  obtain ⟨a31, ea31, h⟩ := h
  have ka31 : kO σ29 a31 8 := (hYσ29.get (hth.up xσ29) (by decide)) a31 ea31
  have h := h ka31
  obtain ⟨σ32, eσ32⟩ : ∃ z, z = pI σ29 a31 1 0 := ⟨_, rfl⟩
  have h := h σ32 eσ32
  refine W.eq (g2 := F0 m 46 ls [.int (i32 0), .ref a31]) (by rw [ea31]; rfl) ?_
  refine f_puti B hH ka31 (by decide) rfl wu_X8 tyX8 tyX8_ok nmX8 1 (by decide) wf_X9_74 rfl (ty := .int) rfl rfl rfl rfl rfl dX9_end_46 (fun H locs hH => ?_)
  have hH : Hd D cA A s (pI σ29 a31 1 0) H locs := hH
  rw [← eσ32] at hH
  have hGσ32 : RG σ32 := by rw [eσ32]; exact hGσ29.pI (by unfold rng; omega)
  have hYσ32 : TY σ32 := by rw [eσ32]; exact hYσ29.pI
  have xσ32 : Ext σ29 σ32 := by rw [eσ32]; exact Ext.pI
  have hc : CB n0 s0 σ32 := by rw [eσ32]; exact hc
  rw [show gc σ29 = gc σ32 by rw [eσ32]; try rfl, show gs σ29 = gs σ32 by rw [eσ32]; try rfl]
  refine lv_aload_n B.1 B.2.1 dX9_end_49 rfl (lv_at hl 0 rfl) ?_
  refine lv_iconst (v := i32 0) B.1 B.2.1 dX9_end_50 (by decide) ?_
  obtain ⟨σ33, eσ33⟩ : ∃ z, z = pI σ32 th 10 0 := ⟨_, rfl⟩
  have h := h σ33 eσ33
  refine f_puti B hH (hth.up (xσ29.trans xσ32)) (by decide) rfl wu_X9 tyX9 tyX9_ok nmX9 10 (by decide) wf_X9_78 rfl (ty := .int) rfl rfl rfl rfl rfl dX9_end_51 (fun H locs hH => ?_)
  have hH : Hd D cA A s (pI σ32 th 10 0) H locs := hH
  rw [← eσ33] at hH
  have hGσ33 : RG σ33 := by rw [eσ33]; exact hGσ32.pI (by unfold rng; omega)
  have hYσ33 : TY σ33 := by rw [eσ33]; exact hYσ32.pI
  have xσ33 : Ext σ32 σ33 := by rw [eσ33]; exact Ext.pI
  have hc : CB n0 s0 σ33 := by rw [eσ33]; exact hc
  rw [show gc σ32 = gc σ33 by rw [eσ33]; try rfl, show gs σ32 = gs σ33 by rw [eσ33]; try rfl]
  refine lv_aload_n B.1 B.2.1 dX9_end_54 rfl (lv_at hl 0 rfl) ?_
  refine lv_iconst (v := i32 0) B.1 B.2.1 dX9_end_55 (by decide) ?_
  obtain ⟨σ34, eσ34⟩ : ∃ z, z = pI σ33 th 11 0 := ⟨_, rfl⟩
  have h := h σ34 eσ34
  refine f_puti B hH (hth.up (xσ29.trans (xσ32.trans xσ33))) (by decide) rfl wu_X9 tyX9 tyX9_ok nmX9 11 (by decide) wf_X9_81 rfl (ty := .int) rfl rfl rfl rfl rfl dX9_end_56 (fun H locs hH => ?_)
  have hH : Hd D cA A s (pI σ33 th 11 0) H locs := hH
  rw [← eσ34] at hH
  have hGσ34 : RG σ34 := by rw [eσ34]; exact hGσ33.pI (by unfold rng; omega)
  have hYσ34 : TY σ34 := by rw [eσ34]; exact hYσ33.pI
  have xσ34 : Ext σ33 σ34 := by rw [eσ34]; exact Ext.pI
  have hc : CB n0 s0 σ34 := by rw [eσ34]; exact hc
  rw [show gc σ33 = gc σ34 by rw [eσ34]; try rfl, show gs σ33 = gs σ34 by rw [eσ34]; try rfl]
  refine lv_aload_n B.1 B.2.1 dX9_end_59 rfl (lv_at hl 0 rfl) ?_
  refine lv_iconst (v := i32 0) B.1 B.2.1 dX9_end_60 (by decide) ?_
  obtain ⟨σ35, eσ35⟩ : ∃ z, z = pI σ34 th 16 0 := ⟨_, rfl⟩
  have h := h σ35 eσ35
  refine f_puti B hH (hth.up (xσ29.trans (xσ32.trans (xσ33.trans xσ34)))) (by decide) rfl wu_X9 tyX9 tyX9_ok nmX9 16 (by decide) wf_X9_84 rfl (ty := .boolean) rfl rfl rfl rfl rfl dX9_end_61 (fun H locs hH => ?_)
  have hH : Hd D cA A s (pI σ34 th 16 0) H locs := hH
  rw [← eσ35] at hH
  have hGσ35 : RG σ35 := by rw [eσ35]; exact hGσ34.pI (by unfold rng; omega)
  have hYσ35 : TY σ35 := by rw [eσ35]; exact hYσ34.pI
  have xσ35 : Ext σ34 σ35 := by rw [eσ35]; exact Ext.pI
  have hc : CB n0 s0 σ35 := by rw [eσ35]; exact hc
  rw [show gc σ34 = gc σ35 by rw [eσ35]; try rfl, show gs σ34 = gs σ35 by rw [eσ35]; try rfl]
  refine lv_aload_n B.1 B.2.1 dX9_end_64 rfl (lv_at hl 0 rfl) ?_
  refine lv_iconst (v := i32 0) B.1 B.2.1 dX9_end_65 (by decide) ?_
  obtain ⟨σ36, eσ36⟩ : ∃ z, z = pI σ35 th 17 0 := ⟨_, rfl⟩
  have h := h σ36 eσ36
  refine f_puti B hH (hth.up (xσ29.trans (xσ32.trans (xσ33.trans (xσ34.trans xσ35))))) (by decide) rfl wu_X9 tyX9 tyX9_ok nmX9 17 (by decide) wf_X9_88 rfl (ty := .int) rfl rfl rfl rfl rfl dX9_end_66 (fun H locs hH => ?_)
  have hH : Hd D cA A s (pI σ35 th 17 0) H locs := hH
  rw [← eσ36] at hH
  have hGσ36 : RG σ36 := by rw [eσ36]; exact hGσ35.pI (by unfold rng; omega)
  have hYσ36 : TY σ36 := by rw [eσ36]; exact hYσ35.pI
  have xσ36 : Ext σ35 σ36 := by rw [eσ36]; exact Ext.pI
  have hc : CB n0 s0 σ36 := by rw [eσ36]; exact hc
  rw [show gc σ35 = gc σ36 by rw [eσ36]; try rfl, show gs σ35 = gs σ36 by rw [eσ36]; try rfl]
  refine lv_aload_n B.1 B.2.1 dX9_end_69 rfl (lv_at hl 0 rfl) ?_
  refine lv_iconst (v := i32 0) B.1 B.2.1 dX9_end_70 (by decide) ?_
  obtain ⟨σ37, eσ37⟩ : ∃ z, z = pI σ36 th 18 0 := ⟨_, rfl⟩
  have h := h σ37 eσ37
  refine f_puti B hH (hth.up (xσ29.trans (xσ32.trans (xσ33.trans (xσ34.trans (xσ35.trans xσ36)))))) (by decide) rfl wu_X9 tyX9 tyX9_ok nmX9 18 (by decide) wf_X9_91 rfl (ty := .int) rfl rfl rfl rfl rfl dX9_end_71 (fun H locs hH => ?_)
  have hH : Hd D cA A s (pI σ36 th 18 0) H locs := hH
  rw [← eσ37] at hH
  have hGσ37 : RG σ37 := by rw [eσ37]; exact hGσ36.pI (by unfold rng; omega)
  have hYσ37 : TY σ37 := by rw [eσ37]; exact hYσ36.pI
  have xσ37 : Ext σ36 σ37 := by rw [eσ37]; exact Ext.pI
  have hc : CB n0 s0 σ37 := by rw [eσ37]; exact hc
  rw [show gc σ36 = gc σ37 by rw [eσ37]; try rfl, show gs σ36 = gs σ37 by rw [eσ37]; try rfl]
  refine lv_aload_n B.1 B.2.1 dX9_end_74 rfl (lv_at hl 0 rfl) ?_
  refine lv_iconst (v := i32 0) B.1 B.2.1 dX9_end_75 (by decide) ?_
  obtain ⟨σ38, eσ38⟩ : ∃ z, z = pI σ37 th 19 0 := ⟨_, rfl⟩
  have h := h σ38 eσ38
  refine f_puti B hH (hth.up (xσ29.trans (xσ32.trans (xσ33.trans (xσ34.trans (xσ35.trans (xσ36.trans xσ37))))))) (by decide) rfl wu_X9 tyX9 tyX9_ok nmX9 19 (by decide) wf_X9_94 rfl (ty := .int) rfl rfl rfl rfl rfl dX9_end_76 (fun H locs hH => ?_)
  have hH : Hd D cA A s (pI σ37 th 19 0) H locs := hH
  rw [← eσ38] at hH
  have hGσ38 : RG σ38 := by rw [eσ38]; exact hGσ37.pI (by unfold rng; omega)
  have hYσ38 : TY σ38 := by rw [eσ38]; exact hYσ37.pI
  have xσ38 : Ext σ37 σ38 := by rw [eσ38]; exact Ext.pI
  have hc : CB n0 s0 σ38 := by rw [eσ38]; exact hc
  rw [show gc σ37 = gc σ38 by rw [eσ38]; try rfl, show gs σ37 = gs σ38 by rw [eσ38]; try rfl]
  exact hQ _ _ _ _ _ dX9_end_79 hH hc h hGσ38 hYσ38 ((((((((hE.trans xσ29).trans xσ32).trans xσ33).trans xσ34).trans xσ35).trans xσ36).trans xσ37).trans xσ38)
set_option maxRecDepth 20000 in
theorem a_X9_end_11 {Q : Sg → Unit → Prop} {X : Sg → String → Prop} {th : Nat} (K : MD l R p s m args c cX9_end 2 RX9 D cA tys A n0 s0 4 85 []) (hQ : CQV p l e R s m args below meth c cX9_end D cA A n0 s0 QM σi Q) (hX : CX p l e R s m args below meth c 2 D cA A n0 s0 QM σi X) (hTh : CT p l e R s m args below meth c cX9_end 2 D cA A n0 s0 QM σi RX9 X) {K6 : Sg → Int → Prop} (hK6 : ∀ (σ : Sg) (v1 : Int) (g1 : rng v1), K6 σ v1 → RG σ → TY σ → Ext σi σ → kO σ th 9 → JJ p l e R s m args below meth c 2 D cA A n0 s0 QM σ 6 [(0, .ref th), (1, .int (i32 v1))] []) : ∀ (σ : Sg) (v1 : Int) (g1 : rng v1), w_X9_end_11 th K6 Q X σ v1 → RG σ → TY σ → Ext σi σ → kO σ th 9 → JJ p l e R s m args below meth c 2 D cA A n0 s0 QM σ 11 [(0, .ref th), (1, .int (i32 v1))] [] := by
  intro σ v1 g1 h hGσ hYσ hE hth H locs ls hH hl hc
  have B := K.1
  have hl9 := K.2.2.2.2.2.2
  unfold w_X9_end_11 at h
  refine lv_aload_n B.1 B.2.1 dX9_end_11 rfl (lv_at hl 0 rfl) ?_
  refine f_getp B hH hth (by decide) rfl wu_X9 0 (by decide) wf_X9_48 rfl rfl dX9_end_12 ?_
  refine lv_aload_n B.1 B.2.1 dX9_end_15 rfl (lv_at hl 0 rfl) ?_
  refine f_getp B hH hth (by decide) rfl wu_X9 8 (by decide) wf_X9_45 rfl rfl dX9_end_16 ?_
  refine lv_iload_n B.1 B.2.1 dX9_end_19 rfl (lv_at hl 1 rfl) ?_
  obtain ⟨a39, ea39, h⟩ := h
  have ka39 : kO σ a39 111 := (hYσ.get hth (by decide)) a39 ea39
  have h := h ka39
  obtain ⟨q1, h⟩ := h
  refine W.eq (g2 := F0 m 20 ls [.int (i32 v1), .ref a39, va_rf (gP σ th 0)]) (by rw [ea39]; rfl) ?_
  refine y_aald B hH (t0 := 4) ka39 (by decide) K.2.1.2.1 q1 (hYσ.2 _) dX9_end_20 ?_
  obtain ⟨a41, ea41, h⟩ := h
  have ka41 : kO σ a41 8 := (hYσ.get hth (by decide)) a41 ea41
  have h := h ka41
  refine W.eq (g2 := F0 m 21 ls [va_rf (gP σ a39 v1.toNat), .ref a41]) (by rw [ea41]; rfl) ?_
  refine c_V B hH hl hc K.2.2.1 (C := RX8) (T := TX8) (N := 3) (ci := 8) (As := [va_rf (gP σ a39 v1.toNat)]) (ok_X8_releaseAll hl9 K.2.1 σ a41 (gP σ a39 v1.toNat) (hYσ.get ka39 rfl) ka41 hGσ hYσ h) wc_X9_64 1 hd_X8_releaseAll ⟨Nat.le_trans (Nat.le_of_ble_eq_true rfl) K.2.2.2.1, Nat.le_trans (Nat.le_of_ble_eq_true rfl) K.2.2.2.2.1⟩ ka41.1 ka41.2 (by decide) rfl rfl (rest := []) rfl (Nat.le_of_ble_eq_true rfl) dX9_end_21 (fun σ40 w hq => ?_) (fun σ9 E9 hx9 => hX σ9 E9 _ _ _ (tb_out K.2.2.2.2.2.1 rfl) hx9.1 hx9.2.1 hx9.2.2.1 (hE.trans hx9.2.2.2))
  obtain ⟨rfl, h, hGσ40, hYσ40, xσ40⟩ := hq
  have h := h xσ40
  intro H locs ls hH hl hc
  refine W.eq (g2 := F0 m 24 ls []) (rfl) ?_
  try dsimp only at h
  obtain ⟨q2, h⟩ := h
  refine lv_iinc (k := 1) (v := i32 (v1 + 1)) (lv' := [(1, .int (i32 (v1 + 1))), (0, .ref th)]) B.1 B.2.1 dX9_end_24 hl rfl (i32_add _ _) (by decide) rfl (fun ls hl => ?_)
  refine lv_goto (tgt := 6) B.1 B.2.1 dX9_end_27 (by decide) ?_
  exact hK6 _ _ q2 h hGσ40 hYσ40 (hE.trans xσ40) (hth.up xσ40) _ _ _ hH (lv_sub (l' := [(0, .ref th), (1, .int (i32 (v1 + 1)))]) hl [1, 0] rfl) hc
set_option maxRecDepth 20000 in
theorem a_X9_end_6 {Q : Sg → Unit → Prop} {X : Sg → String → Prop} {th : Nat} (K : MD l R p s m args c cX9_end 2 RX9 D cA tys A n0 s0 4 85 []) (hQ : CQV p l e R s m args below meth c cX9_end D cA A n0 s0 QM σi Q) (hX : CX p l e R s m args below meth c 2 D cA A n0 s0 QM σi X) (hTh : CT p l e R s m args below meth c cX9_end 2 D cA A n0 s0 QM σi RX9 X) {K6 : Sg → Int → Prop} (hK6 : ∀ (σ : Sg) (v1 : Int) (g1 : rng v1), K6 σ v1 → RG σ → TY σ → Ext σi σ → kO σ th 9 → JJ p l e R s m args below meth c 2 D cA A n0 s0 QM σ 6 [(0, .ref th), (1, .int (i32 v1))] []) : ∀ (σ : Sg) (v1 : Int) (g1 : rng v1), w_X9_end_6 th K6 Q X σ v1 → RG σ → TY σ → Ext σi σ → kO σ th 9 → JJ p l e R s m args below meth c 2 D cA A n0 s0 QM σ 6 [(0, .ref th), (1, .int (i32 v1))] [] := by
  intro σ v1 g1 h hGσ hYσ hE hth H locs ls hH hl hc
  have B := K.1
  have hl9 := K.2.2.2.2.2.2
  unfold w_X9_end_6 at h
  refine lv_iload_n B.1 B.2.1 dX9_end_6 rfl (lv_at hl 1 rfl) ?_
  refine lv_iconst (v := i32 4) B.1 B.2.1 dX9_end_7 (by decide) ?_
  refine lv_icmp_ge (tgt := 30) B.1 B.2.1 dX9_end_8 (by decide) (fun h9 => ?_) (fun h9 => ?_)
  · rw [if_pos ((i32_le (by unfold rng; omega) g1).mp h9)] at h
    exact a_X9_end_30 K hQ hX hTh _ h hGσ hYσ hE hth _ _ _ hH (lv_sub (l' := [(0, .ref th)]) hl [0] rfl) hc
  · rw [if_neg (fun q => h9 ((i32_le (by unfold rng; omega) g1).mpr q))] at h
    exact a_X9_end_11 K hQ hX hTh hK6 _ _ g1 h hGσ hYσ hE hth _ _ _ hH (lv_sub (l' := [(0, .ref th), (1, .int (i32 v1))]) hl [0, 1] rfl) hc
theorem al_X9_end_6 {Q : Sg → Unit → Prop} {X : Sg → String → Prop} {th : Nat} (K : MD l R p s m args c cX9_end 2 RX9 D cA tys A n0 s0 4 85 []) (hQ : CQV p l e R s m args below meth c cX9_end D cA A n0 s0 QM σi Q) (hX : CX p l e R s m args below meth c 2 D cA A n0 s0 QM σi X) (hTh : CT p l e R s m args below meth c cX9_end 2 D cA A n0 s0 QM σi RX9 X) : ∀ (n : Nat), ∀ (σ : Sg) (v1 : Int) (g1 : rng v1), wl_X9_end_6 th Q X n σ v1 → RG σ → TY σ → Ext σi σ → kO σ th 9 → JJ p l e R s m args below meth c 2 D cA A n0 s0 QM σ 6 [(0, .ref th), (1, .int (i32 v1))] [] := by
  intro n
  induction n with
  | zero => intro σ v1 g1 h; exact h.elim
  | succ n ih => exact fun σ v1 g1 h => a_X9_end_6 K hQ hX hTh ih σ v1 g1 h
set_option maxRecDepth 20000 in
theorem a_X9_end_0 {Q : Sg → Unit → Prop} {X : Sg → String → Prop} {th : Nat} (K : MD l R p s m args c cX9_end 2 RX9 D cA tys A n0 s0 4 85 []) (hQ : CQV p l e R s m args below meth c cX9_end D cA A n0 s0 QM σi Q) (hX : CX p l e R s m args below meth c 2 D cA A n0 s0 QM σi X) (hTh : CT p l e R s m args below meth c cX9_end 2 D cA A n0 s0 QM σi RX9 X) : ∀ (σ : Sg), w_X9_end_0 th Q X σ → RG σ → TY σ → Ext σi σ → kO σ th 9 → JJ p l e R s m args below meth c 2 D cA A n0 s0 QM σ 0 [(0, .ref th)] [] := by
  intro σ h hGσ hYσ hE hth H locs ls hH hl hc
  have B := K.1
  have hl9 := K.2.2.2.2.2.2
  unfold w_X9_end_0 at h
  refine lv_aload_n B.1 B.2.1 dX9_end_0 rfl (lv_at hl 0 rfl) ?_
  refine W.eq (g2 := F0 m 1 ls [.ref th]) (rfl) ?_
  refine c_V B hH hl hc K.2.2.1 (C := RX9) (T := TX9) (N := 20) (ci := 9) (As := []) (ok_X9_empty hl9 K.2.1 σ th hth hGσ hYσ h) wc_X9_61 0 hd_X9_empty ⟨Nat.le_trans (Nat.le_of_ble_eq_true rfl) K.2.2.2.1, Nat.le_trans (Nat.le_of_ble_eq_true rfl) K.2.2.2.2.1⟩ hth.1 hth.2 (by decide) rfl rfl (rest := []) rfl (Nat.le_of_ble_eq_true rfl) dX9_end_1 (fun σ42 w hq => ?_) (fun σ9 E9 hx9 => hX σ9 E9 _ _ _ (tb_out K.2.2.2.2.2.1 rfl) hx9.1 hx9.2.1 hx9.2.2.1 (hE.trans hx9.2.2.2))
  obtain ⟨rfl, h, hGσ42, hYσ42, xσ42⟩ := hq
  have h := h xσ42
  intro H locs ls hH hl hc
  refine W.eq (g2 := F0 m 4 ls []) (rfl) ?_
  try dsimp only at h
  refine lv_iconst (v := i32 0) B.1 B.2.1 dX9_end_4 (by decide) ?_
  refine lv_istore_n (lv' := [(1, .int (i32 0)), (0, .ref th)]) B.1 B.2.1 dX9_end_5 rfl hl (by decide) rfl (fun ls hl => ?_)
  obtain ⟨n9, h⟩ := h
  exact al_X9_end_6 K hQ hX hTh n9 _ _ (by unfold rng; omega) h hGσ42 hYσ42 (hE.trans xσ42) (hth.up xσ42) _ _ _ hH (lv_sub (l' := [(0, .ref th), (1, .int (i32 0))]) hl [1, 0] rfl) hc
theorem ok_X9_end (hl0 : l.stackTraces = false) (hT : TyC cA tys) {Q : Sg → Unit → Prop} {X : Sg → String → Prop} (σ : Sg) (th : Nat) (hth : kO σ th 9) (hG : RG σ) (hY : TY σ) (h : wp_X9_end th σ Q X) : Ok l D cA tys A yX9_end (.code yX9_end cX9_end 2 none) 4 85 [.ref th] σ (QcV σ Q) (QxC σ X) := by
  unfold wp_X9_end at h
  exact oc_V hl0 (by decide) (by exact Nat.le_of_ble_eq_true rfl) hT (fun p e R s m args below meth c K hQ hX hTh hin9 H locs ls hH hl hc => a_X9_end_0 K hQ hX hTh σ h hG hY (Ext.rfl' σ) hth H locs ls hH (lv_sub (l' := [(0, .ref th)]) hl [0] rfl) hc)
theorem dX12_clear_0 : decode cX12_clear 0 = .ok (.aload_n 0, 1) := by decide +kernel
theorem dX12_clear_1 : decode cX12_clear 1 = .ok (.iconst 0, 1) := by decide +kernel
theorem dX12_clear_2 : decode cX12_clear 2 = .ok (.putfield 13, 3) := by decide +kernel
theorem dX12_clear_5 : decode cX12_clear 5 = .ok (.aload_n 0, 1) := by decide +kernel
theorem dX12_clear_6 : decode cX12_clear 6 = .ok (.iconst 0, 1) := by decide +kernel
theorem dX12_clear_7 : decode cX12_clear 7 = .ok (.putfield 17, 3) := by decide +kernel
theorem dX12_clear_10 : decode cX12_clear 10 = .ok (.aload_n 0, 1) := by decide +kernel
theorem dX12_clear_11 : decode cX12_clear 11 = .ok (.getfield 30, 3) := by decide +kernel
theorem dX12_clear_14 : decode cX12_clear 14 = .ok (.invokevirtual 260, 3) := by decide +kernel
theorem dX12_clear_17 : decode cX12_clear 17 = .ok (.aload_n 0, 1) := by decide +kernel
theorem dX12_clear_18 : decode cX12_clear 18 = .ok (.getfield 49, 3) := by decide +kernel
theorem dX12_clear_21 : decode cX12_clear 21 = .ok (.invokevirtual 86, 3) := by decide +kernel
theorem dX12_clear_24 : decode cX12_clear 24 = .ok (.aload_n 0, 1) := by decide +kernel
theorem dX12_clear_25 : decode cX12_clear 25 = .ok (.getfield 49, 3) := by decide +kernel
theorem dX12_clear_28 : decode cX12_clear 28 = .ok (.getfield 66, 3) := by decide +kernel
theorem dX12_clear_31 : decode cX12_clear 31 = .ok (.invokevirtual 169, 3) := by decide +kernel
theorem dX12_clear_34 : decode cX12_clear 34 = .ok (.return_, 1) := by decide +kernel
set_option maxRecDepth 20000 in
theorem a_X12_clear_0 {Q : Sg → Unit → Prop} {X : Sg → String → Prop} {th : Nat} (K : MD l R p s m args c cX12_clear 1 RX12 D cA tys A n0 s0 5 106 []) (hQ : CQV p l e R s m args below meth c cX12_clear D cA A n0 s0 QM σi Q) (hX : CX p l e R s m args below meth c 1 D cA A n0 s0 QM σi X) (hTh : CT p l e R s m args below meth c cX12_clear 1 D cA A n0 s0 QM σi RX12 X) : ∀ (σ : Sg), w_X12_clear_0 th Q X σ → RG σ → TY σ → Ext σi σ → kO σ th 12 → JJ p l e R s m args below meth c 1 D cA A n0 s0 QM σ 0 [(0, .ref th)] [] := by
  intro σ h hGσ hYσ hE hth H locs ls hH hl hc
  have B := K.1
  have hl9 := K.2.2.2.2.2.2
  unfold w_X12_clear_0 at h
  refine lv_aload_n B.1 B.2.1 dX12_clear_0 rfl (lv_at hl 0 rfl) ?_
  refine lv_iconst (v := i32 0) B.1 B.2.1 dX12_clear_1 (by decide) ?_
  obtain ⟨σ19, eσ19⟩ : ∃ z, z = pI σ th 1 0 := ⟨_, rfl⟩
  have h := h σ19 eσ19
  refine f_puti B hH hth (by decide) rfl wu_X12 tyX12 tyX12_ok nmX12 1 (by decide) wf_X12_13 rfl (ty := .int) rfl rfl rfl rfl rfl dX12_clear_2 (fun H locs hH => ?_)
  have hH : Hd D cA A s (pI σ th 1 0) H locs := hH
  rw [← eσ19] at hH
  have hGσ19 : RG σ19 := by rw [eσ19]; exact hGσ.pI (by unfold rng; omega)
  have hYσ19 : TY σ19 := by rw [eσ19]; exact hYσ.pI
  have xσ19 : Ext σ σ19 := by rw [eσ19]; exact Ext.pI
  have hc : CB n0 s0 σ19 := by rw [eσ19]; exact hc
  rw [show gc σ = gc σ19 by rw [eσ19]; try rfl, show gs σ = gs σ19 by rw [eσ19]; try rfl]
  refine lv_aload_n B.1 B.2.1 dX12_clear_5 rfl (lv_at hl 0 rfl) ?_
  refine lv_iconst (v := i32 0) B.1 B.2.1 dX12_clear_6 (by decide) ?_
  obtain ⟨σ20, eσ20⟩ : ∃ z, z = pI σ19 th 2 0 := ⟨_, rfl⟩
  have h := h σ20 eσ20
  refine f_puti B hH (hth.up xσ19) (by decide) rfl wu_X12 tyX12 tyX12_ok nmX12 2 (by decide) wf_X12_17 rfl (ty := .int) rfl rfl rfl rfl rfl dX12_clear_7 (fun H locs hH => ?_)
  have hH : Hd D cA A s (pI σ19 th 2 0) H locs := hH
  rw [← eσ20] at hH
  have hGσ20 : RG σ20 := by rw [eσ20]; exact hGσ19.pI (by unfold rng; omega)
  have hYσ20 : TY σ20 := by rw [eσ20]; exact hYσ19.pI
  have xσ20 : Ext σ19 σ20 := by rw [eσ20]; exact Ext.pI
  have hc : CB n0 s0 σ20 := by rw [eσ20]; exact hc
  rw [show gc σ19 = gc σ20 by rw [eσ20]; try rfl, show gs σ19 = gs σ20 by rw [eσ20]; try rfl]
  refine lv_aload_n B.1 B.2.1 dX12_clear_10 rfl (lv_at hl 0 rfl) ?_
  refine f_getp B hH (hth.up (xσ19.trans xσ20)) (by decide) rfl wu_X12 4 (by decide) wf_X12_30 rfl rfl dX12_clear_11 ?_
  obtain ⟨a22, ea22, h⟩ := h
  have ka22 : kO σ20 a22 4 := (hYσ20.get (hth.up (xσ19.trans xσ20)) (by decide)) a22 ea22
  have h := h ka22
  refine W.eq (g2 := F0 m 14 ls [.ref a22]) (by rw [ea22]; rfl) ?_
  refine c_V B hH hl hc K.2.2.1 (C := RX4) (T := TX4) (N := 14) (ci := 4) (As := []) (ok_X4_forget hl9 K.2.1 σ20 a22 ka22 hGσ20 hYσ20 h) wc_X12_260 0 hd_X4_forget ⟨Nat.le_trans (Nat.le_of_ble_eq_true rfl) K.2.2.2.1, Nat.le_trans (Nat.le_of_ble_eq_true rfl) K.2.2.2.2.1⟩ ka22.1 ka22.2 (by decide) rfl rfl (rest := []) rfl (Nat.le_of_ble_eq_true rfl) dX12_clear_14 (fun σ21 w hq => ?_) (fun σ9 E9 hx9 => hX σ9 E9 _ _ _ (tb_out K.2.2.2.2.2.1 rfl) hx9.1 hx9.2.1 hx9.2.2.1 (((hE.trans xσ19).trans xσ20).trans hx9.2.2.2))
  obtain ⟨rfl, h, hGσ21, hYσ21, xσ21⟩ := hq
  have h := h xσ21
  intro H locs ls hH hl hc
  refine W.eq (g2 := F0 m 17 ls []) (rfl) ?_
  try dsimp only at h
  refine lv_aload_n B.1 B.2.1 dX12_clear_17 rfl (lv_at hl 0 rfl) ?_
  refine f_getp B hH (hth.up (xσ19.trans (xσ20.trans xσ21))) (by decide) rfl wu_X12 7 (by decide) wf_X12_49 rfl rfl dX12_clear_18 ?_
  obtain ⟨a24, ea24, h⟩ := h
  have ka24 : kO σ21 a24 9 := (hYσ21.get (hth.up (xσ19.trans (xσ20.trans xσ21))) (by decide)) a24 ea24
  have h := h ka24
  refine W.eq (g2 := F0 m 21 ls [.ref a24]) (by rw [ea24]; rfl) ?_
  refine c_V B hH hl hc K.2.2.1 (C := RX9) (T := TX9) (N := 20) (ci := 9) (As := []) (ok_X9_end hl9 K.2.1 σ21 a24 ka24 hGσ21 hYσ21 h) wc_X12_86 0 hd_X9_end ⟨Nat.le_trans (Nat.le_of_ble_eq_true rfl) K.2.2.2.1, Nat.le_trans (Nat.le_of_ble_eq_true rfl) K.2.2.2.2.1⟩ ka24.1 ka24.2 (by decide) rfl rfl (rest := []) rfl (Nat.le_of_ble_eq_true rfl) dX12_clear_21 (fun σ23 w hq => ?_) (fun σ9 E9 hx9 => hX σ9 E9 _ _ _ (tb_out K.2.2.2.2.2.1 rfl) hx9.1 hx9.2.1 hx9.2.2.1 ((((hE.trans xσ19).trans xσ20).trans xσ21).trans hx9.2.2.2))
  obtain ⟨rfl, h, hGσ23, hYσ23, xσ23⟩ := hq
  have h := h xσ23
  intro H locs ls hH hl hc
  refine W.eq (g2 := F0 m 24 ls []) (rfl) ?_
  try dsimp only at h
  refine lv_aload_n B.1 B.2.1 dX12_clear_24 rfl (lv_at hl 0 rfl) ?_
  refine f_getp B hH (hth.up (xσ19.trans (xσ20.trans (xσ21.trans xσ23)))) (by decide) rfl wu_X12 7 (by decide) wf_X12_49 rfl rfl dX12_clear_25 ?_
  obtain ⟨a25, ea25, h⟩ := h
  have ka25 : kO σ23 a25 9 := (hYσ23.get (hth.up (xσ19.trans (xσ20.trans (xσ21.trans xσ23)))) (by decide)) a25 ea25
  have h := h ka25
  refine W.eq (g2 := F0 m 28 ls [.ref a25]) (by rw [ea25]; rfl) ?_
  refine f_getp B hH ka25 (by decide) rfl wu_X9 2 (by decide) wf_X12_66 rfl rfl dX12_clear_28 ?_
  obtain ⟨a27, ea27, h⟩ := h
  have ka27 : kO σ23 a27 3 := (hYσ23.get ka25 (by decide)) a27 ea27
  have h := h ka27
  refine W.eq (g2 := F0 m 31 ls [.ref a27]) (by rw [ea27]; rfl) ?_
  refine c_V B hH hl hc K.2.2.1 (C := RX3) (T := TX3) (N := 10) (ci := 3) (As := []) (ok_X3_powerReturns hl9 K.2.1 σ23 a27 ka27 hGσ23 hYσ23 h) wc_X12_169 0 hd_X3_powerReturns ⟨Nat.le_trans (Nat.le_of_ble_eq_true rfl) K.2.2.2.1, Nat.le_trans (Nat.le_of_ble_eq_true rfl) K.2.2.2.2.1⟩ ka27.1 ka27.2 (by decide) rfl rfl (rest := []) rfl (Nat.le_of_ble_eq_true rfl) dX12_clear_31 (fun σ26 w hq => ?_) (fun σ9 E9 hx9 => hX σ9 E9 _ _ _ (tb_out K.2.2.2.2.2.1 rfl) hx9.1 hx9.2.1 hx9.2.2.1 (((((hE.trans xσ19).trans xσ20).trans xσ21).trans xσ23).trans hx9.2.2.2))
  obtain ⟨rfl, h, hGσ26, hYσ26, xσ26⟩ := hq
  have h := h xσ26
  intro H locs ls hH hl hc
  refine W.eq (g2 := F0 m 34 ls []) (rfl) ?_
  try dsimp only at h
  exact hQ _ _ _ _ _ dX12_clear_34 hH hc h hGσ26 hYσ26 (((((hE.trans xσ19).trans xσ20).trans xσ21).trans xσ23).trans xσ26)
theorem ok_X12_clear (hl0 : l.stackTraces = false) (hT : TyC cA tys) {Q : Sg → Unit → Prop} {X : Sg → String → Prop} (σ : Sg) (th : Nat) (hth : kO σ th 12) (hG : RG σ) (hY : TY σ) (h : wp_X12_clear th σ Q X) : Ok l D cA tys A yX12_clear (.code yX12_clear cX12_clear 1 none) 5 106 [.ref th] σ (QcV σ Q) (QxC σ X) := by
  unfold wp_X12_clear at h
  exact oc_V hl0 (by decide) (by exact Nat.le_of_ble_eq_true rfl) hT (fun p e R s m args below meth c K hQ hX hTh hin9 H locs ls hH hl hc => a_X12_clear_0 K hQ hX hTh σ h hG hY (Ext.rfl' σ) hth H locs ls hH (lv_sub (l' := [(0, .ref th)]) hl [0] rfl) hc)
theorem dX12_close_0 : decode cX12_close 0 = .ok (.iload_n 1, 1) := by decide +kernel
theorem dX12_close_1 : decode cX12_close 1 = .ok (.ifCond .lt 8, 3) := by decide +kernel
theorem dX12_close_4 : decode cX12_close 4 = .ok (.iload_n 1, 1) := by decide +kernel
theorem dX12_close_5 : decode cX12_close 5 = .ok (.iconst 4, 1) := by decide +kernel
theorem dX12_close_6 : decode cX12_close 6 = .ok (.if_icmp .lt 11, 3) := by decide +kernel
theorem dX12_close_9 : decode cX12_close 9 = .ok (.new 92, 3) := by decide +kernel
theorem dX12_close_12 : decode cX12_close 12 = .ok (.dup, 1) := by decide +kernel
theorem dX12_close_13 : decode cX12_close 13 = .ok (.invokespecial 94, 3) := by decide +kernel
theorem dX12_close_16 : decode cX12_close 16 = .ok (.athrow, 1) := by decide +kernel
theorem dX12_close_17 : decode cX12_close 17 = .ok (.aload_n 0, 1) := by decide +kernel
theorem dX12_close_18 : decode cX12_close 18 = .ok (.getfield 30, 3) := by decide +kernel
theorem dX12_close_21 : decode cX12_close 21 = .ok (.getfield 117, 3) := by decide +kernel
theorem dX12_close_24 : decode cX12_close 24 = .ok (.iload_n 1, 1) := by decide +kernel
theorem dX12_close_25 : decode cX12_close 25 = .ok (.iaload, 1) := by decide +kernel
theorem dX12_close_26 : decode cX12_close 26 = .ok (.iconst (-1), 1) := by decide +kernel
theorem dX12_close_27 : decode cX12_close 27 = .ok (.if_icmp .ne 11, 3) := by decide +kernel
theorem dX12_close_30 : decode cX12_close 30 = .ok (.new 76, 3) := by decide +kernel
theorem dX12_close_33 : decode cX12_close 33 = .ok (.dup, 1) := by decide +kernel
theorem dX12_close_34 : decode cX12_close 34 = .ok (.invokespecial 78, 3) := by decide +kernel
theorem dX12_close_37 : decode cX12_close 37 = .ok (.athrow, 1) := by decide +kernel
theorem dX12_close_38 : decode cX12_close 38 = .ok (.aload_n 0, 1) := by decide +kernel
theorem dX12_close_39 : decode cX12_close 39 = .ok (.getfield 30, 3) := by decide +kernel
theorem dX12_close_42 : decode cX12_close 42 = .ok (.getfield 121, 3) := by decide +kernel
theorem dX12_close_45 : decode cX12_close 45 = .ok (.iload_n 1, 1) := by decide +kernel
theorem dX12_close_46 : decode cX12_close 46 = .ok (.baload, 1) := by decide +kernel
theorem dX12_close_47 : decode cX12_close 47 = .ok (.ifCond .ne 7, 3) := by decide +kernel
theorem dX12_close_50 : decode cX12_close 50 = .ok (.iconst 1, 1) := by decide +kernel
theorem dX12_close_51 : decode cX12_close 51 = .ok (.goto 4, 3) := by decide +kernel
theorem dX12_close_54 : decode cX12_close 54 = .ok (.iconst 0, 1) := by decide +kernel
theorem dX12_close_55 : decode cX12_close 55 = .ok (.istore_n 2, 1) := by decide +kernel
theorem dX12_close_56 : decode cX12_close 56 = .ok (.aload_n 0, 1) := by decide +kernel
theorem dX12_close_57 : decode cX12_close 57 = .ok (.getfield 30, 3) := by decide +kernel
theorem dX12_close_60 : decode cX12_close 60 = .ok (.getfield 121, 3) := by decide +kernel
theorem dX12_close_63 : decode cX12_close 63 = .ok (.iload_n 1, 1) := by decide +kernel
theorem dX12_close_64 : decode cX12_close 64 = .ok (.iconst 1, 1) := by decide +kernel
theorem dX12_close_65 : decode cX12_close 65 = .ok (.bastore, 1) := by decide +kernel
theorem dX12_close_66 : decode cX12_close 66 = .ok (.iload_n 2, 1) := by decide +kernel
theorem dX12_close_67 : decode cX12_close 67 = .ok (.ireturn, 1) := by decide +kernel
set_option maxRecDepth 20000 in
theorem a_X12_close_9 {Q : Sg → Int → Prop} {X : Sg → String → Prop} {th : Nat} (K : MD l R p s m args c cX12_close 3 RX12 D cA tys A n0 s0 6 90 []) (hQ : CQZ p l e R s m args below meth c cX12_close D cA A n0 s0 QM σi Q) (hX : CX p l e R s m args below meth c 3 D cA A n0 s0 QM σi X) (hTh : CT p l e R s m args below meth c cX12_close 3 D cA A n0 s0 QM σi RX12 X) : ∀ (σ : Sg), w_X12_close_9 th Q X σ → RG σ → TY σ → Ext σi σ → kO σ th 12 → JJ p l e R s m args below meth c 3 D cA A n0 s0 QM σ 9 [(0, .ref th)] [] := by
  intro σ h hGσ hYσ hE hth H locs ls hH hl hc
  have B := K.1
  have hl9 := K.2.2.2.2.2.2
  unfold w_X12_close_9 at h
  obtain ⟨q9, h⟩ := h
  exact hTh _ _ _ _ _ _ _ _ _ tw_X12_92_94 dX12_close_9 dX12_close_12 dX12_close_13 dX12_close_16 hH hl hc q9 h hGσ hYσ hE (by have := K.2.2.2.1; omega) (by have := K.2.2.2.2.1; omega)
set_option maxRecDepth 20000 in
theorem a_X12_close_55 {Q : Sg → Int → Prop} {X : Sg → String → Prop} {th : Nat} (K : MD l R p s m args c cX12_close 3 RX12 D cA tys A n0 s0 6 90 []) (hQ : CQZ p l e R s m args below meth c cX12_close D cA A n0 s0 QM σi Q) (hX : CX p l e R s m args below meth c 3 D cA A n0 s0 QM σi X) (hTh : CT p l e R s m args below meth c cX12_close 3 D cA A n0 s0 QM σi RX12 X) : ∀ (σ : Sg) (v1 : Int) (u0 : Int) (g1 : rng v1) (gu0 : rng u0), w_X12_close_55 th Q X σ v1 u0 → RG σ → TY σ → Ext σi σ → kO σ th 12 → JJ p l e R s m args below meth c 3 D cA A n0 s0 QM σ 55 [(0, .ref th), (1, .int (i32 v1))] [.int (i32 u0)] := by
  intro σ v1 u0 g1 gu0 h hGσ hYσ hE hth H locs ls hH hl hc
  have B := K.1
  have hl9 := K.2.2.2.2.2.2
  unfold w_X12_close_55 at h
  refine lv_istore_n (lv' := [(2, .int (i32 u0)), (0, .ref th), (1, .int (i32 v1))]) B.1 B.2.1 dX12_close_55 rfl hl (by decide) rfl (fun ls hl => ?_)
  refine lv_aload_n B.1 B.2.1 dX12_close_56 rfl (lv_at hl 1 rfl) ?_
  refine f_getp B hH hth (by decide) rfl wu_X12 4 (by decide) wf_X12_30 rfl rfl dX12_close_57 ?_
  obtain ⟨a15, ea15, h⟩ := h
  have ka15 : kO σ a15 4 := (hYσ.get hth (by decide)) a15 ea15
  have h := h ka15
  refine W.eq (g2 := F0 m 60 ls [.ref a15]) (by rw [ea15]; rfl) ?_
  refine f_getp B hH ka15 (by decide) rfl wu_X4 13 (by decide) wf_X12_121 rfl rfl dX12_close_60 ?_
  refine lv_iload_n B.1 B.2.1 dX12_close_63 rfl (lv_at hl 2 rfl) ?_
  refine lv_iconst (v := i32 1) B.1 B.2.1 dX12_close_64 (by decide) ?_
  obtain ⟨a16, ea16, h⟩ := h
  have ka16 : kO σ a16 103 := (hYσ.get ka15 (by decide)) a16 ea16
  have h := h ka16
  obtain ⟨q1, h⟩ := h
  obtain ⟨σ17, eσ17⟩ : ∃ z, z = pI σ a16 v1.toNat (nZ 1) := ⟨_, rfl⟩
  have h := h σ17 eσ17
  refine W.eq (g2 := F0 m 65 ls [.int (i32 1), .int (i32 v1), .ref a16]) (by rw [ea16]; rfl) ?_
  refine y_zast B K.2.1 hH ka16 q1 dX12_close_65 (hYσ.2 _) (fun H locs hH => ?_)
  have hH : Hd D cA A s (pI σ a16 v1.toNat (nZ 1)) H locs := hH
  rw [← eσ17] at hH
  have hGσ17 : RG σ17 := by rw [eσ17]; exact hGσ.pI (rng_toInt _)
  have hYσ17 : TY σ17 := by rw [eσ17]; exact hYσ.pI
  have xσ17 : Ext σ σ17 := by rw [eσ17]; exact Ext.pI
  have hc : CB n0 s0 σ17 := by rw [eσ17]; exact hc
  rw [show gc σ = gc σ17 by rw [eσ17]; try rfl, show gs σ = gs σ17 by rw [eσ17]; try rfl]
  refine lv_iload_n B.1 B.2.1 dX12_close_66 rfl (lv_at hl 0 rfl) ?_
  obtain ⟨qz, h⟩ := h
  exact hQ _ _ _ _ _ _ gu0 qz dX12_close_67 hH hc h hGσ17 hYσ17 (hE.trans xσ17)
set_option maxRecDepth 20000 in
theorem a_X12_close_54 {Q : Sg → Int → Prop} {X : Sg → String → Prop} {th : Nat} (K : MD l R p s m args c cX12_close 3 RX12 D cA tys A n0 s0 6 90 []) (hQ : CQZ p l e R s m args below meth c cX12_close D cA A n0 s0 QM σi Q) (hX : CX p l e R s m args below meth c 3 D cA A n0 s0 QM σi X) (hTh : CT p l e R s m args below meth c cX12_close 3 D cA A n0 s0 QM σi RX12 X) : ∀ (σ : Sg) (v1 : Int) (g1 : rng v1), w_X12_close_54 th Q X σ v1 → RG σ → TY σ → Ext σi σ → kO σ th 12 → JJ p l e R s m args below meth c 3 D cA A n0 s0 QM σ 54 [(0, .ref th), (1, .int (i32 v1))] [] := by
  intro σ v1 g1 h hGσ hYσ hE hth H locs ls hH hl hc
  have B := K.1
  have hl9 := K.2.2.2.2.2.2
  unfold w_X12_close_54 at h
  refine lv_iconst (v := i32 0) B.1 B.2.1 dX12_close_54 (by decide) ?_
  exact a_X12_close_55 K hQ hX hTh _ _ _ g1 (by unfold rng; omega) h hGσ hYσ hE hth _ _ _ hH (lv_sub (l' := [(0, .ref th), (1, .int (i32 v1))]) hl [0, 1] rfl) hc
set_option maxRecDepth 20000 in
theorem a_X12_close_50 {Q : Sg → Int → Prop} {X : Sg → String → Prop} {th : Nat} (K : MD l R p s m args c cX12_close 3 RX12 D cA tys A n0 s0 6 90 []) (hQ : CQZ p l e R s m args below meth c cX12_close D cA A n0 s0 QM σi Q) (hX : CX p l e R s m args below meth c 3 D cA A n0 s0 QM σi X) (hTh : CT p l e R s m args below meth c cX12_close 3 D cA A n0 s0 QM σi RX12 X) : ∀ (σ : Sg) (v1 : Int) (g1 : rng v1), w_X12_close_50 th Q X σ v1 → RG σ → TY σ → Ext σi σ → kO σ th 12 → JJ p l e R s m args below meth c 3 D cA A n0 s0 QM σ 50 [(0, .ref th), (1, .int (i32 v1))] [] := by
  intro σ v1 g1 h hGσ hYσ hE hth H locs ls hH hl hc
  have B := K.1
  have hl9 := K.2.2.2.2.2.2
  unfold w_X12_close_50 at h
  refine lv_iconst (v := i32 1) B.1 B.2.1 dX12_close_50 (by decide) ?_
  refine lv_goto (tgt := 55) B.1 B.2.1 dX12_close_51 (by decide) ?_
  exact a_X12_close_55 K hQ hX hTh _ _ _ g1 (by unfold rng; omega) h hGσ hYσ hE hth _ _ _ hH (lv_sub (l' := [(0, .ref th), (1, .int (i32 v1))]) hl [0, 1] rfl) hc
set_option maxRecDepth 20000 in
theorem a_X12_close_38 {Q : Sg → Int → Prop} {X : Sg → String → Prop} {th : Nat} (K : MD l R p s m args c cX12_close 3 RX12 D cA tys A n0 s0 6 90 []) (hQ : CQZ p l e R s m args below meth c cX12_close D cA A n0 s0 QM σi Q) (hX : CX p l e R s m args below meth c 3 D cA A n0 s0 QM σi X) (hTh : CT p l e R s m args below meth c cX12_close 3 D cA A n0 s0 QM σi RX12 X) : ∀ (σ : Sg) (v1 : Int) (g1 : rng v1), w_X12_close_38 th Q X σ v1 → RG σ → TY σ → Ext σi σ → kO σ th 12 → JJ p l e R s m args below meth c 3 D cA A n0 s0 QM σ 38 [(0, .ref th), (1, .int (i32 v1))] [] := by
  intro σ v1 g1 h hGσ hYσ hE hth H locs ls hH hl hc
  have B := K.1
  have hl9 := K.2.2.2.2.2.2
  unfold w_X12_close_38 at h
  refine lv_aload_n B.1 B.2.1 dX12_close_38 rfl (lv_at hl 0 rfl) ?_
  refine f_getp B hH hth (by decide) rfl wu_X12 4 (by decide) wf_X12_30 rfl rfl dX12_close_39 ?_
  obtain ⟨a18, ea18, h⟩ := h
  have ka18 : kO σ a18 4 := (hYσ.get hth (by decide)) a18 ea18
  have h := h ka18
  refine W.eq (g2 := F0 m 42 ls [.ref a18]) (by rw [ea18]; rfl) ?_
  refine f_getp B hH ka18 (by decide) rfl wu_X4 13 (by decide) wf_X12_121 rfl rfl dX12_close_42 ?_
  refine lv_iload_n B.1 B.2.1 dX12_close_45 rfl (lv_at hl 1 rfl) ?_
  obtain ⟨a19, ea19, h⟩ := h
  have ka19 : kO σ a19 103 := (hYσ.get ka18 (by decide)) a19 ea19
  have h := h ka19
  obtain ⟨q1, h⟩ := h
  refine W.eq (g2 := F0 m 46 ls [.int (i32 v1), .ref a19]) (by rw [ea19]; rfl) ?_
  refine y_zald B K.2.1 hH ka19 q1 dX12_close_46 (hYσ.2 _) ?_
  refine lv_if_ne (tgt := 54) B.1 B.2.1 dX12_close_47 (by decide) (fun h9 => ?_) (fun h9 => ?_)
  · rw [if_pos (fun q => h9 ((z_eq (hGσ _ _)).mpr q))] at h
    exact a_X12_close_54 K hQ hX hTh _ _ g1 h hGσ hYσ hE hth _ _ _ hH (lv_sub (l' := [(0, .ref th), (1, .int (i32 v1))]) hl [0, 1] rfl) hc
  · rw [if_neg (fun q => q ((z_eq (hGσ _ _)).mp h9))] at h
    exact a_X12_close_50 K hQ hX hTh _ _ g1 h hGσ hYσ hE hth _ _ _ hH (lv_sub (l' := [(0, .ref th), (1, .int (i32 v1))]) hl [0, 1] rfl) hc
set_option maxRecDepth 20000 in
theorem a_X12_close_30 {Q : Sg → Int → Prop} {X : Sg → String → Prop} {th : Nat} (K : MD l R p s m args c cX12_close 3 RX12 D cA tys A n0 s0 6 90 []) (hQ : CQZ p l e R s m args below meth c cX12_close D cA A n0 s0 QM σi Q) (hX : CX p l e R s m args below meth c 3 D cA A n0 s0 QM σi X) (hTh : CT p l e R s m args below meth c cX12_close 3 D cA A n0 s0 QM σi RX12 X) : ∀ (σ : Sg), w_X12_close_30 th Q X σ → RG σ → TY σ → Ext σi σ → kO σ th 12 → JJ p l e R s m args below meth c 3 D cA A n0 s0 QM σ 30 [(0, .ref th)] [] := by
  intro σ h hGσ hYσ hE hth H locs ls hH hl hc
  have B := K.1
  have hl9 := K.2.2.2.2.2.2
  unfold w_X12_close_30 at h
  obtain ⟨q9, h⟩ := h
  exact hTh _ _ _ _ _ _ _ _ _ tw_X12_76_78 dX12_close_30 dX12_close_33 dX12_close_34 dX12_close_37 hH hl hc q9 h hGσ hYσ hE (by have := K.2.2.2.1; omega) (by have := K.2.2.2.2.1; omega)
set_option maxRecDepth 20000 in
theorem a_X12_close_17 {Q : Sg → Int → Prop} {X : Sg → String → Prop} {th : Nat} (K : MD l R p s m args c cX12_close 3 RX12 D cA tys A n0 s0 6 90 []) (hQ : CQZ p l e R s m args below meth c cX12_close D cA A n0 s0 QM σi Q) (hX : CX p l e R s m args below meth c 3 D cA A n0 s0 QM σi X) (hTh : CT p l e R s m args below meth c cX12_close 3 D cA A n0 s0 QM σi RX12 X) : ∀ (σ : Sg) (v1 : Int) (g1 : rng v1), w_X12_close_17 th Q X σ v1 → RG σ → TY σ → Ext σi σ → kO σ th 12 → JJ p l e R s m args below meth c 3 D cA A n0 s0 QM σ 17 [(0, .ref th), (1, .int (i32 v1))] [] := by
  intro σ v1 g1 h hGσ hYσ hE hth H locs ls hH hl hc
  have B := K.1
  have hl9 := K.2.2.2.2.2.2
  unfold w_X12_close_17 at h
  refine lv_aload_n B.1 B.2.1 dX12_close_17 rfl (lv_at hl 0 rfl) ?_
  refine f_getp B hH hth (by decide) rfl wu_X12 4 (by decide) wf_X12_30 rfl rfl dX12_close_18 ?_
  obtain ⟨a20, ea20, h⟩ := h
  have ka20 : kO σ a20 4 := (hYσ.get hth (by decide)) a20 ea20
  have h := h ka20
  refine W.eq (g2 := F0 m 21 ls [.ref a20]) (by rw [ea20]; rfl) ?_
  refine f_getp B hH ka20 (by decide) rfl wu_X4 4 (by decide) wf_X12_117 rfl rfl dX12_close_21 ?_
  refine lv_iload_n B.1 B.2.1 dX12_close_24 rfl (lv_at hl 1 rfl) ?_
  obtain ⟨a21, ea21, h⟩ := h
  have ka21 : kO σ a21 100 := (hYσ.get ka20 (by decide)) a21 ea21
  have h := h ka21
  obtain ⟨q1, h⟩ := h
  refine W.eq (g2 := F0 m 25 ls [.int (i32 v1), .ref a21]) (by rw [ea21]; rfl) ?_
  refine y_iald B K.2.1 hH ka21 q1 dX12_close_25 (hYσ.2 _) ?_
  refine lv_iconst (v := i32 (-1)) B.1 B.2.1 dX12_close_26 (by decide) ?_
  refine lv_icmp_ne (tgt := 38) B.1 B.2.1 dX12_close_27 (by decide) (fun h9 => ?_) (fun h9 => ?_)
  · rw [if_pos (fun q => h9 ((i32_eq (hGσ _ _) (by unfold rng; omega)).mpr q))] at h
    exact a_X12_close_38 K hQ hX hTh _ _ g1 h hGσ hYσ hE hth _ _ _ hH (lv_sub (l' := [(0, .ref th), (1, .int (i32 v1))]) hl [0, 1] rfl) hc
  · rw [if_neg (fun q => q ((i32_eq (hGσ _ _) (by unfold rng; omega)).mp h9))] at h
    exact a_X12_close_30 K hQ hX hTh _ h hGσ hYσ hE hth _ _ _ hH (lv_sub (l' := [(0, .ref th)]) hl [0] rfl) hc
set_option maxRecDepth 20000 in
theorem a_X12_close_4 {Q : Sg → Int → Prop} {X : Sg → String → Prop} {th : Nat} (K : MD l R p s m args c cX12_close 3 RX12 D cA tys A n0 s0 6 90 []) (hQ : CQZ p l e R s m args below meth c cX12_close D cA A n0 s0 QM σi Q) (hX : CX p l e R s m args below meth c 3 D cA A n0 s0 QM σi X) (hTh : CT p l e R s m args below meth c cX12_close 3 D cA A n0 s0 QM σi RX12 X) : ∀ (σ : Sg) (v1 : Int) (g1 : rng v1), w_X12_close_4 th Q X σ v1 → RG σ → TY σ → Ext σi σ → kO σ th 12 → JJ p l e R s m args below meth c 3 D cA A n0 s0 QM σ 4 [(0, .ref th), (1, .int (i32 v1))] [] := by
  intro σ v1 g1 h hGσ hYσ hE hth H locs ls hH hl hc
  have B := K.1
  have hl9 := K.2.2.2.2.2.2
  unfold w_X12_close_4 at h
  refine lv_iload_n B.1 B.2.1 dX12_close_4 rfl (lv_at hl 1 rfl) ?_
  refine lv_iconst (v := i32 4) B.1 B.2.1 dX12_close_5 (by decide) ?_
  refine lv_icmp_lt (tgt := 17) B.1 B.2.1 dX12_close_6 (by decide) (fun h9 => ?_) (fun h9 => ?_)
  · rw [if_pos ((i32_lt g1 (by unfold rng; omega)).mp h9)] at h
    exact a_X12_close_17 K hQ hX hTh _ _ g1 h hGσ hYσ hE hth _ _ _ hH (lv_sub (l' := [(0, .ref th), (1, .int (i32 v1))]) hl [0, 1] rfl) hc
  · rw [if_neg (fun q => h9 ((i32_lt g1 (by unfold rng; omega)).mpr q))] at h
    exact a_X12_close_9 K hQ hX hTh _ h hGσ hYσ hE hth _ _ _ hH (lv_sub (l' := [(0, .ref th)]) hl [0] rfl) hc
set_option maxRecDepth 20000 in
theorem a_X12_close_0 {Q : Sg → Int → Prop} {X : Sg → String → Prop} {th : Nat} (K : MD l R p s m args c cX12_close 3 RX12 D cA tys A n0 s0 6 90 []) (hQ : CQZ p l e R s m args below meth c cX12_close D cA A n0 s0 QM σi Q) (hX : CX p l e R s m args below meth c 3 D cA A n0 s0 QM σi X) (hTh : CT p l e R s m args below meth c cX12_close 3 D cA A n0 s0 QM σi RX12 X) : ∀ (σ : Sg) (v1 : Int) (g1 : rng v1), w_X12_close_0 th Q X σ v1 → RG σ → TY σ → Ext σi σ → kO σ th 12 → JJ p l e R s m args below meth c 3 D cA A n0 s0 QM σ 0 [(0, .ref th), (1, .int (i32 v1))] [] := by
  intro σ v1 g1 h hGσ hYσ hE hth H locs ls hH hl hc
  have B := K.1
  have hl9 := K.2.2.2.2.2.2
  unfold w_X12_close_0 at h
  refine lv_iload_n B.1 B.2.1 dX12_close_0 rfl (lv_at hl 1 rfl) ?_
  refine lv_if_lt (tgt := 9) B.1 B.2.1 dX12_close_1 (by decide) (fun h9 => ?_) (fun h9 => ?_)
  · rw [if_pos ((z_lt g1).mp h9)] at h
    exact a_X12_close_9 K hQ hX hTh _ h hGσ hYσ hE hth _ _ _ hH (lv_sub (l' := [(0, .ref th)]) hl [0] rfl) hc
  · rw [if_neg (fun q => h9 ((z_lt g1).mpr q))] at h
    exact a_X12_close_4 K hQ hX hTh _ _ g1 h hGσ hYσ hE hth _ _ _ hH (lv_sub (l' := [(0, .ref th), (1, .int (i32 v1))]) hl [0, 1] rfl) hc
theorem ok_X12_close (hl0 : l.stackTraces = false) (hT : TyC cA tys) {Q : Sg → Int → Prop} {X : Sg → String → Prop} (σ : Sg) (th : Nat) (v1 : Int) (g1 : rng v1) (hth : kO σ th 12) (hG : RG σ) (hY : TY σ) (h : wp_X12_close th v1 σ Q X) : Ok l D cA tys A yX12_close (.code yX12_close cX12_close 3 (some .boolean)) 6 90 [.ref th, .int (i32 v1)] σ (QcZ σ Q) (QxC σ X) := by
  unfold wp_X12_close at h
  exact oc_Z hl0 (by decide) (by exact Nat.le_of_ble_eq_true rfl) hT (fun p e R s m args below meth c K hQ hX hTh H locs ls hH hl hc => a_X12_close_0 K hQ hX hTh σ v1 g1 h hG hY (Ext.rfl' σ) hth H locs ls hH (lv_sub (l' := [(0, .ref th), (1, .int (i32 v1))]) hl [0, 1] rfl) hc)
theorem dX12_crash_0 : decode cX12_crash 0 = .ok (.aload_n 0, 1) := by decide +kernel
theorem dX12_crash_1 : decode cX12_crash 1 = .ok (.getfield 49, 3) := by decide +kernel
theorem dX12_crash_4 : decode cX12_crash 4 = .ok (.getfield 66, 3) := by decide +kernel
theorem dX12_crash_7 : decode cX12_crash 7 = .ok (.getfield 70, 3) := by decide +kernel
theorem dX12_crash_10 : decode cX12_crash 10 = .ok (.ifCond .eq 11, 3) := by decide +kernel
theorem dX12_crash_13 : decode cX12_crash 13 = .ok (.new 76, 3) := by decide +kernel
theorem dX12_crash_16 : decode cX12_crash 16 = .ok (.dup, 1) := by decide +kernel
theorem dX12_crash_17 : decode cX12_crash 17 = .ok (.invokespecial 78, 3) := by decide +kernel
theorem dX12_crash_20 : decode cX12_crash 20 = .ok (.athrow, 1) := by decide +kernel
theorem dX12_crash_21 : decode cX12_crash 21 = .ok (.iload_n 1, 1) := by decide +kernel
theorem dX12_crash_22 : decode cX12_crash 22 = .ok (.iconst (-1), 1) := by decide +kernel
theorem dX12_crash_23 : decode cX12_crash 23 = .ok (.if_icmp .ge 11, 3) := by decide +kernel
theorem dX12_crash_26 : decode cX12_crash 26 = .ok (.new 60, 3) := by decide +kernel
theorem dX12_crash_29 : decode cX12_crash 29 = .ok (.dup, 1) := by decide +kernel
theorem dX12_crash_30 : decode cX12_crash 30 = .ok (.invokespecial 62, 3) := by decide +kernel
theorem dX12_crash_33 : decode cX12_crash 33 = .ok (.athrow, 1) := by decide +kernel
theorem dX12_crash_34 : decode cX12_crash 34 = .ok (.aload_n 0, 1) := by decide +kernel
theorem dX12_crash_35 : decode cX12_crash 35 = .ok (.getfield 49, 3) := by decide +kernel
theorem dX12_crash_38 : decode cX12_crash 38 = .ok (.getfield 66, 3) := by decide +kernel
theorem dX12_crash_41 : decode cX12_crash 41 = .ok (.iload_n 1, 1) := by decide +kernel
theorem dX12_crash_42 : decode cX12_crash 42 = .ok (.putfield 166, 3) := by decide +kernel
theorem dX12_crash_45 : decode cX12_crash 45 = .ok (.return_, 1) := by decide +kernel
set_option maxRecDepth 20000 in
theorem a_X12_crash_34 {Q : Sg → Unit → Prop} {X : Sg → String → Prop} {th : Nat} (K : MD l R p s m args c cX12_crash 2 RX12 D cA tys A n0 s0 6 90 []) (hQ : CQV p l e R s m args below meth c cX12_crash D cA A n0 s0 QM σi Q) (hX : CX p l e R s m args below meth c 2 D cA A n0 s0 QM σi X) (hTh : CT p l e R s m args below meth c cX12_crash 2 D cA A n0 s0 QM σi RX12 X) : ∀ (σ : Sg) (v1 : Int) (g1 : rng v1), w_X12_crash_34 th Q X σ v1 → RG σ → TY σ → Ext σi σ → kO σ th 12 → JJ p l e R s m args below meth c 2 D cA A n0 s0 QM σ 34 [(0, .ref th), (1, .int (i32 v1))] [] := by
  intro σ v1 g1 h hGσ hYσ hE hth H locs ls hH hl hc
  have B := K.1
  have hl9 := K.2.2.2.2.2.2
  unfold w_X12_crash_34 at h
  refine lv_aload_n B.1 B.2.1 dX12_crash_34 rfl (lv_at hl 0 rfl) ?_
  refine f_getp B hH hth (by decide) rfl wu_X12 7 (by decide) wf_X12_49 rfl rfl dX12_crash_35 ?_
  obtain ⟨a11, ea11, h⟩ := h
  have ka11 : kO σ a11 9 := (hYσ.get hth (by decide)) a11 ea11
  have h := h ka11
  refine W.eq (g2 := F0 m 38 ls [.ref a11]) (by rw [ea11]; rfl) ?_
  refine f_getp B hH ka11 (by decide) rfl wu_X9 2 (by decide) wf_X12_66 rfl rfl dX12_crash_38 ?_
  refine lv_iload_n B.1 B.2.1 dX12_crash_41 rfl (lv_at hl 1 rfl) ?_
  obtain ⟨a12, ea12, h⟩ := h
  have ka12 : kO σ a12 3 := (hYσ.get ka11 (by decide)) a12 ea12
  have h := h ka12
  obtain ⟨σ13, eσ13⟩ : ∃ z, z = pI σ a12 8 v1 := ⟨_, rfl⟩
  have h := h σ13 eσ13
  refine W.eq (g2 := F0 m 42 ls [.int (i32 v1), .ref a12]) (by rw [ea12]; rfl) ?_
  refine f_puti B hH ka12 (by decide) rfl wu_X3 tyX3 tyX3_ok nmX3 8 (by decide) wf_X12_166 rfl (ty := .int) rfl rfl rfl rfl rfl dX12_crash_42 (fun H locs hH => ?_)
  have hH : Hd D cA A s (pI σ a12 8 v1) H locs := hH
  rw [← eσ13] at hH
  have hGσ13 : RG σ13 := by rw [eσ13]; exact hGσ.pI g1
  have hYσ13 : TY σ13 := by rw [eσ13]; exact hYσ.pI
  have xσ13 : Ext σ σ13 := by rw [eσ13]; exact Ext.pI
  have hc : CB n0 s0 σ13 := by rw [eσ13]; exact hc
  rw [show gc σ = gc σ13 by rw [eσ13]; try rfl, show gs σ = gs σ13 by rw [eσ13]; try rfl]
  exact hQ _ _ _ _ _ dX12_crash_45 hH hc h hGσ13 hYσ13 (hE.trans xσ13)
set_option maxRecDepth 20000 in
theorem a_X12_crash_26 {Q : Sg → Unit → Prop} {X : Sg → String → Prop} {th : Nat} (K : MD l R p s m args c cX12_crash 2 RX12 D cA tys A n0 s0 6 90 []) (hQ : CQV p l e R s m args below meth c cX12_crash D cA A n0 s0 QM σi Q) (hX : CX p l e R s m args below meth c 2 D cA A n0 s0 QM σi X) (hTh : CT p l e R s m args below meth c cX12_crash 2 D cA A n0 s0 QM σi RX12 X) : ∀ (σ : Sg), w_X12_crash_26 th Q X σ → RG σ → TY σ → Ext σi σ → kO σ th 12 → JJ p l e R s m args below meth c 2 D cA A n0 s0 QM σ 26 [(0, .ref th)] [] := by
  intro σ h hGσ hYσ hE hth H locs ls hH hl hc
  have B := K.1
  have hl9 := K.2.2.2.2.2.2
  unfold w_X12_crash_26 at h
  obtain ⟨q9, h⟩ := h
  exact hTh _ _ _ _ _ _ _ _ _ tw_X12_60_62 dX12_crash_26 dX12_crash_29 dX12_crash_30 dX12_crash_33 hH hl hc q9 h hGσ hYσ hE (by have := K.2.2.2.1; omega) (by have := K.2.2.2.2.1; omega)
set_option maxRecDepth 20000 in
theorem a_X12_crash_21 {Q : Sg → Unit → Prop} {X : Sg → String → Prop} {th : Nat} (K : MD l R p s m args c cX12_crash 2 RX12 D cA tys A n0 s0 6 90 []) (hQ : CQV p l e R s m args below meth c cX12_crash D cA A n0 s0 QM σi Q) (hX : CX p l e R s m args below meth c 2 D cA A n0 s0 QM σi X) (hTh : CT p l e R s m args below meth c cX12_crash 2 D cA A n0 s0 QM σi RX12 X) : ∀ (σ : Sg) (v1 : Int) (g1 : rng v1), w_X12_crash_21 th Q X σ v1 → RG σ → TY σ → Ext σi σ → kO σ th 12 → JJ p l e R s m args below meth c 2 D cA A n0 s0 QM σ 21 [(0, .ref th), (1, .int (i32 v1))] [] := by
  intro σ v1 g1 h hGσ hYσ hE hth H locs ls hH hl hc
  have B := K.1
  have hl9 := K.2.2.2.2.2.2
  unfold w_X12_crash_21 at h
  refine lv_iload_n B.1 B.2.1 dX12_crash_21 rfl (lv_at hl 1 rfl) ?_
  refine lv_iconst (v := i32 (-1)) B.1 B.2.1 dX12_crash_22 (by decide) ?_
  refine lv_icmp_ge (tgt := 34) B.1 B.2.1 dX12_crash_23 (by decide) (fun h9 => ?_) (fun h9 => ?_)
  · rw [if_pos ((i32_le (by unfold rng; omega) g1).mp h9)] at h
    exact a_X12_crash_34 K hQ hX hTh _ _ g1 h hGσ hYσ hE hth _ _ _ hH (lv_sub (l' := [(0, .ref th), (1, .int (i32 v1))]) hl [0, 1] rfl) hc
  · rw [if_neg (fun q => h9 ((i32_le (by unfold rng; omega) g1).mpr q))] at h
    exact a_X12_crash_26 K hQ hX hTh _ h hGσ hYσ hE hth _ _ _ hH (lv_sub (l' := [(0, .ref th)]) hl [0] rfl) hc
set_option maxRecDepth 20000 in
theorem a_X12_crash_13 {Q : Sg → Unit → Prop} {X : Sg → String → Prop} {th : Nat} (K : MD l R p s m args c cX12_crash 2 RX12 D cA tys A n0 s0 6 90 []) (hQ : CQV p l e R s m args below meth c cX12_crash D cA A n0 s0 QM σi Q) (hX : CX p l e R s m args below meth c 2 D cA A n0 s0 QM σi X) (hTh : CT p l e R s m args below meth c cX12_crash 2 D cA A n0 s0 QM σi RX12 X) : ∀ (σ : Sg), w_X12_crash_13 th Q X σ → RG σ → TY σ → Ext σi σ → kO σ th 12 → JJ p l e R s m args below meth c 2 D cA A n0 s0 QM σ 13 [(0, .ref th)] [] := by
  intro σ h hGσ hYσ hE hth H locs ls hH hl hc
  have B := K.1
  have hl9 := K.2.2.2.2.2.2
  unfold w_X12_crash_13 at h
  obtain ⟨q9, h⟩ := h
  exact hTh _ _ _ _ _ _ _ _ _ tw_X12_76_78 dX12_crash_13 dX12_crash_16 dX12_crash_17 dX12_crash_20 hH hl hc q9 h hGσ hYσ hE (by have := K.2.2.2.1; omega) (by have := K.2.2.2.2.1; omega)
set_option maxRecDepth 20000 in
theorem a_X12_crash_0 {Q : Sg → Unit → Prop} {X : Sg → String → Prop} {th : Nat} (K : MD l R p s m args c cX12_crash 2 RX12 D cA tys A n0 s0 6 90 []) (hQ : CQV p l e R s m args below meth c cX12_crash D cA A n0 s0 QM σi Q) (hX : CX p l e R s m args below meth c 2 D cA A n0 s0 QM σi X) (hTh : CT p l e R s m args below meth c cX12_crash 2 D cA A n0 s0 QM σi RX12 X) : ∀ (σ : Sg) (v1 : Int) (g1 : rng v1), w_X12_crash_0 th Q X σ v1 → RG σ → TY σ → Ext σi σ → kO σ th 12 → JJ p l e R s m args below meth c 2 D cA A n0 s0 QM σ 0 [(0, .ref th), (1, .int (i32 v1))] [] := by
  intro σ v1 g1 h hGσ hYσ hE hth H locs ls hH hl hc
  have B := K.1
  have hl9 := K.2.2.2.2.2.2
  unfold w_X12_crash_0 at h
  refine lv_aload_n B.1 B.2.1 dX12_crash_0 rfl (lv_at hl 0 rfl) ?_
  refine f_getp B hH hth (by decide) rfl wu_X12 7 (by decide) wf_X12_49 rfl rfl dX12_crash_1 ?_
  obtain ⟨a14, ea14, h⟩ := h
  have ka14 : kO σ a14 9 := (hYσ.get hth (by decide)) a14 ea14
  have h := h ka14
  refine W.eq (g2 := F0 m 4 ls [.ref a14]) (by rw [ea14]; rfl) ?_
  refine f_getp B hH ka14 (by decide) rfl wu_X9 2 (by decide) wf_X12_66 rfl rfl dX12_crash_4 ?_
  obtain ⟨a15, ea15, h⟩ := h
  have ka15 : kO σ a15 3 := (hYσ.get ka14 (by decide)) a15 ea15
  have h := h ka15
  refine W.eq (g2 := F0 m 7 ls [.ref a15]) (by rw [ea15]; rfl) ?_
  refine f_geti B hH ka15 (by decide) rfl wu_X3 9 (by decide) wf_X12_70 rfl rfl dX12_crash_7 ?_
  refine lv_if_eq (tgt := 21) B.1 B.2.1 dX12_crash_10 (by decide) (fun h9 => ?_) (fun h9 => ?_)
  · rw [if_pos ((z_eq (hGσ _ _)).mp h9)] at h
    exact a_X12_crash_21 K hQ hX hTh _ _ g1 h hGσ hYσ hE hth _ _ _ hH (lv_sub (l' := [(0, .ref th), (1, .int (i32 v1))]) hl [0, 1] rfl) hc
  · rw [if_neg (fun q => h9 ((z_eq (hGσ _ _)).mpr q))] at h
    exact a_X12_crash_13 K hQ hX hTh _ h hGσ hYσ hE hth _ _ _ hH (lv_sub (l' := [(0, .ref th)]) hl [0] rfl) hc
theorem ok_X12_crash (hl0 : l.stackTraces = false) (hT : TyC cA tys) {Q : Sg → Unit → Prop} {X : Sg → String → Prop} (σ : Sg) (th : Nat) (v1 : Int) (g1 : rng v1) (hth : kO σ th 12) (hG : RG σ) (hY : TY σ) (h : wp_X12_crash th v1 σ Q X) : Ok l D cA tys A yX12_crash (.code yX12_crash cX12_crash 2 none) 6 90 [.ref th, .int (i32 v1)] σ (QcV σ Q) (QxC σ X) := by
  unfold wp_X12_crash at h
  exact oc_V hl0 (by decide) (by exact Nat.le_of_ble_eq_true rfl) hT (fun p e R s m args below meth c K hQ hX hTh hin9 H locs ls hH hl hc => a_X12_crash_0 K hQ hX hTh σ v1 g1 h hG hY (Ext.rfl' σ) hth H locs ls hH (lv_sub (l' := [(0, .ref th), (1, .int (i32 v1))]) hl [0, 1] rfl) hc)
theorem dX12_needRun_0 : decode cX12_needRun 0 = .ok (.aload_n 0, 1) := by decide +kernel
theorem dX12_needRun_1 : decode cX12_needRun 1 = .ok (.getfield 49, 3) := by decide +kernel
theorem dX12_needRun_4 : decode cX12_needRun 4 = .ok (.getfield 137, 3) := by decide +kernel
theorem dX12_needRun_7 : decode cX12_needRun 7 = .ok (.ifCond .eq 16, 3) := by decide +kernel
theorem dX12_needRun_10 : decode cX12_needRun 10 = .ok (.aload_n 0, 1) := by decide +kernel
theorem dX12_needRun_11 : decode cX12_needRun 11 = .ok (.getfield 49, 3) := by decide +kernel
theorem dX12_needRun_14 : decode cX12_needRun 14 = .ok (.getfield 66, 3) := by decide +kernel
theorem dX12_needRun_17 : decode cX12_needRun 17 = .ok (.getfield 70, 3) := by decide +kernel
theorem dX12_needRun_20 : decode cX12_needRun 20 = .ok (.ifCond .eq 11, 3) := by decide +kernel
theorem dX12_needRun_23 : decode cX12_needRun 23 = .ok (.new 76, 3) := by decide +kernel
theorem dX12_needRun_26 : decode cX12_needRun 26 = .ok (.dup, 1) := by decide +kernel
theorem dX12_needRun_27 : decode cX12_needRun 27 = .ok (.invokespecial 78, 3) := by decide +kernel
theorem dX12_needRun_30 : decode cX12_needRun 30 = .ok (.athrow, 1) := by decide +kernel
theorem dX12_needRun_31 : decode cX12_needRun 31 = .ok (.return_, 1) := by decide +kernel
set_option maxRecDepth 20000 in
theorem a_X12_needRun_23 {Q : Sg → Unit → Prop} {X : Sg → String → Prop} {th : Nat} (K : MD l R p s m args c cX12_needRun 1 RX12 D cA tys A n0 s0 6 90 []) (hQ : CQV p l e R s m args below meth c cX12_needRun D cA A n0 s0 QM σi Q) (hX : CX p l e R s m args below meth c 1 D cA A n0 s0 QM σi X) (hTh : CT p l e R s m args below meth c cX12_needRun 1 D cA A n0 s0 QM σi RX12 X) : ∀ (σ : Sg), w_X12_needRun_23 th Q X σ → RG σ → TY σ → Ext σi σ → kO σ th 12 → JJ p l e R s m args below meth c 1 D cA A n0 s0 QM σ 23 [(0, .ref th)] [] := by
  intro σ h hGσ hYσ hE hth H locs ls hH hl hc
  have B := K.1
  have hl9 := K.2.2.2.2.2.2
  unfold w_X12_needRun_23 at h
  obtain ⟨q9, h⟩ := h
  exact hTh _ _ _ _ _ _ _ _ _ tw_X12_76_78 dX12_needRun_23 dX12_needRun_26 dX12_needRun_27 dX12_needRun_30 hH hl hc q9 h hGσ hYσ hE (by have := K.2.2.2.1; omega) (by have := K.2.2.2.2.1; omega)
set_option maxRecDepth 20000 in
theorem a_X12_needRun_31 {Q : Sg → Unit → Prop} {X : Sg → String → Prop} {th : Nat} (K : MD l R p s m args c cX12_needRun 1 RX12 D cA tys A n0 s0 6 90 []) (hQ : CQV p l e R s m args below meth c cX12_needRun D cA A n0 s0 QM σi Q) (hX : CX p l e R s m args below meth c 1 D cA A n0 s0 QM σi X) (hTh : CT p l e R s m args below meth c cX12_needRun 1 D cA A n0 s0 QM σi RX12 X) : ∀ (σ : Sg), w_X12_needRun_31 th Q X σ → RG σ → TY σ → Ext σi σ → kO σ th 12 → JJ p l e R s m args below meth c 1 D cA A n0 s0 QM σ 31 [(0, .ref th)] [] := by
  intro σ h hGσ hYσ hE hth H locs ls hH hl hc
  have B := K.1
  have hl9 := K.2.2.2.2.2.2
  unfold w_X12_needRun_31 at h
  exact hQ _ _ _ _ _ dX12_needRun_31 hH hc h hGσ hYσ hE
set_option maxRecDepth 20000 in
theorem a_X12_needRun_10 {Q : Sg → Unit → Prop} {X : Sg → String → Prop} {th : Nat} (K : MD l R p s m args c cX12_needRun 1 RX12 D cA tys A n0 s0 6 90 []) (hQ : CQV p l e R s m args below meth c cX12_needRun D cA A n0 s0 QM σi Q) (hX : CX p l e R s m args below meth c 1 D cA A n0 s0 QM σi X) (hTh : CT p l e R s m args below meth c cX12_needRun 1 D cA A n0 s0 QM σi RX12 X) : ∀ (σ : Sg), w_X12_needRun_10 th Q X σ → RG σ → TY σ → Ext σi σ → kO σ th 12 → JJ p l e R s m args below meth c 1 D cA A n0 s0 QM σ 10 [(0, .ref th)] [] := by
  intro σ h hGσ hYσ hE hth H locs ls hH hl hc
  have B := K.1
  have hl9 := K.2.2.2.2.2.2
  unfold w_X12_needRun_10 at h
  refine lv_aload_n B.1 B.2.1 dX12_needRun_10 rfl (lv_at hl 0 rfl) ?_
  refine f_getp B hH hth (by decide) rfl wu_X12 7 (by decide) wf_X12_49 rfl rfl dX12_needRun_11 ?_
  obtain ⟨a7, ea7, h⟩ := h
  have ka7 : kO σ a7 9 := (hYσ.get hth (by decide)) a7 ea7
  have h := h ka7
  refine W.eq (g2 := F0 m 14 ls [.ref a7]) (by rw [ea7]; rfl) ?_
  refine f_getp B hH ka7 (by decide) rfl wu_X9 2 (by decide) wf_X12_66 rfl rfl dX12_needRun_14 ?_
  obtain ⟨a8, ea8, h⟩ := h
  have ka8 : kO σ a8 3 := (hYσ.get ka7 (by decide)) a8 ea8
  have h := h ka8
  refine W.eq (g2 := F0 m 17 ls [.ref a8]) (by rw [ea8]; rfl) ?_
  refine f_geti B hH ka8 (by decide) rfl wu_X3 9 (by decide) wf_X12_70 rfl rfl dX12_needRun_17 ?_
  refine lv_if_eq (tgt := 31) B.1 B.2.1 dX12_needRun_20 (by decide) (fun h9 => ?_) (fun h9 => ?_)
  · rw [if_pos ((z_eq (hGσ _ _)).mp h9)] at h
    exact a_X12_needRun_31 K hQ hX hTh _ h hGσ hYσ hE hth _ _ _ hH (lv_sub (l' := [(0, .ref th)]) hl [0] rfl) hc
  · rw [if_neg (fun q => h9 ((z_eq (hGσ _ _)).mpr q))] at h
    exact a_X12_needRun_23 K hQ hX hTh _ h hGσ hYσ hE hth _ _ _ hH (lv_sub (l' := [(0, .ref th)]) hl [0] rfl) hc
set_option maxRecDepth 20000 in
theorem a_X12_needRun_0 {Q : Sg → Unit → Prop} {X : Sg → String → Prop} {th : Nat} (K : MD l R p s m args c cX12_needRun 1 RX12 D cA tys A n0 s0 6 90 []) (hQ : CQV p l e R s m args below meth c cX12_needRun D cA A n0 s0 QM σi Q) (hX : CX p l e R s m args below meth c 1 D cA A n0 s0 QM σi X) (hTh : CT p l e R s m args below meth c cX12_needRun 1 D cA A n0 s0 QM σi RX12 X) : ∀ (σ : Sg), w_X12_needRun_0 th Q X σ → RG σ → TY σ → Ext σi σ → kO σ th 12 → JJ p l e R s m args below meth c 1 D cA A n0 s0 QM σ 0 [(0, .ref th)] [] := by
  intro σ h hGσ hYσ hE hth H locs ls hH hl hc
  have B := K.1
  have hl9 := K.2.2.2.2.2.2
  unfold w_X12_needRun_0 at h
  refine lv_aload_n B.1 B.2.1 dX12_needRun_0 rfl (lv_at hl 0 rfl) ?_
  refine f_getp B hH hth (by decide) rfl wu_X12 7 (by decide) wf_X12_49 rfl rfl dX12_needRun_1 ?_
  obtain ⟨a9, ea9, h⟩ := h
  have ka9 : kO σ a9 9 := (hYσ.get hth (by decide)) a9 ea9
  have h := h ka9
  refine W.eq (g2 := F0 m 4 ls [.ref a9]) (by rw [ea9]; rfl) ?_
  refine f_geti B hH ka9 (by decide) rfl wu_X9 10 (by decide) wf_X12_137 rfl rfl dX12_needRun_4 ?_
  refine lv_if_eq (tgt := 23) B.1 B.2.1 dX12_needRun_7 (by decide) (fun h9 => ?_) (fun h9 => ?_)
  · rw [if_pos ((z_eq (hGσ _ _)).mp h9)] at h
    exact a_X12_needRun_23 K hQ hX hTh _ h hGσ hYσ hE hth _ _ _ hH (lv_sub (l' := [(0, .ref th)]) hl [0] rfl) hc
  · rw [if_neg (fun q => h9 ((z_eq (hGσ _ _)).mpr q))] at h
    exact a_X12_needRun_10 K hQ hX hTh _ h hGσ hYσ hE hth _ _ _ hH (lv_sub (l' := [(0, .ref th)]) hl [0] rfl) hc
theorem ok_X12_needRun (hl0 : l.stackTraces = false) (hT : TyC cA tys) {Q : Sg → Unit → Prop} {X : Sg → String → Prop} (σ : Sg) (th : Nat) (hth : kO σ th 12) (hG : RG σ) (hY : TY σ) (h : wp_X12_needRun th σ Q X) : Ok l D cA tys A yX12_needRun (.code yX12_needRun cX12_needRun 1 none) 6 90 [.ref th] σ (QcV σ Q) (QxC σ X) := by
  unfold wp_X12_needRun at h
  exact oc_V hl0 (by decide) (by exact Nat.le_of_ble_eq_true rfl) hT (fun p e R s m args below meth c K hQ hX hTh hin9 H locs ls hH hl hc => a_X12_needRun_0 K hQ hX hTh σ h hG hY (Ext.rfl' σ) hth H locs ls hH (lv_sub (l' := [(0, .ref th)]) hl [0] rfl) hc)
theorem dX12_hasOneTask_0 : decode cX12_hasOneTask 0 = .ok (.iload_n 0, 1) := by decide +kernel
theorem dX12_hasOneTask_1 : decode cX12_hasOneTask 1 = .ok (.ifCond .eq 15, 3) := by decide +kernel
theorem dX12_hasOneTask_4 : decode cX12_hasOneTask 4 = .ok (.iload_n 0, 1) := by decide +kernel
theorem dX12_hasOneTask_5 : decode cX12_hasOneTask 5 = .ok (.bipush 10, 2) := by decide +kernel
theorem dX12_hasOneTask_7 : decode cX12_hasOneTask 7 = .ok (.if_icmp .eq 9, 3) := by decide +kernel
theorem dX12_hasOneTask_10 : decode cX12_hasOneTask 10 = .ok (.iload_n 0, 1) := by decide +kernel
theorem dX12_hasOneTask_11 : decode cX12_hasOneTask 11 = .ok (.bipush 11, 2) := by decide +kernel
theorem dX12_hasOneTask_13 : decode cX12_hasOneTask 13 = .ok (.if_icmp .ne 7, 3) := by decide +kernel
theorem dX12_hasOneTask_16 : decode cX12_hasOneTask 16 = .ok (.iconst 1, 1) := by decide +kernel
theorem dX12_hasOneTask_17 : decode cX12_hasOneTask 17 = .ok (.goto 4, 3) := by decide +kernel
theorem dX12_hasOneTask_20 : decode cX12_hasOneTask 20 = .ok (.iconst 0, 1) := by decide +kernel
theorem dX12_hasOneTask_21 : decode cX12_hasOneTask 21 = .ok (.ireturn, 1) := by decide +kernel
set_option maxRecDepth 20000 in
theorem a_X12_hasOneTask_21 {Q : Sg → Int → Prop} {X : Sg → String → Prop} (K : MD l R p s m args c cX12_hasOneTask 1 RX12 D cA tys A n0 s0 0 0 []) (hQ : CQZ p l e R s m args below meth c cX12_hasOneTask D cA A n0 s0 QM σi Q) (hX : CX p l e R s m args below meth c 1 D cA A n0 s0 QM σi X) (hTh : CT p l e R s m args below meth c cX12_hasOneTask 1 D cA A n0 s0 QM σi RX12 X) : ∀ (σ : Sg) (u0 : Int) (gu0 : rng u0), w_X12_hasOneTask_21 Q X σ u0 → RG σ → TY σ → Ext σi σ → JJ p l e R s m args below meth c 1 D cA A n0 s0 QM σ 21 [] [.int (i32 u0)] := by
  intro σ u0 gu0 h hGσ hYσ hE H locs ls hH hl hc
  have B := K.1
  have hl9 := K.2.2.2.2.2.2
  unfold w_X12_hasOneTask_21 at h
  obtain ⟨qz, h⟩ := h
  exact hQ _ _ _ _ _ _ gu0 qz dX12_hasOneTask_21 hH hc h hGσ hYσ hE
set_option maxRecDepth 20000 in
theorem a_X12_hasOneTask_16 {Q : Sg → Int → Prop} {X : Sg → String → Prop} (K : MD l R p s m args c cX12_hasOneTask 1 RX12 D cA tys A n0 s0 0 0 []) (hQ : CQZ p l e R s m args below meth c cX12_hasOneTask D cA A n0 s0 QM σi Q) (hX : CX p l e R s m args below meth c 1 D cA A n0 s0 QM σi X) (hTh : CT p l e R s m args below meth c cX12_hasOneTask 1 D cA A n0 s0 QM σi RX12 X) : ∀ (σ : Sg), w_X12_hasOneTask_16 Q X σ → RG σ → TY σ → Ext σi σ → JJ p l e R s m args below meth c 1 D cA A n0 s0 QM σ 16 [] [] := by
  intro σ h hGσ hYσ hE H locs ls hH hl hc
  have B := K.1
  have hl9 := K.2.2.2.2.2.2
  unfold w_X12_hasOneTask_16 at h
  refine lv_iconst (v := i32 1) B.1 B.2.1 dX12_hasOneTask_16 (by decide) ?_
  refine lv_goto (tgt := 21) B.1 B.2.1 dX12_hasOneTask_17 (by decide) ?_
  exact a_X12_hasOneTask_21 K hQ hX hTh _ _ (by unfold rng; omega) h hGσ hYσ hE _ _ _ hH (lv_sub (l' := []) hl [] rfl) hc
set_option maxRecDepth 20000 in
theorem a_X12_hasOneTask_20 {Q : Sg → Int → Prop} {X : Sg → String → Prop} (K : MD l R p s m args c cX12_hasOneTask 1 RX12 D cA tys A n0 s0 0 0 []) (hQ : CQZ p l e R s m args below meth c cX12_hasOneTask D cA A n0 s0 QM σi Q) (hX : CX p l e R s m args below meth c 1 D cA A n0 s0 QM σi X) (hTh : CT p l e R s m args below meth c cX12_hasOneTask 1 D cA A n0 s0 QM σi RX12 X) : ∀ (σ : Sg), w_X12_hasOneTask_20 Q X σ → RG σ → TY σ → Ext σi σ → JJ p l e R s m args below meth c 1 D cA A n0 s0 QM σ 20 [] [] := by
  intro σ h hGσ hYσ hE H locs ls hH hl hc
  have B := K.1
  have hl9 := K.2.2.2.2.2.2
  unfold w_X12_hasOneTask_20 at h
  refine lv_iconst (v := i32 0) B.1 B.2.1 dX12_hasOneTask_20 (by decide) ?_
  exact a_X12_hasOneTask_21 K hQ hX hTh _ _ (by unfold rng; omega) h hGσ hYσ hE _ _ _ hH (lv_sub (l' := []) hl [] rfl) hc
set_option maxRecDepth 20000 in
theorem a_X12_hasOneTask_10 {Q : Sg → Int → Prop} {X : Sg → String → Prop} (K : MD l R p s m args c cX12_hasOneTask 1 RX12 D cA tys A n0 s0 0 0 []) (hQ : CQZ p l e R s m args below meth c cX12_hasOneTask D cA A n0 s0 QM σi Q) (hX : CX p l e R s m args below meth c 1 D cA A n0 s0 QM σi X) (hTh : CT p l e R s m args below meth c cX12_hasOneTask 1 D cA A n0 s0 QM σi RX12 X) : ∀ (σ : Sg) (v0 : Int) (g0 : rng v0), w_X12_hasOneTask_10 Q X σ v0 → RG σ → TY σ → Ext σi σ → JJ p l e R s m args below meth c 1 D cA A n0 s0 QM σ 10 [(0, .int (i32 v0))] [] := by
  intro σ v0 g0 h hGσ hYσ hE H locs ls hH hl hc
  have B := K.1
  have hl9 := K.2.2.2.2.2.2
  unfold w_X12_hasOneTask_10 at h
  refine lv_iload_n B.1 B.2.1 dX12_hasOneTask_10 rfl (lv_at hl 0 rfl) ?_
  refine lv_bipush (v := i32 11) B.1 B.2.1 dX12_hasOneTask_11 (by decide) ?_
  refine lv_icmp_ne (tgt := 20) B.1 B.2.1 dX12_hasOneTask_13 (by decide) (fun h9 => ?_) (fun h9 => ?_)
  · rw [if_pos (fun q => h9 ((i32_eq g0 (by unfold rng; omega)).mpr q))] at h
    exact a_X12_hasOneTask_20 K hQ hX hTh _ h hGσ hYσ hE _ _ _ hH (lv_sub (l' := []) hl [] rfl) hc
  · rw [if_neg (fun q => q ((i32_eq g0 (by unfold rng; omega)).mp h9))] at h
    exact a_X12_hasOneTask_16 K hQ hX hTh _ h hGσ hYσ hE _ _ _ hH (lv_sub (l' := []) hl [] rfl) hc
set_option maxRecDepth 20000 in
theorem a_X12_hasOneTask_4 {Q : Sg → Int → Prop} {X : Sg → String → Prop} (K : MD l R p s m args c cX12_hasOneTask 1 RX12 D cA tys A n0 s0 0 0 []) (hQ : CQZ p l e R s m args below meth c cX12_hasOneTask D cA A n0 s0 QM σi Q) (hX : CX p l e R s m args below meth c 1 D cA A n0 s0 QM σi X) (hTh : CT p l e R s m args below meth c cX12_hasOneTask 1 D cA A n0 s0 QM σi RX12 X) : ∀ (σ : Sg) (v0 : Int) (g0 : rng v0), w_X12_hasOneTask_4 Q X σ v0 → RG σ → TY σ → Ext σi σ → JJ p l e R s m args below meth c 1 D cA A n0 s0 QM σ 4 [(0, .int (i32 v0))] [] := by
  intro σ v0 g0 h hGσ hYσ hE H locs ls hH hl hc
  have B := K.1
  have hl9 := K.2.2.2.2.2.2
  unfold w_X12_hasOneTask_4 at h
  refine lv_iload_n B.1 B.2.1 dX12_hasOneTask_4 rfl (lv_at hl 0 rfl) ?_
  refine lv_bipush (v := i32 10) B.1 B.2.1 dX12_hasOneTask_5 (by decide) ?_
  refine lv_icmp_eq (tgt := 16) B.1 B.2.1 dX12_hasOneTask_7 (by decide) (fun h9 => ?_) (fun h9 => ?_)
  · rw [if_pos ((i32_eq g0 (by unfold rng; omega)).mp h9)] at h
    exact a_X12_hasOneTask_16 K hQ hX hTh _ h hGσ hYσ hE _ _ _ hH (lv_sub (l' := []) hl [] rfl) hc
  · rw [if_neg (fun q => h9 ((i32_eq g0 (by unfold rng; omega)).mpr q))] at h
    exact a_X12_hasOneTask_10 K hQ hX hTh _ _ g0 h hGσ hYσ hE _ _ _ hH (lv_sub (l' := [(0, .int (i32 v0))]) hl [0] rfl) hc
set_option maxRecDepth 20000 in
theorem a_X12_hasOneTask_0 {Q : Sg → Int → Prop} {X : Sg → String → Prop} (K : MD l R p s m args c cX12_hasOneTask 1 RX12 D cA tys A n0 s0 0 0 []) (hQ : CQZ p l e R s m args below meth c cX12_hasOneTask D cA A n0 s0 QM σi Q) (hX : CX p l e R s m args below meth c 1 D cA A n0 s0 QM σi X) (hTh : CT p l e R s m args below meth c cX12_hasOneTask 1 D cA A n0 s0 QM σi RX12 X) : ∀ (σ : Sg) (v0 : Int) (g0 : rng v0), w_X12_hasOneTask_0 Q X σ v0 → RG σ → TY σ → Ext σi σ → JJ p l e R s m args below meth c 1 D cA A n0 s0 QM σ 0 [(0, .int (i32 v0))] [] := by
  intro σ v0 g0 h hGσ hYσ hE H locs ls hH hl hc
  have B := K.1
  have hl9 := K.2.2.2.2.2.2
  unfold w_X12_hasOneTask_0 at h
  refine lv_iload_n B.1 B.2.1 dX12_hasOneTask_0 rfl (lv_at hl 0 rfl) ?_
  refine lv_if_eq (tgt := 16) B.1 B.2.1 dX12_hasOneTask_1 (by decide) (fun h9 => ?_) (fun h9 => ?_)
  · rw [if_pos ((z_eq g0).mp h9)] at h
    exact a_X12_hasOneTask_16 K hQ hX hTh _ h hGσ hYσ hE _ _ _ hH (lv_sub (l' := []) hl [] rfl) hc
  · rw [if_neg (fun q => h9 ((z_eq g0).mpr q))] at h
    exact a_X12_hasOneTask_4 K hQ hX hTh _ _ g0 h hGσ hYσ hE _ _ _ hH (lv_sub (l' := [(0, .int (i32 v0))]) hl [0] rfl) hc
theorem ok_X12_hasOneTask (hl0 : l.stackTraces = false) (hT : TyC cA tys) {Q : Sg → Int → Prop} {X : Sg → String → Prop} (σ : Sg) (v0 : Int) (g0 : rng v0) (hG : RG σ) (hY : TY σ) (h : wp_X12_hasOneTask v0 σ Q X) : Ok l D cA tys A yX12_hasOneTask (.code yX12_hasOneTask cX12_hasOneTask 1 (some .boolean)) 0 0 [.int (i32 v0)] σ (QcZ σ Q) (QxC σ X) := by
  unfold wp_X12_hasOneTask at h
  exact oc_Z hl0 (by decide) (by exact Nat.le_of_ble_eq_true rfl) hT (fun p e R s m args below meth c K hQ hX hTh H locs ls hH hl hc => a_X12_hasOneTask_0 K hQ hX hTh σ v0 g0 h hG hY (Ext.rfl' σ) H locs ls hH (lv_sub (l' := [(0, .int (i32 v0))]) hl [0] rfl) hc)
theorem dX12_isKeyed_0 : decode cX12_isKeyed 0 = .ok (.iload_n 0, 1) := by decide +kernel
theorem dX12_isKeyed_1 : decode cX12_isKeyed 1 = .ok (.iconst 4, 1) := by decide +kernel
theorem dX12_isKeyed_2 : decode cX12_isKeyed 2 = .ok (.if_icmp .lt 13, 3) := by decide +kernel
theorem dX12_isKeyed_5 : decode cX12_isKeyed 5 = .ok (.iload_n 0, 1) := by decide +kernel
theorem dX12_isKeyed_6 : decode cX12_isKeyed 6 = .ok (.bipush 9, 2) := by decide +kernel
theorem dX12_isKeyed_8 : decode cX12_isKeyed 8 = .ok (.if_icmp .gt 7, 3) := by decide +kernel
theorem dX12_isKeyed_11 : decode cX12_isKeyed 11 = .ok (.iconst 1, 1) := by decide +kernel
theorem dX12_isKeyed_12 : decode cX12_isKeyed 12 = .ok (.goto 4, 3) := by decide +kernel
theorem dX12_isKeyed_15 : decode cX12_isKeyed 15 = .ok (.iconst 0, 1) := by decide +kernel
theorem dX12_isKeyed_16 : decode cX12_isKeyed 16 = .ok (.ireturn, 1) := by decide +kernel
set_option maxRecDepth 20000 in
theorem a_X12_isKeyed_16 {Q : Sg → Int → Prop} {X : Sg → String → Prop} (K : MD l R p s m args c cX12_isKeyed 1 RX12 D cA tys A n0 s0 0 0 []) (hQ : CQZ p l e R s m args below meth c cX12_isKeyed D cA A n0 s0 QM σi Q) (hX : CX p l e R s m args below meth c 1 D cA A n0 s0 QM σi X) (hTh : CT p l e R s m args below meth c cX12_isKeyed 1 D cA A n0 s0 QM σi RX12 X) : ∀ (σ : Sg) (u0 : Int) (gu0 : rng u0), w_X12_isKeyed_16 Q X σ u0 → RG σ → TY σ → Ext σi σ → JJ p l e R s m args below meth c 1 D cA A n0 s0 QM σ 16 [] [.int (i32 u0)] := by
  intro σ u0 gu0 h hGσ hYσ hE H locs ls hH hl hc
  have B := K.1
  have hl9 := K.2.2.2.2.2.2
  unfold w_X12_isKeyed_16 at h
  obtain ⟨qz, h⟩ := h
  exact hQ _ _ _ _ _ _ gu0 qz dX12_isKeyed_16 hH hc h hGσ hYσ hE
set_option maxRecDepth 20000 in
theorem a_X12_isKeyed_15 {Q : Sg → Int → Prop} {X : Sg → String → Prop} (K : MD l R p s m args c cX12_isKeyed 1 RX12 D cA tys A n0 s0 0 0 []) (hQ : CQZ p l e R s m args below meth c cX12_isKeyed D cA A n0 s0 QM σi Q) (hX : CX p l e R s m args below meth c 1 D cA A n0 s0 QM σi X) (hTh : CT p l e R s m args below meth c cX12_isKeyed 1 D cA A n0 s0 QM σi RX12 X) : ∀ (σ : Sg), w_X12_isKeyed_15 Q X σ → RG σ → TY σ → Ext σi σ → JJ p l e R s m args below meth c 1 D cA A n0 s0 QM σ 15 [] [] := by
  intro σ h hGσ hYσ hE H locs ls hH hl hc
  have B := K.1
  have hl9 := K.2.2.2.2.2.2
  unfold w_X12_isKeyed_15 at h
  refine lv_iconst (v := i32 0) B.1 B.2.1 dX12_isKeyed_15 (by decide) ?_
  exact a_X12_isKeyed_16 K hQ hX hTh _ _ (by unfold rng; omega) h hGσ hYσ hE _ _ _ hH (lv_sub (l' := []) hl [] rfl) hc
set_option maxRecDepth 20000 in
theorem a_X12_isKeyed_11 {Q : Sg → Int → Prop} {X : Sg → String → Prop} (K : MD l R p s m args c cX12_isKeyed 1 RX12 D cA tys A n0 s0 0 0 []) (hQ : CQZ p l e R s m args below meth c cX12_isKeyed D cA A n0 s0 QM σi Q) (hX : CX p l e R s m args below meth c 1 D cA A n0 s0 QM σi X) (hTh : CT p l e R s m args below meth c cX12_isKeyed 1 D cA A n0 s0 QM σi RX12 X) : ∀ (σ : Sg), w_X12_isKeyed_11 Q X σ → RG σ → TY σ → Ext σi σ → JJ p l e R s m args below meth c 1 D cA A n0 s0 QM σ 11 [] [] := by
  intro σ h hGσ hYσ hE H locs ls hH hl hc
  have B := K.1
  have hl9 := K.2.2.2.2.2.2
  unfold w_X12_isKeyed_11 at h
  refine lv_iconst (v := i32 1) B.1 B.2.1 dX12_isKeyed_11 (by decide) ?_
  refine lv_goto (tgt := 16) B.1 B.2.1 dX12_isKeyed_12 (by decide) ?_
  exact a_X12_isKeyed_16 K hQ hX hTh _ _ (by unfold rng; omega) h hGσ hYσ hE _ _ _ hH (lv_sub (l' := []) hl [] rfl) hc
set_option maxRecDepth 20000 in
theorem a_X12_isKeyed_5 {Q : Sg → Int → Prop} {X : Sg → String → Prop} (K : MD l R p s m args c cX12_isKeyed 1 RX12 D cA tys A n0 s0 0 0 []) (hQ : CQZ p l e R s m args below meth c cX12_isKeyed D cA A n0 s0 QM σi Q) (hX : CX p l e R s m args below meth c 1 D cA A n0 s0 QM σi X) (hTh : CT p l e R s m args below meth c cX12_isKeyed 1 D cA A n0 s0 QM σi RX12 X) : ∀ (σ : Sg) (v0 : Int) (g0 : rng v0), w_X12_isKeyed_5 Q X σ v0 → RG σ → TY σ → Ext σi σ → JJ p l e R s m args below meth c 1 D cA A n0 s0 QM σ 5 [(0, .int (i32 v0))] [] := by
  intro σ v0 g0 h hGσ hYσ hE H locs ls hH hl hc
  have B := K.1
  have hl9 := K.2.2.2.2.2.2
  unfold w_X12_isKeyed_5 at h
  refine lv_iload_n B.1 B.2.1 dX12_isKeyed_5 rfl (lv_at hl 0 rfl) ?_
  refine lv_bipush (v := i32 9) B.1 B.2.1 dX12_isKeyed_6 (by decide) ?_
  refine lv_icmp_gt (tgt := 15) B.1 B.2.1 dX12_isKeyed_8 (by decide) (fun h9 => ?_) (fun h9 => ?_)
  · rw [if_pos ((i32_lt (by unfold rng; omega) g0).mp h9)] at h
    exact a_X12_isKeyed_15 K hQ hX hTh _ h hGσ hYσ hE _ _ _ hH (lv_sub (l' := []) hl [] rfl) hc
  · rw [if_neg (fun q => h9 ((i32_lt (by unfold rng; omega) g0).mpr q))] at h
    exact a_X12_isKeyed_11 K hQ hX hTh _ h hGσ hYσ hE _ _ _ hH (lv_sub (l' := []) hl [] rfl) hc
set_option maxRecDepth 20000 in
theorem a_X12_isKeyed_0 {Q : Sg → Int → Prop} {X : Sg → String → Prop} (K : MD l R p s m args c cX12_isKeyed 1 RX12 D cA tys A n0 s0 0 0 []) (hQ : CQZ p l e R s m args below meth c cX12_isKeyed D cA A n0 s0 QM σi Q) (hX : CX p l e R s m args below meth c 1 D cA A n0 s0 QM σi X) (hTh : CT p l e R s m args below meth c cX12_isKeyed 1 D cA A n0 s0 QM σi RX12 X) : ∀ (σ : Sg) (v0 : Int) (g0 : rng v0), w_X12_isKeyed_0 Q X σ v0 → RG σ → TY σ → Ext σi σ → JJ p l e R s m args below meth c 1 D cA A n0 s0 QM σ 0 [(0, .int (i32 v0))] [] := by
  intro σ v0 g0 h hGσ hYσ hE H locs ls hH hl hc
  have B := K.1
  have hl9 := K.2.2.2.2.2.2
  unfold w_X12_isKeyed_0 at h
  refine lv_iload_n B.1 B.2.1 dX12_isKeyed_0 rfl (lv_at hl 0 rfl) ?_
  refine lv_iconst (v := i32 4) B.1 B.2.1 dX12_isKeyed_1 (by decide) ?_
  refine lv_icmp_lt (tgt := 15) B.1 B.2.1 dX12_isKeyed_2 (by decide) (fun h9 => ?_) (fun h9 => ?_)
  · rw [if_pos ((i32_lt g0 (by unfold rng; omega)).mp h9)] at h
    exact a_X12_isKeyed_15 K hQ hX hTh _ h hGσ hYσ hE _ _ _ hH (lv_sub (l' := []) hl [] rfl) hc
  · rw [if_neg (fun q => h9 ((i32_lt g0 (by unfold rng; omega)).mpr q))] at h
    exact a_X12_isKeyed_5 K hQ hX hTh _ _ g0 h hGσ hYσ hE _ _ _ hH (lv_sub (l' := [(0, .int (i32 v0))]) hl [0] rfl) hc
theorem ok_X12_isKeyed (hl0 : l.stackTraces = false) (hT : TyC cA tys) {Q : Sg → Int → Prop} {X : Sg → String → Prop} (σ : Sg) (v0 : Int) (g0 : rng v0) (hG : RG σ) (hY : TY σ) (h : wp_X12_isKeyed v0 σ Q X) : Ok l D cA tys A yX12_isKeyed (.code yX12_isKeyed cX12_isKeyed 1 (some .boolean)) 0 0 [.int (i32 v0)] σ (QcZ σ Q) (QxC σ X) := by
  unfold wp_X12_isKeyed at h
  exact oc_Z hl0 (by decide) (by exact Nat.le_of_ble_eq_true rfl) hT (fun p e R s m args below meth c K hQ hX hTh H locs ls hH hl hc => a_X12_isKeyed_0 K hQ hX hTh σ v0 g0 h hG hY (Ext.rfl' σ) H locs ls hH (lv_sub (l' := [(0, .int (i32 v0))]) hl [0] rfl) hc)
theorem dX2_init_0 : decode cX2_init 0 = .ok (.aload_n 0, 1) := by decide +kernel
theorem dX2_init_1 : decode cX2_init 1 = .ok (.invokespecial 3, 3) := by decide +kernel
theorem dX2_init_4 : decode cX2_init 4 = .ok (.aload_n 0, 1) := by decide +kernel
theorem dX2_init_5 : decode cX2_init 5 = .ok (.new 9, 3) := by decide +kernel
theorem dX2_init_8 : decode cX2_init 8 = .ok (.dup, 1) := by decide +kernel
theorem dX2_init_9 : decode cX2_init 9 = .ok (.invokespecial 11, 3) := by decide +kernel
theorem dX2_init_12 : decode cX2_init 12 = .ok (.putfield 12, 3) := by decide +kernel
theorem dX2_init_15 : decode cX2_init 15 = .ok (.return_, 1) := by decide +kernel
set_option maxRecDepth 20000 in
theorem a_X2_init_0 {Q : Sg → Unit → Prop} {X : Sg → String → Prop} {th : Nat} (K : MD l R p s m args c cX2_init 1 RX2 D cA tys A n0 s0 2 32 []) (hQ : CQV p l e R s m args below meth c cX2_init D cA A n0 s0 QM σi Q) (hX : CX p l e R s m args below meth c 1 D cA A n0 s0 QM σi X) (hTh : CT p l e R s m args below meth c cX2_init 1 D cA A n0 s0 QM σi RX2 X) (hin9 : yX2_init.name = "<init>" → meth.name = "<init>") : ∀ (σ : Sg), w_X2_init_0 th Q X σ → RG σ → TY σ → Ext σi σ → kO σ th 2 → JJ p l e R s m args below meth c 1 D cA A n0 s0 QM σ 0 [(0, .ref th)] [] := by
  intro σ h hGσ hYσ hE hth H locs ls hH hl hc
  have B := K.1
  have hl9 := K.2.2.2.2.2.2
  unfold w_X2_init_0 at h
  refine lv_aload_n B.1 B.2.1 dX2_init_0 rfl (lv_at hl 0 rfl) ?_
  refine h_oinit B hl wo_X2_3 (by have := K.2.2.2.1; omega) (by have := K.2.2.2.2.1; omega) dX2_init_1 ?_
  refine lv_aload_n B.1 B.2.1 dX2_init_4 rfl (lv_at hl 0 rfl) ?_
  obtain ⟨zq9, h⟩ := h
  refine c_new B hH hc K.2.2.1 (ci := 1) rfl (by decide) wu_X1 tyX1 tyX1_ok (by decide) wn_X2_9 zq9 dX2_init_5 (fun q9 H hq9 hH hc => ?_)
  obtain ⟨σ10, eσ10⟩ : ∃ z, z = new1 σ q9 1 3 := ⟨_, rfl⟩
  have h := h q9 hq9 σ10 eσ10
  rw [← eσ10] at hH hc ⊢
  have hGσ10 : RG σ10 := by rw [eσ10]; exact hGσ.new1
  have hYσ10 : TY σ10 := by rw [eσ10]; exact hYσ.new1 hq9
  have xσ10 : Ext σ σ10 := by rw [eσ10]; exact Ext.new1 hq9
  have kq9 : kO σ10 q9 1 := by rw [eσ10]; exact kO.new1
  refine lv_dup B.1 B.2.1 dX2_init_8 rfl ?_
  refine W.eq (g2 := F0 m 9 ls [.ref q9, .ref q9, .ref th]) (rfl) ?_
  refine c_IN B hH hl hc K.2.2.1 (As := []) (ok_X1_init hl9 K.2.1 σ10 q9 kq9 hGσ10 hYσ10 (nx_X1_init h)) (fun _ _ h9 => h9.1) (List.mem_of_getElem? (l := nmL) (i := 15) rfl) rfl wq_X1_init 0 hd_X1_init ⟨Nat.le_trans (Nat.le_of_ble_eq_true rfl) K.2.2.2.1, Nat.le_trans (Nat.le_of_ble_eq_true rfl) K.2.2.2.2.1⟩ rfl (rest := [.ref q9, .ref th]) rfl (Nat.le_of_ble_eq_true rfl) dX2_init_9 (fun σ11 w hq => ?_)
  obtain ⟨rfl, h, hGσ11, hYσ11, xσ11⟩ := hq
  have h := h xσ11
  intro H locs ls hH hl hc
  refine W.eq (g2 := F0 m 12 ls [.ref q9, .ref th]) (rfl) ?_
  try dsimp only at h
  obtain ⟨σ12, eσ12⟩ : ∃ z, z = pP σ11 th 0 (some q9) := ⟨_, rfl⟩
  have h := h σ12 eσ12
  refine W.eq (g2 := F0 m 12 ls [va_rf (some q9), .ref th]) (rfl) ?_
  refine f_putF B hH (hth.up (xσ10.trans xσ11)) (by decide) rfl wu_X2 tyX2 tyX2_ok nmX2 0 (by decide) wf_X2_12 rfl (r := (some q9)) (ty := .object "StreamHouse$Chain") rfl (hin9 rfl) rfl rfl rfl (nrO _ _) (ftO _ _) dX2_init_12 (fun H locs hH => ?_)
  have hH : Hd D cA A s (pP σ11 th 0 (some q9)) H locs := hH
  rw [← eσ12] at hH
  have hGσ12 : RG σ12 := by rw [eσ12]; exact hGσ11.pP
  have hYσ12 : TY σ12 := by rw [eσ12]; exact hYσ11.pP (hth.up (xσ10.trans xσ11)) (d := 1) (by decide) (tyS1 (kq9.up xσ11))
  have xσ12 : Ext σ11 σ12 := by rw [eσ12]; exact Ext.pP
  have hc : CB n0 s0 σ12 := by rw [eσ12]; exact hc
  rw [show gc σ11 = gc σ12 by rw [eσ12]; try rfl, show gs σ11 = gs σ12 by rw [eσ12]; try rfl]
  exact hQ _ _ _ _ _ dX2_init_15 hH hc h hGσ12 hYσ12 (((hE.trans xσ10).trans xσ11).trans xσ12)
theorem ok_X2_init (hl0 : l.stackTraces = false) (hT : TyC cA tys) {Q : Sg → Unit → Prop} {X : Sg → String → Prop} (σ : Sg) (th : Nat) (hth : kO σ th 2) (hG : RG σ) (hY : TY σ) (h : wp_X2_init th σ Q X) : Ok l D cA tys A yX2_init (.code yX2_init cX2_init 1 none) 2 32 [.ref th] σ (QcV σ Q) (QxC σ X) := by
  unfold wp_X2_init at h
  exact oc_V hl0 (by decide) (by exact Nat.le_of_ble_eq_true rfl) hT (fun p e R s m args below meth c K hQ hX hTh hin9 H locs ls hH hl hc => a_X2_init_0 K hQ hX hTh hin9 σ h hG hY (Ext.rfl' σ) hth H locs ls hH (lv_sub (l' := [(0, .ref th)]) hl [0] rfl) hc)
theorem dX2_lay_0 : decode cX2_lay 0 = .ok (.aload_n 0, 1) := by decide +kernel
theorem dX2_lay_1 : decode cX2_lay 1 = .ok (.iload_n 1, 1) := by decide +kernel
theorem dX2_lay_2 : decode cX2_lay 2 = .ok (.putfield 18, 3) := by decide +kernel
theorem dX2_lay_5 : decode cX2_lay 5 = .ok (.aload_n 0, 1) := by decide +kernel
theorem dX2_lay_6 : decode cX2_lay 6 = .ok (.iload_n 2, 1) := by decide +kernel
theorem dX2_lay_7 : decode cX2_lay 7 = .ok (.putfield 22, 3) := by decide +kernel
theorem dX2_lay_10 : decode cX2_lay 10 = .ok (.aload_n 0, 1) := by decide +kernel
theorem dX2_lay_11 : decode cX2_lay 11 = .ok (.iload_n 3, 1) := by decide +kernel
theorem dX2_lay_12 : decode cX2_lay 12 = .ok (.putfield 25, 3) := by decide +kernel
theorem dX2_lay_15 : decode cX2_lay 15 = .ok (.aload_n 0, 1) := by decide +kernel
theorem dX2_lay_16 : decode cX2_lay 16 = .ok (.ldc2_w 28, 3) := by decide +kernel
theorem dX2_lay_19 : decode cX2_lay 19 = .ok (.putfield 30, 3) := by decide +kernel
theorem dX2_lay_22 : decode cX2_lay 22 = .ok (.aload_n 0, 1) := by decide +kernel
theorem dX2_lay_23 : decode cX2_lay 23 = .ok (.iconst 0, 1) := by decide +kernel
theorem dX2_lay_24 : decode cX2_lay 24 = .ok (.putfield 34, 3) := by decide +kernel
theorem dX2_lay_27 : decode cX2_lay 27 = .ok (.aload_n 0, 1) := by decide +kernel
theorem dX2_lay_28 : decode cX2_lay 28 = .ok (.iconst 0, 1) := by decide +kernel
theorem dX2_lay_29 : decode cX2_lay 29 = .ok (.putfield 38, 3) := by decide +kernel
theorem dX2_lay_32 : decode cX2_lay 32 = .ok (.aload_n 0, 1) := by decide +kernel
theorem dX2_lay_33 : decode cX2_lay 33 = .ok (.iconst (-1), 1) := by decide +kernel
theorem dX2_lay_34 : decode cX2_lay 34 = .ok (.putfield 41, 3) := by decide +kernel
theorem dX2_lay_37 : decode cX2_lay 37 = .ok (.return_, 1) := by decide +kernel
set_option maxRecDepth 20000 in
theorem a_X2_lay_0 {Q : Sg → Unit → Prop} {X : Sg → String → Prop} {th : Nat} (K : MD l R p s m args c cX2_lay 4 RX2 D cA tys A n0 s0 0 0 []) (hQ : CQV p l e R s m args below meth c cX2_lay D cA A n0 s0 QM σi Q) (hX : CX p l e R s m args below meth c 4 D cA A n0 s0 QM σi X) (hTh : CT p l e R s m args below meth c cX2_lay 4 D cA A n0 s0 QM σi RX2 X) : ∀ (σ : Sg) (v1 : Int) (v2 : Int) (v3 : Int) (g1 : rng v1) (g2 : rng v2) (g3 : rng v3), w_X2_lay_0 th Q X σ v1 v2 v3 → RG σ → TY σ → Ext σi σ → kO σ th 2 → JJ p l e R s m args below meth c 4 D cA A n0 s0 QM σ 0 [(0, .ref th), (1, .int (i32 v1)), (2, .int (i32 v2)), (3, .int (i32 v3))] [] := by
  intro σ v1 v2 v3 g1 g2 g3 h hGσ hYσ hE hth H locs ls hH hl hc
  have B := K.1
  have hl9 := K.2.2.2.2.2.2
  unfold w_X2_lay_0 at h
  refine lv_aload_n B.1 B.2.1 dX2_lay_0 rfl (lv_at hl 0 rfl) ?_
  refine lv_iload_n B.1 B.2.1 dX2_lay_1 rfl (lv_at hl 1 rfl) ?_
  obtain ⟨σ15, eσ15⟩ : ∃ z, z = pI σ th 1 v1 := ⟨_, rfl⟩
  have h := h σ15 eσ15
  refine f_puti B hH hth (by decide) rfl wu_X2 tyX2 tyX2_ok nmX2 1 (by decide) wf_X2_18 rfl (ty := .int) rfl rfl rfl rfl rfl dX2_lay_2 (fun H locs hH => ?_)
  have hH : Hd D cA A s (pI σ th 1 v1) H locs := hH
  rw [← eσ15] at hH
  have hGσ15 : RG σ15 := by rw [eσ15]; exact hGσ.pI g1
  have hYσ15 : TY σ15 := by rw [eσ15]; exact hYσ.pI
  have xσ15 : Ext σ σ15 := by rw [eσ15]; exact Ext.pI
  have hc : CB n0 s0 σ15 := by rw [eσ15]; exact hc
  rw [show gc σ = gc σ15 by rw [eσ15]; try rfl, show gs σ = gs σ15 by rw [eσ15]; try rfl]
  refine lv_aload_n B.1 B.2.1 dX2_lay_5 rfl (lv_at hl 0 rfl) ?_
  refine lv_iload_n B.1 B.2.1 dX2_lay_6 rfl (lv_at hl 2 rfl) ?_
  obtain ⟨σ16, eσ16⟩ : ∃ z, z = pI σ15 th 2 v2 := ⟨_, rfl⟩
  have h := h σ16 eσ16
  refine f_puti B hH (hth.up xσ15) (by decide) rfl wu_X2 tyX2 tyX2_ok nmX2 2 (by decide) wf_X2_22 rfl (ty := .int) rfl rfl rfl rfl rfl dX2_lay_7 (fun H locs hH => ?_)
  have hH : Hd D cA A s (pI σ15 th 2 v2) H locs := hH
  rw [← eσ16] at hH
  have hGσ16 : RG σ16 := by rw [eσ16]; exact hGσ15.pI g2
  have hYσ16 : TY σ16 := by rw [eσ16]; exact hYσ15.pI
  have xσ16 : Ext σ15 σ16 := by rw [eσ16]; exact Ext.pI
  have hc : CB n0 s0 σ16 := by rw [eσ16]; exact hc
  rw [show gc σ15 = gc σ16 by rw [eσ16]; try rfl, show gs σ15 = gs σ16 by rw [eσ16]; try rfl]
  refine lv_aload_n B.1 B.2.1 dX2_lay_10 rfl (lv_at hl 0 rfl) ?_
  refine lv_iload_n B.1 B.2.1 dX2_lay_11 rfl (lv_at hl 3 rfl) ?_
  obtain ⟨σ17, eσ17⟩ : ∃ z, z = pI σ16 th 3 v3 := ⟨_, rfl⟩
  have h := h σ17 eσ17
  refine f_puti B hH (hth.up (xσ15.trans xσ16)) (by decide) rfl wu_X2 tyX2 tyX2_ok nmX2 3 (by decide) wf_X2_25 rfl (ty := .int) rfl rfl rfl rfl rfl dX2_lay_12 (fun H locs hH => ?_)
  have hH : Hd D cA A s (pI σ16 th 3 v3) H locs := hH
  rw [← eσ17] at hH
  have hGσ17 : RG σ17 := by rw [eσ17]; exact hGσ16.pI g3
  have hYσ17 : TY σ17 := by rw [eσ17]; exact hYσ16.pI
  have xσ17 : Ext σ16 σ17 := by rw [eσ17]; exact Ext.pI
  have hc : CB n0 s0 σ17 := by rw [eσ17]; exact hc
  rw [show gc σ16 = gc σ17 by rw [eσ17]; try rfl, show gs σ16 = gs σ17 by rw [eσ17]; try rfl]
  refine lv_aload_n B.1 B.2.1 dX2_lay_15 rfl (lv_at hl 0 rfl) ?_
  refine lv_ldc2 B.1 B.2.1 B.2.2.1 (B.2.2.2.1 _ (wk_X2_28)) dX2_lay_16 ?_
  obtain ⟨σ18, eσ18⟩ : ∃ z, z = pJ σ17 th 4 (-1) := ⟨_, rfl⟩
  have h := h σ18 eσ18
  refine f_putl B hH (hth.up (xσ15.trans (xσ16.trans xσ17))) (by decide) rfl wu_X2 tyX2 tyX2_ok nmX2 4 (by decide) wf_X2_30 rfl (ty := .long) rfl rfl rfl rfl rfl dX2_lay_19 (fun H locs hH => ?_)
  have hH : Hd D cA A s (pJ σ17 th 4 (-1)) H locs := hH
  rw [← eσ18] at hH
  have hGσ18 : RG σ18 := by rw [eσ18]; exact hGσ17.pJ
  have hYσ18 : TY σ18 := by rw [eσ18]; exact hYσ17.pJ
  have xσ18 : Ext σ17 σ18 := by rw [eσ18]; exact Ext.pJ
  have hc : CB n0 s0 σ18 := by rw [eσ18]; exact hc
  rw [show gc σ17 = gc σ18 by rw [eσ18]; try rfl, show gs σ17 = gs σ18 by rw [eσ18]; try rfl]
  refine lv_aload_n B.1 B.2.1 dX2_lay_22 rfl (lv_at hl 0 rfl) ?_
  refine lv_iconst (v := i32 0) B.1 B.2.1 dX2_lay_23 (by decide) ?_
  obtain ⟨σ19, eσ19⟩ : ∃ z, z = pI σ18 th 5 0 := ⟨_, rfl⟩
  have h := h σ19 eσ19
  refine f_puti B hH (hth.up (xσ15.trans (xσ16.trans (xσ17.trans xσ18)))) (by decide) rfl wu_X2 tyX2 tyX2_ok nmX2 5 (by decide) wf_X2_34 rfl (ty := .boolean) rfl rfl rfl rfl rfl dX2_lay_24 (fun H locs hH => ?_)
  have hH : Hd D cA A s (pI σ18 th 5 0) H locs := hH
  rw [← eσ19] at hH
  have hGσ19 : RG σ19 := by rw [eσ19]; exact hGσ18.pI (by unfold rng; omega)
  have hYσ19 : TY σ19 := by rw [eσ19]; exact hYσ18.pI
  have xσ19 : Ext σ18 σ19 := by rw [eσ19]; exact Ext.pI
  have hc : CB n0 s0 σ19 := by rw [eσ19]; exact hc
  rw [show gc σ18 = gc σ19 by rw [eσ19]; try rfl, show gs σ18 = gs σ19 by rw [eσ19]; try rfl]
  refine lv_aload_n B.1 B.2.1 dX2_lay_27 rfl (lv_at hl 0 rfl) ?_
  refine lv_iconst (v := i32 0) B.1 B.2.1 dX2_lay_28 (by decide) ?_
  obtain ⟨σ20, eσ20⟩ : ∃ z, z = pI σ19 th 6 0 := ⟨_, rfl⟩
  have h := h σ20 eσ20
  refine f_puti B hH (hth.up (xσ15.trans (xσ16.trans (xσ17.trans (xσ18.trans xσ19))))) (by decide) rfl wu_X2 tyX2 tyX2_ok nmX2 6 (by decide) wf_X2_38 rfl (ty := .int) rfl rfl rfl rfl rfl dX2_lay_29 (fun H locs hH => ?_)
  have hH : Hd D cA A s (pI σ19 th 6 0) H locs := hH
  rw [← eσ20] at hH
  have hGσ20 : RG σ20 := by rw [eσ20]; exact hGσ19.pI (by unfold rng; omega)
  have hYσ20 : TY σ20 := by rw [eσ20]; exact hYσ19.pI
  have xσ20 : Ext σ19 σ20 := by rw [eσ20]; exact Ext.pI
  have hc : CB n0 s0 σ20 := by rw [eσ20]; exact hc
  rw [show gc σ19 = gc σ20 by rw [eσ20]; try rfl, show gs σ19 = gs σ20 by rw [eσ20]; try rfl]
  refine lv_aload_n B.1 B.2.1 dX2_lay_32 rfl (lv_at hl 0 rfl) ?_
  refine lv_iconst (v := i32 (-1)) B.1 B.2.1 dX2_lay_33 (by decide) ?_
  obtain ⟨σ21, eσ21⟩ : ∃ z, z = pI σ20 th 7 (-1) := ⟨_, rfl⟩
  have h := h σ21 eσ21
  refine f_puti B hH (hth.up (xσ15.trans (xσ16.trans (xσ17.trans (xσ18.trans (xσ19.trans xσ20)))))) (by decide) rfl wu_X2 tyX2 tyX2_ok nmX2 7 (by decide) wf_X2_41 rfl (ty := .int) rfl rfl rfl rfl rfl dX2_lay_34 (fun H locs hH => ?_)
  have hH : Hd D cA A s (pI σ20 th 7 (-1)) H locs := hH
  rw [← eσ21] at hH
  have hGσ21 : RG σ21 := by rw [eσ21]; exact hGσ20.pI (by unfold rng; omega)
  have hYσ21 : TY σ21 := by rw [eσ21]; exact hYσ20.pI
  have xσ21 : Ext σ20 σ21 := by rw [eσ21]; exact Ext.pI
  have hc : CB n0 s0 σ21 := by rw [eσ21]; exact hc
  rw [show gc σ20 = gc σ21 by rw [eσ21]; try rfl, show gs σ20 = gs σ21 by rw [eσ21]; try rfl]
  exact hQ _ _ _ _ _ dX2_lay_37 hH hc h hGσ21 hYσ21 (((((((hE.trans xσ15).trans xσ16).trans xσ17).trans xσ18).trans xσ19).trans xσ20).trans xσ21)
theorem ok_X2_lay (hl0 : l.stackTraces = false) (hT : TyC cA tys) {Q : Sg → Unit → Prop} {X : Sg → String → Prop} (σ : Sg) (th : Nat) (v1 : Int) (v2 : Int) (v3 : Int) (g1 : rng v1) (g2 : rng v2) (g3 : rng v3) (hth : kO σ th 2) (hG : RG σ) (hY : TY σ) (h : wp_X2_lay th v1 v2 v3 σ Q X) : Ok l D cA tys A yX2_lay (.code yX2_lay cX2_lay 4 none) 0 0 [.ref th, .int (i32 v1), .int (i32 v2), .int (i32 v3)] σ (QcV σ Q) (QxC σ X) := by
  unfold wp_X2_lay at h
  exact oc_V hl0 (by decide) (by exact Nat.le_of_ble_eq_true rfl) hT (fun p e R s m args below meth c K hQ hX hTh hin9 H locs ls hH hl hc => a_X2_lay_0 K hQ hX hTh σ v1 v2 v3 g1 g2 g3 h hG hY (Ext.rfl' σ) hth H locs ls hH (lv_sub (l' := [(0, .ref th), (1, .int (i32 v1)), (2, .int (i32 v2)), (3, .int (i32 v3))]) hl [0, 1, 2, 3] rfl) hc)
theorem dX9_addChannel_0 : decode cX9_addChannel 0 = .ok (.aload_n 0, 1) := by decide +kernel
theorem dX9_addChannel_1 : decode cX9_addChannel 1 = .ok (.getfield 81, 3) := by decide +kernel
theorem dX9_addChannel_4 : decode cX9_addChannel 4 = .ok (.sipush 512, 3) := by decide +kernel
theorem dX9_addChannel_7 : decode cX9_addChannel 7 = .ok (.if_icmp .lt 4, 3) := by decide +kernel
theorem dX9_addChannel_10 : decode cX9_addChannel 10 = .ok (.return_, 1) := by decide +kernel
theorem dX9_addChannel_11 : decode cX9_addChannel 11 = .ok (.aload_n 0, 1) := by decide +kernel
theorem dX9_addChannel_12 : decode cX9_addChannel 12 = .ok (.getfield 26, 3) := by decide +kernel
theorem dX9_addChannel_15 : decode cX9_addChannel 15 = .ok (.aload_n 0, 1) := by decide +kernel
theorem dX9_addChannel_16 : decode cX9_addChannel 16 = .ok (.getfield 81, 3) := by decide +kernel
theorem dX9_addChannel_19 : decode cX9_addChannel 19 = .ok (.aaload, 1) := by decide +kernel
theorem dX9_addChannel_20 : decode cX9_addChannel 20 = .ok (.ifnonnull 19, 3) := by decide +kernel
theorem dX9_addChannel_23 : decode cX9_addChannel 23 = .ok (.aload_n 0, 1) := by decide +kernel
theorem dX9_addChannel_24 : decode cX9_addChannel 24 = .ok (.getfield 26, 3) := by decide +kernel
theorem dX9_addChannel_27 : decode cX9_addChannel 27 = .ok (.aload_n 0, 1) := by decide +kernel
theorem dX9_addChannel_28 : decode cX9_addChannel 28 = .ok (.getfield 81, 3) := by decide +kernel
theorem dX9_addChannel_31 : decode cX9_addChannel 31 = .ok (.new 24, 3) := by decide +kernel
theorem dX9_addChannel_34 : decode cX9_addChannel 34 = .ok (.dup, 1) := by decide +kernel
theorem dX9_addChannel_35 : decode cX9_addChannel 35 = .ok (.invokespecial 205, 3) := by decide +kernel
theorem dX9_addChannel_38 : decode cX9_addChannel 38 = .ok (.aastore, 1) := by decide +kernel
theorem dX9_addChannel_39 : decode cX9_addChannel 39 = .ok (.aload_n 0, 1) := by decide +kernel
theorem dX9_addChannel_40 : decode cX9_addChannel 40 = .ok (.getfield 26, 3) := by decide +kernel
theorem dX9_addChannel_43 : decode cX9_addChannel 43 = .ok (.aload_n 0, 1) := by decide +kernel
theorem dX9_addChannel_44 : decode cX9_addChannel 44 = .ok (.getfield 81, 3) := by decide +kernel
theorem dX9_addChannel_47 : decode cX9_addChannel 47 = .ok (.aaload, 1) := by decide +kernel
theorem dX9_addChannel_48 : decode cX9_addChannel 48 = .ok (.iload_n 1, 1) := by decide +kernel
theorem dX9_addChannel_49 : decode cX9_addChannel 49 = .ok (.iload_n 2, 1) := by decide +kernel
theorem dX9_addChannel_50 : decode cX9_addChannel 50 = .ok (.iload_n 3, 1) := by decide +kernel
theorem dX9_addChannel_51 : decode cX9_addChannel 51 = .ok (.invokevirtual 206, 3) := by decide +kernel
theorem dX9_addChannel_54 : decode cX9_addChannel 54 = .ok (.aload_n 0, 1) := by decide +kernel
theorem dX9_addChannel_55 : decode cX9_addChannel 55 = .ok (.getfield 20, 3) := by decide +kernel
theorem dX9_addChannel_58 : decode cX9_addChannel 58 = .ok (.iload_n 1, 1) := by decide +kernel
theorem dX9_addChannel_59 : decode cX9_addChannel 59 = .ok (.aaload, 1) := by decide +kernel
theorem dX9_addChannel_60 : decode cX9_addChannel 60 = .ok (.astore 4, 2) := by decide +kernel
theorem dX9_addChannel_62 : decode cX9_addChannel 62 = .ok (.aload 4, 2) := by decide +kernel
theorem dX9_addChannel_64 : decode cX9_addChannel 64 = .ok (.getfield 208, 3) := by decide +kernel
theorem dX9_addChannel_67 : decode cX9_addChannel 67 = .ok (.iconst (-1), 1) := by decide +kernel
theorem dX9_addChannel_68 : decode cX9_addChannel 68 = .ok (.if_icmp .ne 15, 3) := by decide +kernel
theorem dX9_addChannel_71 : decode cX9_addChannel 71 = .ok (.aload 4, 2) := by decide +kernel
theorem dX9_addChannel_73 : decode cX9_addChannel 73 = .ok (.aload_n 0, 1) := by decide +kernel
theorem dX9_addChannel_74 : decode cX9_addChannel 74 = .ok (.getfield 81, 3) := by decide +kernel
theorem dX9_addChannel_77 : decode cX9_addChannel 77 = .ok (.putfield 211, 3) := by decide +kernel
theorem dX9_addChannel_80 : decode cX9_addChannel 80 = .ok (.goto 20, 3) := by decide +kernel
theorem dX9_addChannel_83 : decode cX9_addChannel 83 = .ok (.aload_n 0, 1) := by decide +kernel
theorem dX9_addChannel_84 : decode cX9_addChannel 84 = .ok (.getfield 26, 3) := by decide +kernel
theorem dX9_addChannel_87 : decode cX9_addChannel 87 = .ok (.aload 4, 2) := by decide +kernel
theorem dX9_addChannel_89 : decode cX9_addChannel 89 = .ok (.getfield 208, 3) := by decide +kernel
theorem dX9_addChannel_92 : decode cX9_addChannel 92 = .ok (.aaload, 1) := by decide +kernel
theorem dX9_addChannel_93 : decode cX9_addChannel 93 = .ok (.aload_n 0, 1) := by decide +kernel
theorem dX9_addChannel_94 : decode cX9_addChannel 94 = .ok (.getfield 81, 3) := by decide +kernel
theorem dX9_addChannel_97 : decode cX9_addChannel 97 = .ok (.putfield 214, 3) := by decide +kernel
theorem dX9_addChannel_100 : decode cX9_addChannel 100 = .ok (.aload 4, 2) := by decide +kernel
theorem dX9_addChannel_102 : decode cX9_addChannel 102 = .ok (.aload_n 0, 1) := by decide +kernel
theorem dX9_addChannel_103 : decode cX9_addChannel 103 = .ok (.getfield 81, 3) := by decide +kernel
theorem dX9_addChannel_106 : decode cX9_addChannel 106 = .ok (.putfield 208, 3) := by decide +kernel
theorem dX9_addChannel_109 : decode cX9_addChannel 109 = .ok (.aload_n 0, 1) := by decide +kernel
theorem dX9_addChannel_110 : decode cX9_addChannel 110 = .ok (.dup, 1) := by decide +kernel
theorem dX9_addChannel_111 : decode cX9_addChannel 111 = .ok (.getfield 81, 3) := by decide +kernel
theorem dX9_addChannel_114 : decode cX9_addChannel 114 = .ok (.iconst 1, 1) := by decide +kernel
theorem dX9_addChannel_115 : decode cX9_addChannel 115 = .ok (.iadd, 1) := by decide +kernel
theorem dX9_addChannel_116 : decode cX9_addChannel 116 = .ok (.putfield 81, 3) := by decide +kernel
theorem dX9_addChannel_119 : decode cX9_addChannel 119 = .ok (.return_, 1) := by decide +kernel
set_option maxRecDepth 20000 in
theorem a_X9_addChannel_100 {Q : Sg → Unit → Prop} {X : Sg → String → Prop} {th : Nat} (K : MD l R p s m args c cX9_addChannel 5 RX9 D cA tys A n0 s0 3 52 []) (hQ : CQV p l e R s m args below meth c cX9_addChannel D cA A n0 s0 QM σi Q) (hX : CX p l e R s m args below meth c 5 D cA A n0 s0 QM σi X) (hTh : CT p l e R s m args below meth c cX9_addChannel 5 D cA A n0 s0 QM σi RX9 X) : ∀ (σ : Sg) (v4 : Option Nat) (g4 : tyV σ 10 v4), w_X9_addChannel_100 th Q X σ v4 → RG σ → TY σ → Ext σi σ → kO σ th 9 → JJ p l e R s m args below meth c 5 D cA A n0 s0 QM σ 100 [(0, .ref th), (4, va_rf v4)] [] := by
  intro σ v4 g4 h hGσ hYσ hE hth H locs ls hH hl hc
  have B := K.1
  have hl9 := K.2.2.2.2.2.2
  unfold w_X9_addChannel_100 at h
  refine lv_aloadQ B.1 B.2.1 dX9_addChannel_100 (lv_at hl 1 rfl) ?_
  refine lv_aload_n B.1 B.2.1 dX9_addChannel_102 rfl (lv_at hl 0 rfl) ?_
  refine f_geti B hH hth (by decide) rfl wu_X9 11 (by decide) wf_X9_81 rfl rfl dX9_addChannel_103 ?_
  obtain ⟨a41, ea41, h⟩ := h
  have ka41 : kO σ a41 10 := g4 a41 ea41
  have h := h ka41
  obtain ⟨σ42, eσ42⟩ : ∃ z, z = pI σ a41 15 (gI σ th 11) := ⟨_, rfl⟩
  have h := h σ42 eσ42
  refine W.eq (g2 := F0 m 106 ls [.int (i32 (gI σ th 11)), .ref a41]) (by rw [ea41]; rfl) ?_
  refine f_puti B hH ka41 (by decide) rfl wu_X10 tyX10 tyX10_ok nmX10 15 (by decide) wf_X9_208 rfl (ty := .int) rfl rfl rfl rfl rfl dX9_addChannel_106 (fun H locs hH => ?_)
  have hH : Hd D cA A s (pI σ a41 15 (gI σ th 11)) H locs := hH
  rw [← eσ42] at hH
  have hGσ42 : RG σ42 := by rw [eσ42]; exact hGσ.pI (hGσ _ _)
  have hYσ42 : TY σ42 := by rw [eσ42]; exact hYσ.pI
  have xσ42 : Ext σ σ42 := by rw [eσ42]; exact Ext.pI
  have hc : CB n0 s0 σ42 := by rw [eσ42]; exact hc
  rw [show gc σ = gc σ42 by rw [eσ42]; try rfl, show gs σ = gs σ42 by rw [eσ42]; try rfl]
  refine lv_aload_n B.1 B.2.1 dX9_addChannel_109 rfl (lv_at hl 0 rfl) ?_
  refine lv_dup B.1 B.2.1 dX9_addChannel_110 rfl ?_
  refine f_geti B hH (hth.up xσ42) (by decide) rfl wu_X9 11 (by decide) wf_X9_81 rfl rfl dX9_addChannel_111 ?_
  refine lv_iconst (v := i32 1) B.1 B.2.1 dX9_addChannel_114 (by decide) ?_
  obtain ⟨q1, h⟩ := h
  refine lv_iadd B.1 B.2.1 dX9_addChannel_115 ?_
  rw [i32_add]
  obtain ⟨σ43, eσ43⟩ : ∃ z, z = pI σ42 th 11 (gI σ42 th 11 + 1) := ⟨_, rfl⟩
  have h := h σ43 eσ43
  refine f_puti B hH (hth.up xσ42) (by decide) rfl wu_X9 tyX9 tyX9_ok nmX9 11 (by decide) wf_X9_81 rfl (ty := .int) rfl rfl rfl rfl rfl dX9_addChannel_116 (fun H locs hH => ?_)
  have hH : Hd D cA A s (pI σ42 th 11 (gI σ42 th 11 + 1)) H locs := hH
  rw [← eσ43] at hH
  have hGσ43 : RG σ43 := by rw [eσ43]; exact hGσ42.pI q1
  have hYσ43 : TY σ43 := by rw [eσ43]; exact hYσ42.pI
  have xσ43 : Ext σ42 σ43 := by rw [eσ43]; exact Ext.pI
  have hc : CB n0 s0 σ43 := by rw [eσ43]; exact hc
  rw [show gc σ42 = gc σ43 by rw [eσ43]; try rfl, show gs σ42 = gs σ43 by rw [eσ43]; try rfl]
  exact hQ _ _ _ _ _ dX9_addChannel_119 hH hc h hGσ43 hYσ43 ((hE.trans xσ42).trans xσ43)
set_option maxRecDepth 20000 in
theorem a_X9_addChannel_83 {Q : Sg → Unit → Prop} {X : Sg → String → Prop} {th : Nat} (K : MD l R p s m args c cX9_addChannel 5 RX9 D cA tys A n0 s0 3 52 []) (hQ : CQV p l e R s m args below meth c cX9_addChannel D cA A n0 s0 QM σi Q) (hX : CX p l e R s m args below meth c 5 D cA A n0 s0 QM σi X) (hTh : CT p l e R s m args below meth c cX9_addChannel 5 D cA A n0 s0 QM σi RX9 X) : ∀ (σ : Sg) (v4 : Option Nat) (g4 : tyV σ 10 v4), w_X9_addChannel_83 th Q X σ v4 → RG σ → TY σ → Ext σi σ → kO σ th 9 → JJ p l e R s m args below meth c 5 D cA A n0 s0 QM σ 83 [(0, .ref th), (4, va_rf v4)] [] := by
  intro σ v4 g4 h hGσ hYσ hE hth H locs ls hH hl hc
  have B := K.1
  have hl9 := K.2.2.2.2.2.2
  unfold w_X9_addChannel_83 at h
  refine lv_aload_n B.1 B.2.1 dX9_addChannel_83 rfl (lv_at hl 0 rfl) ?_
  refine f_getp B hH hth (by decide) rfl wu_X9 4 (by decide) wf_X9_26 rfl rfl dX9_addChannel_84 ?_
  refine lv_aloadQ B.1 B.2.1 dX9_addChannel_87 (lv_at hl 1 rfl) ?_
  obtain ⟨a44, ea44, h⟩ := h
  have ka44 : kO σ a44 10 := g4 a44 ea44
  have h := h ka44
  refine W.eq (g2 := F0 m 89 ls [.ref a44, va_rf (gP σ th 4)]) (by rw [ea44]; rfl) ?_
  refine f_geti B hH ka44 (by decide) rfl wu_X10 15 (by decide) wf_X9_208 rfl rfl dX9_addChannel_89 ?_
  obtain ⟨a45, ea45, h⟩ := h
  have ka45 : kO σ a45 112 := (hYσ.get hth (by decide)) a45 ea45
  have h := h ka45
  obtain ⟨q1, h⟩ := h
  refine W.eq (g2 := F0 m 92 ls [.int (i32 (gI σ a44 15)), .ref a45]) (by rw [ea45]; rfl) ?_
  refine y_aald B hH (t0 := 5) ka45 (by decide) K.2.1.2.2.1 q1 (hYσ.2 _) dX9_addChannel_92 ?_
  refine lv_aload_n B.1 B.2.1 dX9_addChannel_93 rfl (lv_at hl 0 rfl) ?_
  refine f_geti B hH hth (by decide) rfl wu_X9 11 (by decide) wf_X9_81 rfl rfl dX9_addChannel_94 ?_
  obtain ⟨a46, ea46, h⟩ := h
  have ka46 : kO σ a46 2 := (hYσ.get ka45 rfl) a46 ea46
  have h := h ka46
  obtain ⟨σ47, eσ47⟩ : ∃ z, z = pI σ a46 7 (gI σ th 11) := ⟨_, rfl⟩
  have h := h σ47 eσ47
  refine W.eq (g2 := F0 m 97 ls [.int (i32 (gI σ th 11)), .ref a46]) (by rw [ea46]; rfl) ?_
  refine f_puti B hH ka46 (by decide) rfl wu_X2 tyX2 tyX2_ok nmX2 7 (by decide) wf_X9_214 rfl (ty := .int) rfl rfl rfl rfl rfl dX9_addChannel_97 (fun H locs hH => ?_)
  have hH : Hd D cA A s (pI σ a46 7 (gI σ th 11)) H locs := hH
  rw [← eσ47] at hH
  have hGσ47 : RG σ47 := by rw [eσ47]; exact hGσ.pI (hGσ _ _)
  have hYσ47 : TY σ47 := by rw [eσ47]; exact hYσ.pI
  have xσ47 : Ext σ σ47 := by rw [eσ47]; exact Ext.pI
  have hc : CB n0 s0 σ47 := by rw [eσ47]; exact hc
  rw [show gc σ = gc σ47 by rw [eσ47]; try rfl, show gs σ = gs σ47 by rw [eσ47]; try rfl]
  exact a_X9_addChannel_100 K hQ hX hTh _ _ (g4.up xσ47) h hGσ47 hYσ47 (hE.trans xσ47) (hth.up xσ47) _ _ _ hH (lv_sub (l' := [(0, .ref th), (4, va_rf v4)]) hl [0, 1] rfl) hc
set_option maxRecDepth 20000 in
theorem a_X9_addChannel_71 {Q : Sg → Unit → Prop} {X : Sg → String → Prop} {th : Nat} (K : MD l R p s m args c cX9_addChannel 5 RX9 D cA tys A n0 s0 3 52 []) (hQ : CQV p l e R s m args below meth c cX9_addChannel D cA A n0 s0 QM σi Q) (hX : CX p l e R s m args below meth c 5 D cA A n0 s0 QM σi X) (hTh : CT p l e R s m args below meth c cX9_addChannel 5 D cA A n0 s0 QM σi RX9 X) : ∀ (σ : Sg) (v4 : Option Nat) (g4 : tyV σ 10 v4), w_X9_addChannel_71 th Q X σ v4 → RG σ → TY σ → Ext σi σ → kO σ th 9 → JJ p l e R s m args below meth c 5 D cA A n0 s0 QM σ 71 [(0, .ref th), (4, va_rf v4)] [] := by
  intro σ v4 g4 h hGσ hYσ hE hth H locs ls hH hl hc
  have B := K.1
  have hl9 := K.2.2.2.2.2.2
  unfold w_X9_addChannel_71 at h
  refine lv_aloadQ B.1 B.2.1 dX9_addChannel_71 (lv_at hl 1 rfl) ?_
  refine lv_aload_n B.1 B.2.1 dX9_addChannel_73 rfl (lv_at hl 0 rfl) ?_
  refine f_geti B hH hth (by decide) rfl wu_X9 11 (by decide) wf_X9_81 rfl rfl dX9_addChannel_74 ?_
  obtain ⟨a48, ea48, h⟩ := h
  have ka48 : kO σ a48 10 := g4 a48 ea48
  have h := h ka48
  obtain ⟨σ49, eσ49⟩ : ∃ z, z = pI σ a48 14 (gI σ th 11) := ⟨_, rfl⟩
  have h := h σ49 eσ49
  refine W.eq (g2 := F0 m 77 ls [.int (i32 (gI σ th 11)), .ref a48]) (by rw [ea48]; rfl) ?_
  refine f_puti B hH ka48 (by decide) rfl wu_X10 tyX10 tyX10_ok nmX10 14 (by decide) wf_X9_211 rfl (ty := .int) rfl rfl rfl rfl rfl dX9_addChannel_77 (fun H locs hH => ?_)
  have hH : Hd D cA A s (pI σ a48 14 (gI σ th 11)) H locs := hH
  rw [← eσ49] at hH
  have hGσ49 : RG σ49 := by rw [eσ49]; exact hGσ.pI (hGσ _ _)
  have hYσ49 : TY σ49 := by rw [eσ49]; exact hYσ.pI
  have xσ49 : Ext σ σ49 := by rw [eσ49]; exact Ext.pI
  have hc : CB n0 s0 σ49 := by rw [eσ49]; exact hc
  rw [show gc σ = gc σ49 by rw [eσ49]; try rfl, show gs σ = gs σ49 by rw [eσ49]; try rfl]
  refine lv_goto (tgt := 100) B.1 B.2.1 dX9_addChannel_80 (by decide) ?_
  exact a_X9_addChannel_100 K hQ hX hTh _ _ (g4.up xσ49) h hGσ49 hYσ49 (hE.trans xσ49) (hth.up xσ49) _ _ _ hH (lv_sub (l' := [(0, .ref th), (4, va_rf v4)]) hl [0, 1] rfl) hc
set_option maxRecDepth 20000 in
theorem a_X9_addChannel_39 {Q : Sg → Unit → Prop} {X : Sg → String → Prop} {th : Nat} (K : MD l R p s m args c cX9_addChannel 5 RX9 D cA tys A n0 s0 3 52 []) (hQ : CQV p l e R s m args below meth c cX9_addChannel D cA A n0 s0 QM σi Q) (hX : CX p l e R s m args below meth c 5 D cA A n0 s0 QM σi X) (hTh : CT p l e R s m args below meth c cX9_addChannel 5 D cA A n0 s0 QM σi RX9 X) : ∀ (σ : Sg) (v1 : Int) (v2 : Int) (v3 : Int) (g1 : rng v1) (g2 : rng v2) (g3 : rng v3), w_X9_addChannel_39 th Q X σ v1 v2 v3 → RG σ → TY σ → Ext σi σ → kO σ th 9 → JJ p l e R s m args below meth c 5 D cA A n0 s0 QM σ 39 [(0, .ref th), (1, .int (i32 v1)), (2, .int (i32 v2)), (3, .int (i32 v3))] [] := by
  intro σ v1 v2 v3 g1 g2 g3 h hGσ hYσ hE hth H locs ls hH hl hc
  have B := K.1
  have hl9 := K.2.2.2.2.2.2
  unfold w_X9_addChannel_39 at h
  refine lv_aload_n B.1 B.2.1 dX9_addChannel_39 rfl (lv_at hl 0 rfl) ?_
  refine f_getp B hH hth (by decide) rfl wu_X9 4 (by decide) wf_X9_26 rfl rfl dX9_addChannel_40 ?_
  refine lv_aload_n B.1 B.2.1 dX9_addChannel_43 rfl (lv_at hl 0 rfl) ?_
  refine f_geti B hH hth (by decide) rfl wu_X9 11 (by decide) wf_X9_81 rfl rfl dX9_addChannel_44 ?_
  obtain ⟨a50, ea50, h⟩ := h
  have ka50 : kO σ a50 112 := (hYσ.get hth (by decide)) a50 ea50
  have h := h ka50
  obtain ⟨q1, h⟩ := h
  refine W.eq (g2 := F0 m 47 ls [.int (i32 (gI σ th 11)), .ref a50]) (by rw [ea50]; rfl) ?_
  refine y_aald B hH (t0 := 5) ka50 (by decide) K.2.1.2.2.1 q1 (hYσ.2 _) dX9_addChannel_47 ?_
  refine lv_iload_n B.1 B.2.1 dX9_addChannel_48 rfl (lv_at hl 1 rfl) ?_
  refine lv_iload_n B.1 B.2.1 dX9_addChannel_49 rfl (lv_at hl 2 rfl) ?_
  refine lv_iload_n B.1 B.2.1 dX9_addChannel_50 rfl (lv_at hl 3 rfl) ?_
  obtain ⟨a52, ea52, h⟩ := h
  have ka52 : kO σ a52 2 := (hYσ.get ka50 rfl) a52 ea52
  have h := h ka52
  refine W.eq (g2 := F0 m 51 ls [.int (i32 v3), .int (i32 v2), .int (i32 v1), .ref a52]) (by rw [ea52]; rfl) ?_
  refine c_V B hH hl hc K.2.2.1 (C := RX2) (T := TX2) (N := 8) (ci := 2) (As := [.int (i32 v1), .int (i32 v2), .int (i32 v3)]) (ok_X2_lay hl9 K.2.1 σ a52 v1 v2 v3 g1 g2 g3 ka52 hGσ hYσ h) wc_X9_206 3 hd_X2_lay ⟨Nat.le_trans (Nat.le_of_ble_eq_true rfl) K.2.2.2.1, Nat.le_trans (Nat.le_of_ble_eq_true rfl) K.2.2.2.2.1⟩ ka52.1 ka52.2 (by decide) rfl rfl (rest := []) rfl (Nat.le_of_ble_eq_true rfl) dX9_addChannel_51 (fun σ51 w hq => ?_) (fun σ9 E9 hx9 => hX σ9 E9 _ _ _ (tb_out K.2.2.2.2.2.1 rfl) hx9.1 hx9.2.1 hx9.2.2.1 (hE.trans hx9.2.2.2))
  obtain ⟨rfl, h, hGσ51, hYσ51, xσ51⟩ := hq
  have h := h xσ51
  intro H locs ls hH hl hc
  refine W.eq (g2 := F0 m 54 ls []) (rfl) ?_
  try dsimp only at h
  refine lv_aload_n B.1 B.2.1 dX9_addChannel_54 rfl (lv_at hl 0 rfl) ?_
  refine f_getp B hH (hth.up xσ51) (by decide) rfl wu_X9 3 (by decide) wf_X9_20 rfl rfl dX9_addChannel_55 ?_
  refine lv_iload_n B.1 B.2.1 dX9_addChannel_58 rfl (lv_at hl 1 rfl) ?_
  obtain ⟨a53, ea53, h⟩ := h
  have ka53 : kO σ51 a53 120 := (hYσ51.get (hth.up xσ51) (by decide)) a53 ea53
  have h := h ka53
  obtain ⟨q2, h⟩ := h
  refine W.eq (g2 := F0 m 59 ls [.int (i32 v1), .ref a53]) (by rw [ea53]; rfl) ?_
  refine y_aald B hH (t0 := 7) ka53 (by decide) K.2.1.2.2.2.2.1 q2 (hYσ51.2 _) dX9_addChannel_59 ?_
  refine lv_astoreQ (lv' := [(4, va_rf (gP σ51 a53 v1.toNat)), (0, .ref th), (1, .int (i32 v1)), (2, .int (i32 v2)), (3, .int (i32 v3))]) B.1 B.2.1 dX9_addChannel_60 hl (by decide) rfl (fun ls hl => ?_)
  refine lv_aloadQ B.1 B.2.1 dX9_addChannel_62 (lv_at hl 0 rfl) ?_
  obtain ⟨a54, ea54, h⟩ := h
  have ka54 : kO σ51 a54 10 := (hYσ51.get ka53 rfl) a54 ea54
  have h := h ka54
  refine W.eq (g2 := F0 m 64 ls [.ref a54]) (by rw [ea54]; rfl) ?_
  refine f_geti B hH ka54 (by decide) rfl wu_X10 15 (by decide) wf_X9_208 rfl rfl dX9_addChannel_64 ?_
  refine lv_iconst (v := i32 (-1)) B.1 B.2.1 dX9_addChannel_67 (by decide) ?_
  refine lv_icmp_ne (tgt := 83) B.1 B.2.1 dX9_addChannel_68 (by decide) (fun h9 => ?_) (fun h9 => ?_)
  · rw [if_pos (fun q => h9 ((i32_eq (hGσ51 _ _) (by unfold rng; omega)).mpr q))] at h
    exact a_X9_addChannel_83 K hQ hX hTh _ _ (hYσ51.get ka53 rfl) h hGσ51 hYσ51 (hE.trans xσ51) (hth.up xσ51) _ _ _ hH (lv_sub (l' := [(0, .ref th), (4, va_rf (gP σ51 a53 v1.toNat))]) hl [1, 0] rfl) hc
  · rw [if_neg (fun q => q ((i32_eq (hGσ51 _ _) (by unfold rng; omega)).mp h9))] at h
    exact a_X9_addChannel_71 K hQ hX hTh _ _ (hYσ51.get ka53 rfl) h hGσ51 hYσ51 (hE.trans xσ51) (hth.up xσ51) _ _ _ hH (lv_sub (l' := [(0, .ref th), (4, va_rf (gP σ51 a53 v1.toNat))]) hl [1, 0] rfl) hc
set_option maxRecDepth 20000 in
theorem a_X9_addChannel_23 {Q : Sg → Unit → Prop} {X : Sg → String → Prop} {th : Nat} (K : MD l R p s m args c cX9_addChannel 5 RX9 D cA tys A n0 s0 3 52 []) (hQ : CQV p l e R s m args below meth c cX9_addChannel D cA A n0 s0 QM σi Q) (hX : CX p l e R s m args below meth c 5 D cA A n0 s0 QM σi X) (hTh : CT p l e R s m args below meth c cX9_addChannel 5 D cA A n0 s0 QM σi RX9 X) : ∀ (σ : Sg) (v1 : Int) (v2 : Int) (v3 : Int) (g1 : rng v1) (g2 : rng v2) (g3 : rng v3), w_X9_addChannel_23 th Q X σ v1 v2 v3 → RG σ → TY σ → Ext σi σ → kO σ th 9 → JJ p l e R s m args below meth c 5 D cA A n0 s0 QM σ 23 [(0, .ref th), (1, .int (i32 v1)), (2, .int (i32 v2)), (3, .int (i32 v3))] [] := by
  intro σ v1 v2 v3 g1 g2 g3 h hGσ hYσ hE hth H locs ls hH hl hc
  have B := K.1
  have hl9 := K.2.2.2.2.2.2
  unfold w_X9_addChannel_23 at h
  refine lv_aload_n B.1 B.2.1 dX9_addChannel_23 rfl (lv_at hl 0 rfl) ?_
  refine f_getp B hH hth (by decide) rfl wu_X9 4 (by decide) wf_X9_26 rfl rfl dX9_addChannel_24 ?_
  refine lv_aload_n B.1 B.2.1 dX9_addChannel_27 rfl (lv_at hl 0 rfl) ?_
  refine f_geti B hH hth (by decide) rfl wu_X9 11 (by decide) wf_X9_81 rfl rfl dX9_addChannel_28 ?_
  obtain ⟨zq55, h⟩ := h
  refine c_new B hH hc K.2.2.1 (ci := 2) rfl (by decide) wu_X2 tyX2 tyX2_ok (by decide) wn_X9_24 zq55 dX9_addChannel_31 (fun q55 H hq55 hH hc => ?_)
  obtain ⟨σ56, eσ56⟩ : ∃ z, z = new1 σ q55 2 8 := ⟨_, rfl⟩
  have h := h q55 hq55 σ56 eσ56
  rw [← eσ56] at hH hc ⊢
  have hGσ56 : RG σ56 := by rw [eσ56]; exact hGσ.new1
  have hYσ56 : TY σ56 := by rw [eσ56]; exact hYσ.new1 hq55
  have xσ56 : Ext σ σ56 := by rw [eσ56]; exact Ext.new1 hq55
  have kq55 : kO σ56 q55 2 := by rw [eσ56]; exact kO.new1
  refine lv_dup B.1 B.2.1 dX9_addChannel_34 rfl ?_
  refine W.eq (g2 := F0 m 35 ls [.ref q55, .ref q55, .int (i32 (gI σ th 11)), va_rf (gP σ th 4)]) (rfl) ?_
  refine c_IN B hH hl hc K.2.2.1 (As := []) (ok_X2_init hl9 K.2.1 σ56 q55 kq55 hGσ56 hYσ56 (nx_X2_init h)) (fun _ _ h9 => h9.1) (List.mem_of_getElem? (l := nmL) (i := 14) rfl) rfl wq_X2_init 0 hd_X2_init ⟨Nat.le_trans (Nat.le_of_ble_eq_true rfl) K.2.2.2.1, Nat.le_trans (Nat.le_of_ble_eq_true rfl) K.2.2.2.2.1⟩ rfl (rest := [.ref q55, .int (i32 (gI σ th 11)), va_rf (gP σ th 4)]) rfl (by simp only [List.map_cons, List.map_nil, rf_cat]; exact Nat.le_of_ble_eq_true rfl) dX9_addChannel_35 (fun σ57 w hq => ?_)
  obtain ⟨rfl, h, hGσ57, hYσ57, xσ57⟩ := hq
  have h := h xσ57
  intro H locs ls hH hl hc
  refine W.eq (g2 := F0 m 38 ls [.ref q55, .int (i32 (gI σ th 11)), va_rf (gP σ th 4)]) (rfl) ?_
  try dsimp only at h
  obtain ⟨a58, ea58, h⟩ := h
  have ka58 : kO σ57 a58 112 := ((hYσ.get hth (by decide)).up (xσ56.trans xσ57)) a58 ea58
  have h := h ka58
  obtain ⟨q1, h⟩ := h
  obtain ⟨σ59, eσ59⟩ : ∃ z, z = pP σ57 a58 (gI σ th 11).toNat (some q55) := ⟨_, rfl⟩
  have h := h σ59 eσ59
  refine W.eq (g2 := F0 m 38 ls [.ref q55, .int (i32 (gI σ th 11)), .ref a58]) (by rw [ea58]; rfl) ?_
  refine h_aast B hH ka58.1 (by decide) ka58.2 5 K.2.1.2.2.1 (kq55.up xσ57).1 (kq55.up xσ57).2 (by decide) rfl q1.1 q1.2 (hYσ57.2 _) dX9_addChannel_38 (fun H locs hH => ?_)
  have hH : Hd D cA A s (pP σ57 a58 (gI σ th 11).toNat (some q55)) H locs := hH
  rw [← eσ59] at hH
  have hGσ59 : RG σ59 := by rw [eσ59]; exact hGσ57.pP
  have hYσ59 : TY σ59 := by rw [eσ59]; exact hYσ57.pP ka58 (d := 2) rfl (tyS1 (kq55.up xσ57))
  have xσ59 : Ext σ57 σ59 := by rw [eσ59]; exact Ext.pP
  have hc : CB n0 s0 σ59 := by rw [eσ59]; exact hc
  rw [show gc σ57 = gc σ59 by rw [eσ59]; try rfl, show gs σ57 = gs σ59 by rw [eσ59]; try rfl]
  exact a_X9_addChannel_39 K hQ hX hTh _ _ _ _ g1 g2 g3 h hGσ59 hYσ59 (((hE.trans xσ56).trans xσ57).trans xσ59) (hth.up (xσ56.trans (xσ57.trans xσ59))) _ _ _ hH (lv_sub (l' := [(0, .ref th), (1, .int (i32 v1)), (2, .int (i32 v2)), (3, .int (i32 v3))]) hl [0, 1, 2, 3] rfl) hc
set_option maxRecDepth 20000 in
theorem a_X9_addChannel_11 {Q : Sg → Unit → Prop} {X : Sg → String → Prop} {th : Nat} (K : MD l R p s m args c cX9_addChannel 5 RX9 D cA tys A n0 s0 3 52 []) (hQ : CQV p l e R s m args below meth c cX9_addChannel D cA A n0 s0 QM σi Q) (hX : CX p l e R s m args below meth c 5 D cA A n0 s0 QM σi X) (hTh : CT p l e R s m args below meth c cX9_addChannel 5 D cA A n0 s0 QM σi RX9 X) : ∀ (σ : Sg) (v1 : Int) (v2 : Int) (v3 : Int) (g1 : rng v1) (g2 : rng v2) (g3 : rng v3), w_X9_addChannel_11 th Q X σ v1 v2 v3 → RG σ → TY σ → Ext σi σ → kO σ th 9 → JJ p l e R s m args below meth c 5 D cA A n0 s0 QM σ 11 [(0, .ref th), (1, .int (i32 v1)), (2, .int (i32 v2)), (3, .int (i32 v3))] [] := by
  intro σ v1 v2 v3 g1 g2 g3 h hGσ hYσ hE hth H locs ls hH hl hc
  have B := K.1
  have hl9 := K.2.2.2.2.2.2
  unfold w_X9_addChannel_11 at h
  refine lv_aload_n B.1 B.2.1 dX9_addChannel_11 rfl (lv_at hl 0 rfl) ?_
  refine f_getp B hH hth (by decide) rfl wu_X9 4 (by decide) wf_X9_26 rfl rfl dX9_addChannel_12 ?_
  refine lv_aload_n B.1 B.2.1 dX9_addChannel_15 rfl (lv_at hl 0 rfl) ?_
  refine f_geti B hH hth (by decide) rfl wu_X9 11 (by decide) wf_X9_81 rfl rfl dX9_addChannel_16 ?_
  obtain ⟨a60, ea60, h⟩ := h
  have ka60 : kO σ a60 112 := (hYσ.get hth (by decide)) a60 ea60
  have h := h ka60
  obtain ⟨q1, h⟩ := h
  refine W.eq (g2 := F0 m 19 ls [.int (i32 (gI σ th 11)), .ref a60]) (by rw [ea60]; rfl) ?_
  refine y_aald B hH (t0 := 5) ka60 (by decide) K.2.1.2.2.1 q1 (hYσ.2 _) dX9_addChannel_19 ?_
  refine lv_ifnonnullQ (tgt := 39) B.1 B.2.1 dX9_addChannel_20 (by decide) (fun h9 => ?_) (fun h9 => ?_)
  · rw [if_pos (h9)] at h
    exact a_X9_addChannel_39 K hQ hX hTh _ _ _ _ g1 g2 g3 h hGσ hYσ hE hth _ _ _ hH (lv_sub (l' := [(0, .ref th), (1, .int (i32 v1)), (2, .int (i32 v2)), (3, .int (i32 v3))]) hl [0, 1, 2, 3] rfl) hc
  · rw [if_neg (h9)] at h
    exact a_X9_addChannel_23 K hQ hX hTh _ _ _ _ g1 g2 g3 h hGσ hYσ hE hth _ _ _ hH (lv_sub (l' := [(0, .ref th), (1, .int (i32 v1)), (2, .int (i32 v2)), (3, .int (i32 v3))]) hl [0, 1, 2, 3] rfl) hc
set_option maxRecDepth 20000 in
theorem a_X9_addChannel_10 {Q : Sg → Unit → Prop} {X : Sg → String → Prop} {th : Nat} (K : MD l R p s m args c cX9_addChannel 5 RX9 D cA tys A n0 s0 3 52 []) (hQ : CQV p l e R s m args below meth c cX9_addChannel D cA A n0 s0 QM σi Q) (hX : CX p l e R s m args below meth c 5 D cA A n0 s0 QM σi X) (hTh : CT p l e R s m args below meth c cX9_addChannel 5 D cA A n0 s0 QM σi RX9 X) : ∀ (σ : Sg), w_X9_addChannel_10 th Q X σ → RG σ → TY σ → Ext σi σ → kO σ th 9 → JJ p l e R s m args below meth c 5 D cA A n0 s0 QM σ 10 [(0, .ref th)] [] := by
  intro σ h hGσ hYσ hE hth H locs ls hH hl hc
  have B := K.1
  have hl9 := K.2.2.2.2.2.2
  unfold w_X9_addChannel_10 at h
  exact hQ _ _ _ _ _ dX9_addChannel_10 hH hc h hGσ hYσ hE
set_option maxRecDepth 20000 in
theorem a_X9_addChannel_0 {Q : Sg → Unit → Prop} {X : Sg → String → Prop} {th : Nat} (K : MD l R p s m args c cX9_addChannel 5 RX9 D cA tys A n0 s0 3 52 []) (hQ : CQV p l e R s m args below meth c cX9_addChannel D cA A n0 s0 QM σi Q) (hX : CX p l e R s m args below meth c 5 D cA A n0 s0 QM σi X) (hTh : CT p l e R s m args below meth c cX9_addChannel 5 D cA A n0 s0 QM σi RX9 X) : ∀ (σ : Sg) (v1 : Int) (v2 : Int) (v3 : Int) (g1 : rng v1) (g2 : rng v2) (g3 : rng v3), w_X9_addChannel_0 th Q X σ v1 v2 v3 → RG σ → TY σ → Ext σi σ → kO σ th 9 → JJ p l e R s m args below meth c 5 D cA A n0 s0 QM σ 0 [(0, .ref th), (1, .int (i32 v1)), (2, .int (i32 v2)), (3, .int (i32 v3))] [] := by
  intro σ v1 v2 v3 g1 g2 g3 h hGσ hYσ hE hth H locs ls hH hl hc
  have B := K.1
  have hl9 := K.2.2.2.2.2.2
  unfold w_X9_addChannel_0 at h
  refine lv_aload_n B.1 B.2.1 dX9_addChannel_0 rfl (lv_at hl 0 rfl) ?_
  refine f_geti B hH hth (by decide) rfl wu_X9 11 (by decide) wf_X9_81 rfl rfl dX9_addChannel_1 ?_
  refine lv_sipush (v := i32 512) B.1 B.2.1 dX9_addChannel_4 (by decide) ?_
  refine lv_icmp_lt (tgt := 11) B.1 B.2.1 dX9_addChannel_7 (by decide) (fun h9 => ?_) (fun h9 => ?_)
  · rw [if_pos ((i32_lt (hGσ _ _) (by unfold rng; omega)).mp h9)] at h
    exact a_X9_addChannel_11 K hQ hX hTh _ _ _ _ g1 g2 g3 h hGσ hYσ hE hth _ _ _ hH (lv_sub (l' := [(0, .ref th), (1, .int (i32 v1)), (2, .int (i32 v2)), (3, .int (i32 v3))]) hl [0, 1, 2, 3] rfl) hc
  · rw [if_neg (fun q => h9 ((i32_lt (hGσ _ _) (by unfold rng; omega)).mpr q))] at h
    exact a_X9_addChannel_10 K hQ hX hTh _ h hGσ hYσ hE hth _ _ _ hH (lv_sub (l' := [(0, .ref th)]) hl [0] rfl) hc
theorem ok_X9_addChannel (hl0 : l.stackTraces = false) (hT : TyC cA tys) {Q : Sg → Unit → Prop} {X : Sg → String → Prop} (σ : Sg) (th : Nat) (v1 : Int) (v2 : Int) (v3 : Int) (g1 : rng v1) (g2 : rng v2) (g3 : rng v3) (hth : kO σ th 9) (hG : RG σ) (hY : TY σ) (h : wp_X9_addChannel th v1 v2 v3 σ Q X) : Ok l D cA tys A yX9_addChannel (.code yX9_addChannel cX9_addChannel 5 none) 3 52 [.ref th, .int (i32 v1), .int (i32 v2), .int (i32 v3)] σ (QcV σ Q) (QxC σ X) := by
  unfold wp_X9_addChannel at h
  exact oc_V hl0 (by decide) (by exact Nat.le_of_ble_eq_true rfl) hT (fun p e R s m args below meth c K hQ hX hTh hin9 H locs ls hH hl hc => a_X9_addChannel_0 K hQ hX hTh σ v1 v2 v3 g1 g2 g3 h hG hY (Ext.rfl' σ) hth H locs ls hH (lv_sub (l' := [(0, .ref th), (1, .int (i32 v1)), (2, .int (i32 v2)), (3, .int (i32 v3))]) hl [0, 1, 2, 3] rfl) hc)
theorem dX9_connect_0 : decode cX9_connect 0 = .ok (.iload_n 3, 1) := by decide +kernel
theorem dX9_connect_1 : decode cX9_connect 1 = .ok (.iconst (-1), 1) := by decide +kernel
theorem dX9_connect_2 : decode cX9_connect 2 = .ok (.if_icmp .ne 4, 3) := by decide +kernel
theorem dX9_connect_5 : decode cX9_connect 5 = .ok (.return_, 1) := by decide +kernel
theorem dX9_connect_6 : decode cX9_connect 6 = .ok (.aload_n 0, 1) := by decide +kernel
theorem dX9_connect_7 : decode cX9_connect 7 = .ok (.getfield 100, 3) := by decide +kernel
theorem dX9_connect_10 : decode cX9_connect 10 = .ok (.getfield 160, 3) := by decide +kernel
theorem dX9_connect_13 : decode cX9_connect 13 = .ok (.aload_n 0, 1) := by decide +kernel
theorem dX9_connect_14 : decode cX9_connect 14 = .ok (.getfield 20, 3) := by decide +kernel
theorem dX9_connect_17 : decode cX9_connect 17 = .ok (.iload_n 1, 1) := by decide +kernel
theorem dX9_connect_18 : decode cX9_connect 18 = .ok (.aaload, 1) := by decide +kernel
theorem dX9_connect_19 : decode cX9_connect 19 = .ok (.getfield 181, 3) := by decide +kernel
theorem dX9_connect_22 : decode cX9_connect 22 = .ok (.aaload, 1) := by decide +kernel
theorem dX9_connect_23 : decode cX9_connect 23 = .ok (.getfield 164, 3) := by decide +kernel
theorem dX9_connect_26 : decode cX9_connect 26 = .ok (.istore 4, 2) := by decide +kernel
theorem dX9_connect_28 : decode cX9_connect 28 = .ok (.aload_n 0, 1) := by decide +kernel
theorem dX9_connect_29 : decode cX9_connect 29 = .ok (.getfield 30, 3) := by decide +kernel
theorem dX9_connect_32 : decode cX9_connect 32 = .ok (.iload_n 3, 1) := by decide +kernel
theorem dX9_connect_33 : decode cX9_connect 33 = .ok (.iconst 1, 1) := by decide +kernel
theorem dX9_connect_34 : decode cX9_connect 34 = .ok (.iadd, 1) := by decide +kernel
theorem dX9_connect_35 : decode cX9_connect 35 = .ok (.iaload, 1) := by decide +kernel
theorem dX9_connect_36 : decode cX9_connect 36 = .ok (.aload_n 0, 1) := by decide +kernel
theorem dX9_connect_37 : decode cX9_connect 37 = .ok (.getfield 30, 3) := by decide +kernel
theorem dX9_connect_40 : decode cX9_connect 40 = .ok (.iload_n 3, 1) := by decide +kernel
theorem dX9_connect_41 : decode cX9_connect 41 = .ok (.iaload, 1) := by decide +kernel
theorem dX9_connect_42 : decode cX9_connect 42 = .ok (.isub, 1) := by decide +kernel
theorem dX9_connect_43 : decode cX9_connect 43 = .ok (.istore 5, 2) := by decide +kernel
theorem dX9_connect_45 : decode cX9_connect 45 = .ok (.iload 4, 2) := by decide +kernel
theorem dX9_connect_47 : decode cX9_connect 47 = .ok (.invokestatic 196, 3) := by decide +kernel
theorem dX9_connect_50 : decode cX9_connect 50 = .ok (.ifCond .ne 17, 3) := by decide +kernel
theorem dX9_connect_53 : decode cX9_connect 53 = .ok (.iload 4, 2) := by decide +kernel
theorem dX9_connect_55 : decode cX9_connect 55 = .ok (.invokestatic 169, 3) := by decide +kernel
theorem dX9_connect_58 : decode cX9_connect 58 = .ok (.ifCond .ne 9, 3) := by decide +kernel
theorem dX9_connect_61 : decode cX9_connect 61 = .ok (.iload 5, 2) := by decide +kernel
theorem dX9_connect_63 : decode cX9_connect 63 = .ok (.iconst 1, 1) := by decide +kernel
theorem dX9_connect_64 : decode cX9_connect 64 = .ok (.if_icmp .ne 41, 3) := by decide +kernel
theorem dX9_connect_67 : decode cX9_connect 67 = .ok (.aload_n 0, 1) := by decide +kernel
theorem dX9_connect_68 : decode cX9_connect 68 = .ok (.getfield 30, 3) := by decide +kernel
theorem dX9_connect_71 : decode cX9_connect 71 = .ok (.iload_n 3, 1) := by decide +kernel
theorem dX9_connect_72 : decode cX9_connect 72 = .ok (.iaload, 1) := by decide +kernel
theorem dX9_connect_73 : decode cX9_connect 73 = .ok (.istore 6, 2) := by decide +kernel
theorem dX9_connect_75 : decode cX9_connect 75 = .ok (.iload 6, 2) := by decide +kernel
theorem dX9_connect_77 : decode cX9_connect 77 = .ok (.aload_n 0, 1) := by decide +kernel
theorem dX9_connect_78 : decode cX9_connect 78 = .ok (.getfield 30, 3) := by decide +kernel
theorem dX9_connect_81 : decode cX9_connect 81 = .ok (.iload_n 3, 1) := by decide +kernel
theorem dX9_connect_82 : decode cX9_connect 82 = .ok (.iconst 1, 1) := by decide +kernel
theorem dX9_connect_83 : decode cX9_connect 83 = .ok (.iadd, 1) := by decide +kernel
theorem dX9_connect_84 : decode cX9_connect 84 = .ok (.iaload, 1) := by decide +kernel
theorem dX9_connect_85 : decode cX9_connect 85 = .ok (.if_icmp .ge 17, 3) := by decide +kernel
theorem dX9_connect_88 : decode cX9_connect 88 = .ok (.aload_n 0, 1) := by decide +kernel
theorem dX9_connect_89 : decode cX9_connect 89 = .ok (.iload 6, 2) := by decide +kernel
theorem dX9_connect_91 : decode cX9_connect 91 = .ok (.iload_n 1, 1) := by decide +kernel
theorem dX9_connect_92 : decode cX9_connect 92 = .ok (.iload_n 2, 1) := by decide +kernel
theorem dX9_connect_93 : decode cX9_connect 93 = .ok (.invokevirtual 199, 3) := by decide +kernel
theorem dX9_connect_96 : decode cX9_connect 96 = .ok (.iinc 6 1, 3) := by decide +kernel
theorem dX9_connect_99 : decode cX9_connect 99 = .ok (.goto (-24), 3) := by decide +kernel
theorem dX9_connect_102 : decode cX9_connect 102 = .ok (.goto 25, 3) := by decide +kernel
theorem dX9_connect_105 : decode cX9_connect 105 = .ok (.aload_n 0, 1) := by decide +kernel
theorem dX9_connect_106 : decode cX9_connect 106 = .ok (.aload_n 0, 1) := by decide +kernel
theorem dX9_connect_107 : decode cX9_connect 107 = .ok (.getfield 30, 3) := by decide +kernel
theorem dX9_connect_110 : decode cX9_connect 110 = .ok (.iload_n 3, 1) := by decide +kernel
theorem dX9_connect_111 : decode cX9_connect 111 = .ok (.iaload, 1) := by decide +kernel
theorem dX9_connect_112 : decode cX9_connect 112 = .ok (.aload_n 0, 1) := by decide +kernel
theorem dX9_connect_113 : decode cX9_connect 113 = .ok (.getfield 20, 3) := by decide +kernel
theorem dX9_connect_116 : decode cX9_connect 116 = .ok (.iload_n 1, 1) := by decide +kernel
theorem dX9_connect_117 : decode cX9_connect 117 = .ok (.aaload, 1) := by decide +kernel
theorem dX9_connect_118 : decode cX9_connect 118 = .ok (.getfield 202, 3) := by decide +kernel
theorem dX9_connect_121 : decode cX9_connect 121 = .ok (.iadd, 1) := by decide +kernel
theorem dX9_connect_122 : decode cX9_connect 122 = .ok (.iload_n 1, 1) := by decide +kernel
theorem dX9_connect_123 : decode cX9_connect 123 = .ok (.iload_n 2, 1) := by decide +kernel
theorem dX9_connect_124 : decode cX9_connect 124 = .ok (.invokevirtual 199, 3) := by decide +kernel
theorem dX9_connect_127 : decode cX9_connect 127 = .ok (.return_, 1) := by decide +kernel
set_option maxRecDepth 20000 in
theorem a_X9_connect_127 {Q : Sg → Unit → Prop} {X : Sg → String → Prop} {th : Nat} (K : MD l R p s m args c cX9_connect 7 RX9 D cA tys A n0 s0 4 76 []) (hQ : CQV p l e R s m args below meth c cX9_connect D cA A n0 s0 QM σi Q) (hX : CX p l e R s m args below meth c 7 D cA A n0 s0 QM σi X) (hTh : CT p l e R s m args below meth c cX9_connect 7 D cA A n0 s0 QM σi RX9 X) : ∀ (σ : Sg), w_X9_connect_127 th Q X σ → RG σ → TY σ → Ext σi σ → kO σ th 9 → JJ p l e R s m args below meth c 7 D cA A n0 s0 QM σ 127 [(0, .ref th)] [] := by
  intro σ h hGσ hYσ hE hth H locs ls hH hl hc
  have B := K.1
  have hl9 := K.2.2.2.2.2.2
  unfold w_X9_connect_127 at h
  exact hQ _ _ _ _ _ dX9_connect_127 hH hc h hGσ hYσ hE
set_option maxRecDepth 20000 in
theorem a_X9_connect_102 {Q : Sg → Unit → Prop} {X : Sg → String → Prop} {th : Nat} (K : MD l R p s m args c cX9_connect 7 RX9 D cA tys A n0 s0 4 76 []) (hQ : CQV p l e R s m args below meth c cX9_connect D cA A n0 s0 QM σi Q) (hX : CX p l e R s m args below meth c 7 D cA A n0 s0 QM σi X) (hTh : CT p l e R s m args below meth c cX9_connect 7 D cA A n0 s0 QM σi RX9 X) : ∀ (σ : Sg), w_X9_connect_102 th Q X σ → RG σ → TY σ → Ext σi σ → kO σ th 9 → JJ p l e R s m args below meth c 7 D cA A n0 s0 QM σ 102 [(0, .ref th)] [] := by
  intro σ h hGσ hYσ hE hth H locs ls hH hl hc
  have B := K.1
  have hl9 := K.2.2.2.2.2.2
  unfold w_X9_connect_102 at h
  refine lv_goto (tgt := 127) B.1 B.2.1 dX9_connect_102 (by decide) ?_
  exact a_X9_connect_127 K hQ hX hTh _ h hGσ hYσ hE hth _ _ _ hH (lv_sub (l' := [(0, .ref th)]) hl [0] rfl) hc
set_option maxRecDepth 20000 in
theorem a_X9_connect_88 {Q : Sg → Unit → Prop} {X : Sg → String → Prop} {th : Nat} (K : MD l R p s m args c cX9_connect 7 RX9 D cA tys A n0 s0 4 76 []) (hQ : CQV p l e R s m args below meth c cX9_connect D cA A n0 s0 QM σi Q) (hX : CX p l e R s m args below meth c 7 D cA A n0 s0 QM σi X) (hTh : CT p l e R s m args below meth c cX9_connect 7 D cA A n0 s0 QM σi RX9 X) {K75 : Sg → Int → Int → Int → Int → Prop} (hK75 : ∀ (σ : Sg) (v1 : Int) (v2 : Int) (v3 : Int) (v6 : Int) (g1 : rng v1) (g2 : rng v2) (g3 : rng v3) (g6 : rng v6), K75 σ v1 v2 v3 v6 → RG σ → TY σ → Ext σi σ → kO σ th 9 → JJ p l e R s m args below meth c 7 D cA A n0 s0 QM σ 75 [(0, .ref th), (1, .int (i32 v1)), (2, .int (i32 v2)), (3, .int (i32 v3)), (6, .int (i32 v6))] []) : ∀ (σ : Sg) (v1 : Int) (v2 : Int) (v3 : Int) (v6 : Int) (g1 : rng v1) (g2 : rng v2) (g3 : rng v3) (g6 : rng v6), w_X9_connect_88 th K75 Q X σ v1 v2 v3 v6 → RG σ → TY σ → Ext σi σ → kO σ th 9 → JJ p l e R s m args below meth c 7 D cA A n0 s0 QM σ 88 [(0, .ref th), (1, .int (i32 v1)), (2, .int (i32 v2)), (3, .int (i32 v3)), (6, .int (i32 v6))] [] := by
  intro σ v1 v2 v3 v6 g1 g2 g3 g6 h hGσ hYσ hE hth H locs ls hH hl hc
  have B := K.1
  have hl9 := K.2.2.2.2.2.2
  unfold w_X9_connect_88 at h
  refine lv_aload_n B.1 B.2.1 dX9_connect_88 rfl (lv_at hl 0 rfl) ?_
  refine lv_iload B.1 B.2.1 dX9_connect_89 (lv_at hl 4 rfl) ?_
  refine lv_iload_n B.1 B.2.1 dX9_connect_91 rfl (lv_at hl 1 rfl) ?_
  refine lv_iload_n B.1 B.2.1 dX9_connect_92 rfl (lv_at hl 2 rfl) ?_
  refine W.eq (g2 := F0 m 93 ls [.int (i32 v2), .int (i32 v1), .int (i32 v6), .ref th]) (rfl) ?_
  refine c_V B hH hl hc K.2.2.1 (C := RX9) (T := TX9) (N := 20) (ci := 9) (As := [.int (i32 v6), .int (i32 v1), .int (i32 v2)]) (ok_X9_addChannel hl9 K.2.1 σ th v6 v1 v2 g6 g1 g2 hth hGσ hYσ h) wc_X9_199 3 hd_X9_addChannel ⟨Nat.le_trans (Nat.le_of_ble_eq_true rfl) K.2.2.2.1, Nat.le_trans (Nat.le_of_ble_eq_true rfl) K.2.2.2.2.1⟩ hth.1 hth.2 (by decide) rfl rfl (rest := []) rfl (Nat.le_of_ble_eq_true rfl) dX9_connect_93 (fun σ35 w hq => ?_) (fun σ9 E9 hx9 => hX σ9 E9 _ _ _ (tb_out K.2.2.2.2.2.1 rfl) hx9.1 hx9.2.1 hx9.2.2.1 (hE.trans hx9.2.2.2))
  obtain ⟨rfl, h, hGσ35, hYσ35, xσ35⟩ := hq
  have h := h xσ35
  intro H locs ls hH hl hc
  refine W.eq (g2 := F0 m 96 ls []) (rfl) ?_
  try dsimp only at h
  obtain ⟨q1, h⟩ := h
  refine lv_iinc (k := 4) (v := i32 (v6 + 1)) (lv' := [(6, .int (i32 (v6 + 1))), (0, .ref th), (1, .int (i32 v1)), (2, .int (i32 v2)), (3, .int (i32 v3))]) B.1 B.2.1 dX9_connect_96 hl rfl (i32_add _ _) (by decide) rfl (fun ls hl => ?_)
  refine lv_goto (tgt := 75) B.1 B.2.1 dX9_connect_99 (by decide) ?_
  exact hK75 _ _ _ _ _ g1 g2 g3 q1 h hGσ35 hYσ35 (hE.trans xσ35) (hth.up xσ35) _ _ _ hH (lv_sub (l' := [(0, .ref th), (1, .int (i32 v1)), (2, .int (i32 v2)), (3, .int (i32 v3)), (6, .int (i32 (v6 + 1)))]) hl [1, 2, 3, 4, 0] rfl) hc
set_option maxRecDepth 20000 in
theorem a_X9_connect_75 {Q : Sg → Unit → Prop} {X : Sg → String → Prop} {th : Nat} (K : MD l R p s m args c cX9_connect 7 RX9 D cA tys A n0 s0 4 76 []) (hQ : CQV p l e R s m args below meth c cX9_connect D cA A n0 s0 QM σi Q) (hX : CX p l e R s m args below meth c 7 D cA A n0 s0 QM σi X) (hTh : CT p l e R s m args below meth c cX9_connect 7 D cA A n0 s0 QM σi RX9 X) {K75 : Sg → Int → Int → Int → Int → Prop} (hK75 : ∀ (σ : Sg) (v1 : Int) (v2 : Int) (v3 : Int) (v6 : Int) (g1 : rng v1) (g2 : rng v2) (g3 : rng v3) (g6 : rng v6), K75 σ v1 v2 v3 v6 → RG σ → TY σ → Ext σi σ → kO σ th 9 → JJ p l e R s m args below meth c 7 D cA A n0 s0 QM σ 75 [(0, .ref th), (1, .int (i32 v1)), (2, .int (i32 v2)), (3, .int (i32 v3)), (6, .int (i32 v6))] []) : ∀ (σ : Sg) (v1 : Int) (v2 : Int) (v3 : Int) (v6 : Int) (g1 : rng v1) (g2 : rng v2) (g3 : rng v3) (g6 : rng v6), w_X9_connect_75 th K75 Q X σ v1 v2 v3 v6 → RG σ → TY σ → Ext σi σ → kO σ th 9 → JJ p l e R s m args below meth c 7 D cA A n0 s0 QM σ 75 [(0, .ref th), (1, .int (i32 v1)), (2, .int (i32 v2)), (3, .int (i32 v3)), (6, .int (i32 v6))] [] := by
  intro σ v1 v2 v3 v6 g1 g2 g3 g6 h hGσ hYσ hE hth H locs ls hH hl hc
  have B := K.1
  have hl9 := K.2.2.2.2.2.2
  unfold w_X9_connect_75 at h
  refine lv_iload B.1 B.2.1 dX9_connect_75 (lv_at hl 4 rfl) ?_
  refine lv_aload_n B.1 B.2.1 dX9_connect_77 rfl (lv_at hl 0 rfl) ?_
  refine f_getp B hH hth (by decide) rfl wu_X9 5 (by decide) wf_X9_30 rfl rfl dX9_connect_78 ?_
  refine lv_iload_n B.1 B.2.1 dX9_connect_81 rfl (lv_at hl 3 rfl) ?_
  refine lv_iconst (v := i32 1) B.1 B.2.1 dX9_connect_82 (by decide) ?_
  obtain ⟨q1, h⟩ := h
  refine lv_iadd B.1 B.2.1 dX9_connect_83 ?_
  rw [i32_add]
  obtain ⟨a36, ea36, h⟩ := h
  have ka36 : kO σ a36 100 := (hYσ.get hth (by decide)) a36 ea36
  have h := h ka36
  obtain ⟨q2, h⟩ := h
  refine W.eq (g2 := F0 m 84 ls [.int (i32 (v3 + 1)), .ref a36, .int (i32 v6)]) (by rw [ea36]; rfl) ?_
  refine y_iald B K.2.1 hH ka36 q2 dX9_connect_84 (hYσ.2 _) ?_
  refine lv_icmp_ge (tgt := 102) B.1 B.2.1 dX9_connect_85 (by decide) (fun h9 => ?_) (fun h9 => ?_)
  · rw [if_pos ((i32_le (hGσ _ _) g6).mp h9)] at h
    exact a_X9_connect_102 K hQ hX hTh _ h hGσ hYσ hE hth _ _ _ hH (lv_sub (l' := [(0, .ref th)]) hl [0] rfl) hc
  · rw [if_neg (fun q => h9 ((i32_le (hGσ _ _) g6).mpr q))] at h
    exact a_X9_connect_88 K hQ hX hTh hK75 _ _ _ _ _ g1 g2 g3 g6 h hGσ hYσ hE hth _ _ _ hH (lv_sub (l' := [(0, .ref th), (1, .int (i32 v1)), (2, .int (i32 v2)), (3, .int (i32 v3)), (6, .int (i32 v6))]) hl [0, 1, 2, 3, 4] rfl) hc
theorem al_X9_connect_75 {Q : Sg → Unit → Prop} {X : Sg → String → Prop} {th : Nat} (K : MD l R p s m args c cX9_connect 7 RX9 D cA tys A n0 s0 4 76 []) (hQ : CQV p l e R s m args below meth c cX9_connect D cA A n0 s0 QM σi Q) (hX : CX p l e R s m args below meth c 7 D cA A n0 s0 QM σi X) (hTh : CT p l e R s m args below meth c cX9_connect 7 D cA A n0 s0 QM σi RX9 X) : ∀ (n : Nat), ∀ (σ : Sg) (v1 : Int) (v2 : Int) (v3 : Int) (v6 : Int) (g1 : rng v1) (g2 : rng v2) (g3 : rng v3) (g6 : rng v6), wl_X9_connect_75 th Q X n σ v1 v2 v3 v6 → RG σ → TY σ → Ext σi σ → kO σ th 9 → JJ p l e R s m args below meth c 7 D cA A n0 s0 QM σ 75 [(0, .ref th), (1, .int (i32 v1)), (2, .int (i32 v2)), (3, .int (i32 v3)), (6, .int (i32 v6))] [] := by
  intro n
  induction n with
  | zero => intro σ v1 v2 v3 v6 g1 g2 g3 g6 h; exact h.elim
  | succ n ih => exact fun σ v1 v2 v3 v6 g1 g2 g3 g6 h => a_X9_connect_75 K hQ hX hTh ih σ v1 v2 v3 v6 g1 g2 g3 g6 h
set_option maxRecDepth 20000 in
theorem a_X9_connect_67 {Q : Sg → Unit → Prop} {X : Sg → String → Prop} {th : Nat} (K : MD l R p s m args c cX9_connect 7 RX9 D cA tys A n0 s0 4 76 []) (hQ : CQV p l e R s m args below meth c cX9_connect D cA A n0 s0 QM σi Q) (hX : CX p l e R s m args below meth c 7 D cA A n0 s0 QM σi X) (hTh : CT p l e R s m args below meth c cX9_connect 7 D cA A n0 s0 QM σi RX9 X) : ∀ (σ : Sg) (v1 : Int) (v2 : Int) (v3 : Int) (g1 : rng v1) (g2 : rng v2) (g3 : rng v3), w_X9_connect_67 th Q X σ v1 v2 v3 → RG σ → TY σ → Ext σi σ → kO σ th 9 → JJ p l e R s m args below meth c 7 D cA A n0 s0 QM σ 67 [(0, .ref th), (1, .int (i32 v1)), (2, .int (i32 v2)), (3, .int (i32 v3))] [] := by
  intro σ v1 v2 v3 g1 g2 g3 h hGσ hYσ hE hth H locs ls hH hl hc
  have B := K.1
  have hl9 := K.2.2.2.2.2.2
  unfold w_X9_connect_67 at h
  refine lv_aload_n B.1 B.2.1 dX9_connect_67 rfl (lv_at hl 0 rfl) ?_
  refine f_getp B hH hth (by decide) rfl wu_X9 5 (by decide) wf_X9_30 rfl rfl dX9_connect_68 ?_
  refine lv_iload_n B.1 B.2.1 dX9_connect_71 rfl (lv_at hl 3 rfl) ?_
  obtain ⟨a37, ea37, h⟩ := h
  have ka37 : kO σ a37 100 := (hYσ.get hth (by decide)) a37 ea37
  have h := h ka37
  obtain ⟨q1, h⟩ := h
  refine W.eq (g2 := F0 m 72 ls [.int (i32 v3), .ref a37]) (by rw [ea37]; rfl) ?_
  refine y_iald B K.2.1 hH ka37 q1 dX9_connect_72 (hYσ.2 _) ?_
  refine lv_istore (lv' := [(6, .int (i32 (gI σ a37 v3.toNat))), (0, .ref th), (1, .int (i32 v1)), (2, .int (i32 v2)), (3, .int (i32 v3))]) B.1 B.2.1 dX9_connect_73 hl (by decide) rfl (fun ls hl => ?_)
  obtain ⟨n9, h⟩ := h
  exact al_X9_connect_75 K hQ hX hTh n9 _ _ _ _ _ g1 g2 g3 (hGσ _ _) h hGσ hYσ hE hth _ _ _ hH (lv_sub (l' := [(0, .ref th), (1, .int (i32 v1)), (2, .int (i32 v2)), (3, .int (i32 v3)), (6, .int (i32 (gI σ a37 v3.toNat)))]) hl [1, 2, 3, 4, 0] rfl) hc
set_option maxRecDepth 20000 in
theorem a_X9_connect_105 {Q : Sg → Unit → Prop} {X : Sg → String → Prop} {th : Nat} (K : MD l R p s m args c cX9_connect 7 RX9 D cA tys A n0 s0 4 76 []) (hQ : CQV p l e R s m args below meth c cX9_connect D cA A n0 s0 QM σi Q) (hX : CX p l e R s m args below meth c 7 D cA A n0 s0 QM σi X) (hTh : CT p l e R s m args below meth c cX9_connect 7 D cA A n0 s0 QM σi RX9 X) : ∀ (σ : Sg) (v1 : Int) (v2 : Int) (v3 : Int) (g1 : rng v1) (g2 : rng v2) (g3 : rng v3), w_X9_connect_105 th Q X σ v1 v2 v3 → RG σ → TY σ → Ext σi σ → kO σ th 9 → JJ p l e R s m args below meth c 7 D cA A n0 s0 QM σ 105 [(0, .ref th), (1, .int (i32 v1)), (2, .int (i32 v2)), (3, .int (i32 v3))] [] := by
  intro σ v1 v2 v3 g1 g2 g3 h hGσ hYσ hE hth H locs ls hH hl hc
  have B := K.1
  have hl9 := K.2.2.2.2.2.2
  unfold w_X9_connect_105 at h
  refine lv_aload_n B.1 B.2.1 dX9_connect_105 rfl (lv_at hl 0 rfl) ?_
  refine lv_aload_n B.1 B.2.1 dX9_connect_106 rfl (lv_at hl 0 rfl) ?_
  refine f_getp B hH hth (by decide) rfl wu_X9 5 (by decide) wf_X9_30 rfl rfl dX9_connect_107 ?_
  refine lv_iload_n B.1 B.2.1 dX9_connect_110 rfl (lv_at hl 3 rfl) ?_
  obtain ⟨a38, ea38, h⟩ := h
  have ka38 : kO σ a38 100 := (hYσ.get hth (by decide)) a38 ea38
  have h := h ka38
  obtain ⟨q1, h⟩ := h
  refine W.eq (g2 := F0 m 111 ls [.int (i32 v3), .ref a38, .ref th]) (by rw [ea38]; rfl) ?_
  refine y_iald B K.2.1 hH ka38 q1 dX9_connect_111 (hYσ.2 _) ?_
  refine lv_aload_n B.1 B.2.1 dX9_connect_112 rfl (lv_at hl 0 rfl) ?_
  refine f_getp B hH hth (by decide) rfl wu_X9 3 (by decide) wf_X9_20 rfl rfl dX9_connect_113 ?_
  refine lv_iload_n B.1 B.2.1 dX9_connect_116 rfl (lv_at hl 1 rfl) ?_
  obtain ⟨a39, ea39, h⟩ := h
  have ka39 : kO σ a39 120 := (hYσ.get hth (by decide)) a39 ea39
  have h := h ka39
  obtain ⟨q2, h⟩ := h
  refine W.eq (g2 := F0 m 117 ls [.int (i32 v1), .ref a39, .int (i32 (gI σ a38 v3.toNat)), .ref th]) (by rw [ea39]; rfl) ?_
  refine y_aald B hH (t0 := 7) ka39 (by decide) K.2.1.2.2.2.2.1 q2 (hYσ.2 _) dX9_connect_117 ?_
  obtain ⟨a40, ea40, h⟩ := h
  have ka40 : kO σ a40 10 := (hYσ.get ka39 rfl) a40 ea40
  have h := h ka40
  refine W.eq (g2 := F0 m 118 ls [.ref a40, .int (i32 (gI σ a38 v3.toNat)), .ref th]) (by rw [ea40]; rfl) ?_
  refine f_geti B hH ka40 (by decide) rfl wu_X10 1 (by decide) wf_X9_202 rfl rfl dX9_connect_118 ?_
  obtain ⟨q3, h⟩ := h
  refine lv_iadd B.1 B.2.1 dX9_connect_121 ?_
  rw [i32_add]
  refine lv_iload_n B.1 B.2.1 dX9_connect_122 rfl (lv_at hl 1 rfl) ?_
  refine lv_iload_n B.1 B.2.1 dX9_connect_123 rfl (lv_at hl 2 rfl) ?_
  refine W.eq (g2 := F0 m 124 ls [.int (i32 v2), .int (i32 v1), .int (i32 ((gI σ a38 v3.toNat) + gI σ a40 1)), .ref th]) (rfl) ?_
  refine c_V B hH hl hc K.2.2.1 (C := RX9) (T := TX9) (N := 20) (ci := 9) (As := [.int (i32 ((gI σ a38 v3.toNat) + gI σ a40 1)), .int (i32 v1), .int (i32 v2)]) (ok_X9_addChannel hl9 K.2.1 σ th ((gI σ a38 v3.toNat) + gI σ a40 1) v1 v2 q3 g1 g2 hth hGσ hYσ h) wc_X9_199 3 hd_X9_addChannel ⟨Nat.le_trans (Nat.le_of_ble_eq_true rfl) K.2.2.2.1, Nat.le_trans (Nat.le_of_ble_eq_true rfl) K.2.2.2.2.1⟩ hth.1 hth.2 (by decide) rfl rfl (rest := []) rfl (Nat.le_of_ble_eq_true rfl) dX9_connect_124 (fun σ41 w hq => ?_) (fun σ9 E9 hx9 => hX σ9 E9 _ _ _ (tb_out K.2.2.2.2.2.1 rfl) hx9.1 hx9.2.1 hx9.2.2.1 (hE.trans hx9.2.2.2))
  obtain ⟨rfl, h, hGσ41, hYσ41, xσ41⟩ := hq
  have h := h xσ41
  intro H locs ls hH hl hc
  refine W.eq (g2 := F0 m 127 ls []) (rfl) ?_
  try dsimp only at h
  exact a_X9_connect_127 K hQ hX hTh _ h hGσ41 hYσ41 (hE.trans xσ41) (hth.up xσ41) _ _ _ hH (lv_sub (l' := [(0, .ref th)]) hl [0] rfl) hc
set_option maxRecDepth 20000 in
theorem a_X9_connect_61 {Q : Sg → Unit → Prop} {X : Sg → String → Prop} {th : Nat} (K : MD l R p s m args c cX9_connect 7 RX9 D cA tys A n0 s0 4 76 []) (hQ : CQV p l e R s m args below meth c cX9_connect D cA A n0 s0 QM σi Q) (hX : CX p l e R s m args below meth c 7 D cA A n0 s0 QM σi X) (hTh : CT p l e R s m args below meth c cX9_connect 7 D cA A n0 s0 QM σi RX9 X) : ∀ (σ : Sg) (v1 : Int) (v2 : Int) (v3 : Int) (v5 : Int) (g1 : rng v1) (g2 : rng v2) (g3 : rng v3) (g5 : rng v5), w_X9_connect_61 th Q X σ v1 v2 v3 v5 → RG σ → TY σ → Ext σi σ → kO σ th 9 → JJ p l e R s m args below meth c 7 D cA A n0 s0 QM σ 61 [(0, .ref th), (1, .int (i32 v1)), (2, .int (i32 v2)), (3, .int (i32 v3)), (5, .int (i32 v5))] [] := by
  intro σ v1 v2 v3 v5 g1 g2 g3 g5 h hGσ hYσ hE hth H locs ls hH hl hc
  have B := K.1
  have hl9 := K.2.2.2.2.2.2
  unfold w_X9_connect_61 at h
  refine lv_iload B.1 B.2.1 dX9_connect_61 (lv_at hl 4 rfl) ?_
  refine lv_iconst (v := i32 1) B.1 B.2.1 dX9_connect_63 (by decide) ?_
  refine lv_icmp_ne (tgt := 105) B.1 B.2.1 dX9_connect_64 (by decide) (fun h9 => ?_) (fun h9 => ?_)
  · rw [if_pos (fun q => h9 ((i32_eq g5 (by unfold rng; omega)).mpr q))] at h
    exact a_X9_connect_105 K hQ hX hTh _ _ _ _ g1 g2 g3 h hGσ hYσ hE hth _ _ _ hH (lv_sub (l' := [(0, .ref th), (1, .int (i32 v1)), (2, .int (i32 v2)), (3, .int (i32 v3))]) hl [0, 1, 2, 3] rfl) hc
  · rw [if_neg (fun q => q ((i32_eq g5 (by unfold rng; omega)).mp h9))] at h
    exact a_X9_connect_67 K hQ hX hTh _ _ _ _ g1 g2 g3 h hGσ hYσ hE hth _ _ _ hH (lv_sub (l' := [(0, .ref th), (1, .int (i32 v1)), (2, .int (i32 v2)), (3, .int (i32 v3))]) hl [0, 1, 2, 3] rfl) hc
set_option maxRecDepth 20000 in
theorem a_X9_connect_53 {Q : Sg → Unit → Prop} {X : Sg → String → Prop} {th : Nat} (K : MD l R p s m args c cX9_connect 7 RX9 D cA tys A n0 s0 4 76 []) (hQ : CQV p l e R s m args below meth c cX9_connect D cA A n0 s0 QM σi Q) (hX : CX p l e R s m args below meth c 7 D cA A n0 s0 QM σi X) (hTh : CT p l e R s m args below meth c cX9_connect 7 D cA A n0 s0 QM σi RX9 X) : ∀ (σ : Sg) (v1 : Int) (v2 : Int) (v3 : Int) (v4 : Int) (v5 : Int) (g1 : rng v1) (g2 : rng v2) (g3 : rng v3) (g4 : rng v4) (g5 : rng v5), w_X9_connect_53 th Q X σ v1 v2 v3 v4 v5 → RG σ → TY σ → Ext σi σ → kO σ th 9 → JJ p l e R s m args below meth c 7 D cA A n0 s0 QM σ 53 [(0, .ref th), (1, .int (i32 v1)), (2, .int (i32 v2)), (3, .int (i32 v3)), (4, .int (i32 v4)), (5, .int (i32 v5))] [] := by
  intro σ v1 v2 v3 v4 v5 g1 g2 g3 g4 g5 h hGσ hYσ hE hth H locs ls hH hl hc
  have B := K.1
  have hl9 := K.2.2.2.2.2.2
  unfold w_X9_connect_53 at h
  refine lv_iload B.1 B.2.1 dX9_connect_53 (lv_at hl 4 rfl) ?_
  refine c_SN B hH hl hc K.2.2.1 (As := [.int (i32 v4)]) (ok_X12_hasOneTask hl9 K.2.1 σ v4 g4 hGσ hYσ (nx_X12_hasOneTask h)) (fun _ _ h9 => h9.1) (List.mem_of_getElem? (l := nmL) (i := 11) rfl) wq_X12_hasOneTask 1 hd_X12_hasOneTask ⟨Nat.le_trans (Nat.le_of_ble_eq_true rfl) K.2.2.2.1, Nat.le_trans (Nat.le_of_ble_eq_true rfl) K.2.2.2.2.1⟩ rfl (rest := []) rfl (Nat.le_of_ble_eq_true rfl) dX9_connect_55 (fun σ42 w hq => ?_)
  obtain ⟨r43, rfl, ⟨gr43, gzr43⟩, h, hGσ42, hYσ42, xσ42⟩ := hq
  have h := h xσ42
  intro H locs ls hH hl hc
  refine W.eq (g2 := F0 m 58 ls [.int (i32 r43)]) (rfl) ?_
  try dsimp only at h
  refine lv_if_ne (tgt := 67) B.1 B.2.1 dX9_connect_58 (by decide) (fun h9 => ?_) (fun h9 => ?_)
  · rw [if_pos (fun q => h9 ((z_eq gr43).mpr q))] at h
    exact a_X9_connect_67 K hQ hX hTh _ _ _ _ g1 g2 g3 h hGσ42 hYσ42 (hE.trans xσ42) (hth.up xσ42) _ _ _ hH (lv_sub (l' := [(0, .ref th), (1, .int (i32 v1)), (2, .int (i32 v2)), (3, .int (i32 v3))]) hl [0, 1, 2, 3] rfl) hc
  · rw [if_neg (fun q => q ((z_eq gr43).mp h9))] at h
    exact a_X9_connect_61 K hQ hX hTh _ _ _ _ _ g1 g2 g3 g5 h hGσ42 hYσ42 (hE.trans xσ42) (hth.up xσ42) _ _ _ hH (lv_sub (l' := [(0, .ref th), (1, .int (i32 v1)), (2, .int (i32 v2)), (3, .int (i32 v3)), (5, .int (i32 v5))]) hl [0, 1, 2, 3, 5] rfl) hc
set_option maxRecDepth 20000 in
theorem a_X9_connect_6 {Q : Sg → Unit → Prop} {X : Sg → String → Prop} {th : Nat} (K : MD l R p s m args c cX9_connect 7 RX9 D cA tys A n0 s0 4 76 []) (hQ : CQV p l e R s m args below meth c cX9_connect D cA A n0 s0 QM σi Q) (hX : CX p l e R s m args below meth c 7 D cA A n0 s0 QM σi X) (hTh : CT p l e R s m args below meth c cX9_connect 7 D cA A n0 s0 QM σi RX9 X) : ∀ (σ : Sg) (v1 : Int) (v2 : Int) (v3 : Int) (g1 : rng v1) (g2 : rng v2) (g3 : rng v3), w_X9_connect_6 th Q X σ v1 v2 v3 → RG σ → TY σ → Ext σi σ → kO σ th 9 → JJ p l e R s m args below meth c 7 D cA A n0 s0 QM σ 6 [(0, .ref th), (1, .int (i32 v1)), (2, .int (i32 v2)), (3, .int (i32 v3))] [] := by
  intro σ v1 v2 v3 g1 g2 g3 h hGσ hYσ hE hth H locs ls hH hl hc
  have B := K.1
  have hl9 := K.2.2.2.2.2.2
  unfold w_X9_connect_6 at h
  refine lv_aload_n B.1 B.2.1 dX9_connect_6 rfl (lv_at hl 0 rfl) ?_
  refine f_getp B hH hth (by decide) rfl wu_X9 9 (by decide) wf_X9_100 rfl rfl dX9_connect_7 ?_
  obtain ⟨a44, ea44, h⟩ := h
  have ka44 : kO σ a44 4 := (hYσ.get hth (by decide)) a44 ea44
  have h := h ka44
  refine W.eq (g2 := F0 m 10 ls [.ref a44]) (by rw [ea44]; rfl) ?_
  refine f_getp B hH ka44 (by decide) rfl wu_X4 0 (by decide) wf_X9_160 rfl rfl dX9_connect_10 ?_
  refine lv_aload_n B.1 B.2.1 dX9_connect_13 rfl (lv_at hl 0 rfl) ?_
  refine f_getp B hH hth (by decide) rfl wu_X9 3 (by decide) wf_X9_20 rfl rfl dX9_connect_14 ?_
  refine lv_iload_n B.1 B.2.1 dX9_connect_17 rfl (lv_at hl 1 rfl) ?_
  obtain ⟨a45, ea45, h⟩ := h
  have ka45 : kO σ a45 120 := (hYσ.get hth (by decide)) a45 ea45
  have h := h ka45
  obtain ⟨q1, h⟩ := h
  refine W.eq (g2 := F0 m 18 ls [.int (i32 v1), .ref a45, va_rf (gP σ a44 0)]) (by rw [ea45]; rfl) ?_
  refine y_aald B hH (t0 := 7) ka45 (by decide) K.2.1.2.2.2.2.1 q1 (hYσ.2 _) dX9_connect_18 ?_
  obtain ⟨a46, ea46, h⟩ := h
  have ka46 : kO σ a46 10 := (hYσ.get ka45 rfl) a46 ea46
  have h := h ka46
  refine W.eq (g2 := F0 m 19 ls [.ref a46, va_rf (gP σ a44 0)]) (by rw [ea46]; rfl) ?_
  refine f_geti B hH ka46 (by decide) rfl wu_X10 0 (by decide) wf_X9_181 rfl rfl dX9_connect_19 ?_
  obtain ⟨a47, ea47, h⟩ := h
  have ka47 : kO σ a47 115 := (hYσ.get ka44 (by decide)) a47 ea47
  have h := h ka47
  obtain ⟨q2, h⟩ := h
  refine W.eq (g2 := F0 m 22 ls [.int (i32 (gI σ a46 0)), .ref a47]) (by rw [ea47]; rfl) ?_
  refine y_aald B hH (t0 := 6) ka47 (by decide) K.2.1.2.2.2.1 q2 (hYσ.2 _) dX9_connect_22 ?_
  obtain ⟨a48, ea48, h⟩ := h
  have ka48 : kO σ a48 5 := (hYσ.get ka47 rfl) a48 ea48
  have h := h ka48
  refine W.eq (g2 := F0 m 23 ls [.ref a48]) (by rw [ea48]; rfl) ?_
  refine f_geti B hH ka48 (by decide) rfl wu_X5 6 (by decide) wf_X9_164 rfl rfl dX9_connect_23 ?_
  refine lv_istore (lv' := [(4, .int (i32 (gI σ a48 6))), (0, .ref th), (1, .int (i32 v1)), (2, .int (i32 v2)), (3, .int (i32 v3))]) B.1 B.2.1 dX9_connect_26 hl (by decide) rfl (fun ls hl => ?_)
  refine lv_aload_n B.1 B.2.1 dX9_connect_28 rfl (lv_at hl 1 rfl) ?_
  refine f_getp B hH hth (by decide) rfl wu_X9 5 (by decide) wf_X9_30 rfl rfl dX9_connect_29 ?_
  refine lv_iload_n B.1 B.2.1 dX9_connect_32 rfl (lv_at hl 4 rfl) ?_
  refine lv_iconst (v := i32 1) B.1 B.2.1 dX9_connect_33 (by decide) ?_
  obtain ⟨q3, h⟩ := h
  refine lv_iadd B.1 B.2.1 dX9_connect_34 ?_
  rw [i32_add]
  obtain ⟨a49, ea49, h⟩ := h
  have ka49 : kO σ a49 100 := (hYσ.get hth (by decide)) a49 ea49
  have h := h ka49
  obtain ⟨q4, h⟩ := h
  refine W.eq (g2 := F0 m 35 ls [.int (i32 (v3 + 1)), .ref a49]) (by rw [ea49]; rfl) ?_
  refine y_iald B K.2.1 hH ka49 q4 dX9_connect_35 (hYσ.2 _) ?_
  refine lv_aload_n B.1 B.2.1 dX9_connect_36 rfl (lv_at hl 1 rfl) ?_
  refine f_getp B hH hth (by decide) rfl wu_X9 5 (by decide) wf_X9_30 rfl rfl dX9_connect_37 ?_
  refine lv_iload_n B.1 B.2.1 dX9_connect_40 rfl (lv_at hl 4 rfl) ?_
  obtain ⟨q5, h⟩ := h
  refine W.eq (g2 := F0 m 41 ls [.int (i32 v3), .ref a49, .int (i32 (gI σ a49 (v3 + 1).toNat))]) (by rw [ea49]; rfl) ?_
  refine y_iald B K.2.1 hH ka49 q5 dX9_connect_41 (hYσ.2 _) ?_
  obtain ⟨q6, h⟩ := h
  refine lv_isub B.1 B.2.1 dX9_connect_42 ?_
  rw [i32_sub]
  refine lv_istore (lv' := [(5, .int (i32 ((gI σ a49 (v3 + 1).toNat) - (gI σ a49 v3.toNat)))), (4, .int (i32 (gI σ a48 6))), (0, .ref th), (1, .int (i32 v1)), (2, .int (i32 v2)), (3, .int (i32 v3))]) B.1 B.2.1 dX9_connect_43 hl (by decide) rfl (fun ls hl => ?_)
  refine lv_iload B.1 B.2.1 dX9_connect_45 (lv_at hl 1 rfl) ?_
  refine c_SN B hH hl hc K.2.2.1 (As := [.int (i32 (gI σ a48 6))]) (ok_X12_isKeyed hl9 K.2.1 σ (gI σ a48 6) (hGσ _ _) hGσ hYσ (nx_X12_isKeyed h)) (fun _ _ h9 => h9.1) (List.mem_of_getElem? (l := nmL) (i := 13) rfl) wq_X12_isKeyed 1 hd_X12_isKeyed ⟨Nat.le_trans (Nat.le_of_ble_eq_true rfl) K.2.2.2.1, Nat.le_trans (Nat.le_of_ble_eq_true rfl) K.2.2.2.2.1⟩ rfl (rest := []) rfl (Nat.le_of_ble_eq_true rfl) dX9_connect_47 (fun σ50 w hq => ?_)
  obtain ⟨r51, rfl, ⟨gr51, gzr51⟩, h, hGσ50, hYσ50, xσ50⟩ := hq
  have h := h xσ50
  intro H locs ls hH hl hc
  refine W.eq (g2 := F0 m 50 ls [.int (i32 r51)]) (rfl) ?_
  try dsimp only at h
  refine lv_if_ne (tgt := 67) B.1 B.2.1 dX9_connect_50 (by decide) (fun h9 => ?_) (fun h9 => ?_)
  · rw [if_pos (fun q => h9 ((z_eq gr51).mpr q))] at h
    exact a_X9_connect_67 K hQ hX hTh _ _ _ _ g1 g2 g3 h hGσ50 hYσ50 (hE.trans xσ50) (hth.up xσ50) _ _ _ hH (lv_sub (l' := [(0, .ref th), (1, .int (i32 v1)), (2, .int (i32 v2)), (3, .int (i32 v3))]) hl [2, 3, 4, 5] rfl) hc
  · rw [if_neg (fun q => q ((z_eq gr51).mp h9))] at h
    exact a_X9_connect_53 K hQ hX hTh _ _ _ _ _ _ g1 g2 g3 (hGσ _ _) q6 h hGσ50 hYσ50 (hE.trans xσ50) (hth.up xσ50) _ _ _ hH (lv_sub (l' := [(0, .ref th), (1, .int (i32 v1)), (2, .int (i32 v2)), (3, .int (i32 v3)), (4, .int (i32 (gI σ a48 6))), (5, .int (i32 ((gI σ a49 (v3 + 1).toNat) - (gI σ a49 v3.toNat))))]) hl [2, 3, 4, 5, 1, 0] rfl) hc
set_option maxRecDepth 20000 in
theorem a_X9_connect_5 {Q : Sg → Unit → Prop} {X : Sg → String → Prop} {th : Nat} (K : MD l R p s m args c cX9_connect 7 RX9 D cA tys A n0 s0 4 76 []) (hQ : CQV p l e R s m args below meth c cX9_connect D cA A n0 s0 QM σi Q) (hX : CX p l e R s m args below meth c 7 D cA A n0 s0 QM σi X) (hTh : CT p l e R s m args below meth c cX9_connect 7 D cA A n0 s0 QM σi RX9 X) : ∀ (σ : Sg), w_X9_connect_5 th Q X σ → RG σ → TY σ → Ext σi σ → kO σ th 9 → JJ p l e R s m args below meth c 7 D cA A n0 s0 QM σ 5 [(0, .ref th)] [] := by
  intro σ h hGσ hYσ hE hth H locs ls hH hl hc
  have B := K.1
  have hl9 := K.2.2.2.2.2.2
  unfold w_X9_connect_5 at h
  exact hQ _ _ _ _ _ dX9_connect_5 hH hc h hGσ hYσ hE
set_option maxRecDepth 20000 in
theorem a_X9_connect_0 {Q : Sg → Unit → Prop} {X : Sg → String → Prop} {th : Nat} (K : MD l R p s m args c cX9_connect 7 RX9 D cA tys A n0 s0 4 76 []) (hQ : CQV p l e R s m args below meth c cX9_connect D cA A n0 s0 QM σi Q) (hX : CX p l e R s m args below meth c 7 D cA A n0 s0 QM σi X) (hTh : CT p l e R s m args below meth c cX9_connect 7 D cA A n0 s0 QM σi RX9 X) : ∀ (σ : Sg) (v1 : Int) (v2 : Int) (v3 : Int) (g1 : rng v1) (g2 : rng v2) (g3 : rng v3), w_X9_connect_0 th Q X σ v1 v2 v3 → RG σ → TY σ → Ext σi σ → kO σ th 9 → JJ p l e R s m args below meth c 7 D cA A n0 s0 QM σ 0 [(0, .ref th), (1, .int (i32 v1)), (2, .int (i32 v2)), (3, .int (i32 v3))] [] := by
  intro σ v1 v2 v3 g1 g2 g3 h hGσ hYσ hE hth H locs ls hH hl hc
  have B := K.1
  have hl9 := K.2.2.2.2.2.2
  unfold w_X9_connect_0 at h
  refine lv_iload_n B.1 B.2.1 dX9_connect_0 rfl (lv_at hl 3 rfl) ?_
  refine lv_iconst (v := i32 (-1)) B.1 B.2.1 dX9_connect_1 (by decide) ?_
  refine lv_icmp_ne (tgt := 6) B.1 B.2.1 dX9_connect_2 (by decide) (fun h9 => ?_) (fun h9 => ?_)
  · rw [if_pos (fun q => h9 ((i32_eq g3 (by unfold rng; omega)).mpr q))] at h
    exact a_X9_connect_6 K hQ hX hTh _ _ _ _ g1 g2 g3 h hGσ hYσ hE hth _ _ _ hH (lv_sub (l' := [(0, .ref th), (1, .int (i32 v1)), (2, .int (i32 v2)), (3, .int (i32 v3))]) hl [0, 1, 2, 3] rfl) hc
  · rw [if_neg (fun q => q ((i32_eq g3 (by unfold rng; omega)).mp h9))] at h
    exact a_X9_connect_5 K hQ hX hTh _ h hGσ hYσ hE hth _ _ _ hH (lv_sub (l' := [(0, .ref th)]) hl [0] rfl) hc
theorem ok_X9_connect (hl0 : l.stackTraces = false) (hT : TyC cA tys) {Q : Sg → Unit → Prop} {X : Sg → String → Prop} (σ : Sg) (th : Nat) (v1 : Int) (v2 : Int) (v3 : Int) (g1 : rng v1) (g2 : rng v2) (g3 : rng v3) (hth : kO σ th 9) (hG : RG σ) (hY : TY σ) (h : wp_X9_connect th v1 v2 v3 σ Q X) : Ok l D cA tys A yX9_connect (.code yX9_connect cX9_connect 7 none) 4 76 [.ref th, .int (i32 v1), .int (i32 v2), .int (i32 v3)] σ (QcV σ Q) (QxC σ X) := by
  unfold wp_X9_connect at h
  exact oc_V hl0 (by decide) (by exact Nat.le_of_ble_eq_true rfl) hT (fun p e R s m args below meth c K hQ hX hTh hin9 H locs ls hH hl hc => a_X9_connect_0 K hQ hX hTh σ v1 v2 v3 g1 g2 g3 h hG hY (Ext.rfl' σ) hth H locs ls hH (lv_sub (l' := [(0, .ref th), (1, .int (i32 v1)), (2, .int (i32 v2)), (3, .int (i32 v3))]) hl [0, 1, 2, 3] rfl) hc)
theorem dX9_layOut_0 : decode cX9_layOut 0 = .ok (.aload_n 0, 1) := by decide +kernel
theorem dX9_layOut_1 : decode cX9_layOut 1 = .ok (.iload_n 1, 1) := by decide +kernel
theorem dX9_layOut_2 : decode cX9_layOut 2 = .ok (.putfield 157, 3) := by decide +kernel
theorem dX9_layOut_5 : decode cX9_layOut 5 = .ok (.aload_n 0, 1) := by decide +kernel
theorem dX9_layOut_6 : decode cX9_layOut 6 = .ok (.iconst 0, 1) := by decide +kernel
theorem dX9_layOut_7 : decode cX9_layOut 7 = .ok (.putfield 78, 3) := by decide +kernel
theorem dX9_layOut_10 : decode cX9_layOut 10 = .ok (.aload_n 0, 1) := by decide +kernel
theorem dX9_layOut_11 : decode cX9_layOut 11 = .ok (.iconst 0, 1) := by decide +kernel
theorem dX9_layOut_12 : decode cX9_layOut 12 = .ok (.putfield 81, 3) := by decide +kernel
theorem dX9_layOut_15 : decode cX9_layOut 15 = .ok (.iconst 0, 1) := by decide +kernel
theorem dX9_layOut_16 : decode cX9_layOut 16 = .ok (.istore_n 2, 1) := by decide +kernel
theorem dX9_layOut_17 : decode cX9_layOut 17 = .ok (.iload_n 2, 1) := by decide +kernel
theorem dX9_layOut_18 : decode cX9_layOut 18 = .ok (.aload_n 0, 1) := by decide +kernel
theorem dX9_layOut_19 : decode cX9_layOut 19 = .ok (.getfield 100, 3) := by decide +kernel
theorem dX9_layOut_22 : decode cX9_layOut 22 = .ok (.getfield 119, 3) := by decide +kernel
theorem dX9_layOut_25 : decode cX9_layOut 25 = .ok (.if_icmp .ge 123, 3) := by decide +kernel
theorem dX9_layOut_28 : decode cX9_layOut 28 = .ok (.aload_n 0, 1) := by decide +kernel
theorem dX9_layOut_29 : decode cX9_layOut 29 = .ok (.getfield 30, 3) := by decide +kernel
theorem dX9_layOut_32 : decode cX9_layOut 32 = .ok (.iload_n 2, 1) := by decide +kernel
theorem dX9_layOut_33 : decode cX9_layOut 33 = .ok (.aload_n 0, 1) := by decide +kernel
theorem dX9_layOut_34 : decode cX9_layOut 34 = .ok (.getfield 78, 3) := by decide +kernel
theorem dX9_layOut_37 : decode cX9_layOut 37 = .ok (.iastore, 1) := by decide +kernel
theorem dX9_layOut_38 : decode cX9_layOut 38 = .ok (.aload_n 0, 1) := by decide +kernel
theorem dX9_layOut_39 : decode cX9_layOut 39 = .ok (.getfield 100, 3) := by decide +kernel
theorem dX9_layOut_42 : decode cX9_layOut 42 = .ok (.getfield 160, 3) := by decide +kernel
theorem dX9_layOut_45 : decode cX9_layOut 45 = .ok (.iload_n 2, 1) := by decide +kernel
theorem dX9_layOut_46 : decode cX9_layOut 46 = .ok (.aaload, 1) := by decide +kernel
theorem dX9_layOut_47 : decode cX9_layOut 47 = .ok (.getfield 164, 3) := by decide +kernel
theorem dX9_layOut_50 : decode cX9_layOut 50 = .ok (.invokestatic 169, 3) := by decide +kernel
theorem dX9_layOut_53 : decode cX9_layOut 53 = .ok (.ifCond .eq 7, 3) := by decide +kernel
theorem dX9_layOut_56 : decode cX9_layOut 56 = .ok (.iconst 1, 1) := by decide +kernel
theorem dX9_layOut_57 : decode cX9_layOut 57 = .ok (.goto 7, 3) := by decide +kernel
theorem dX9_layOut_60 : decode cX9_layOut 60 = .ok (.aload_n 0, 1) := by decide +kernel
theorem dX9_layOut_61 : decode cX9_layOut 61 = .ok (.getfield 157, 3) := by decide +kernel
theorem dX9_layOut_64 : decode cX9_layOut 64 = .ok (.istore_n 3, 1) := by decide +kernel
theorem dX9_layOut_65 : decode cX9_layOut 65 = .ok (.iconst 0, 1) := by decide +kernel
theorem dX9_layOut_66 : decode cX9_layOut 66 = .ok (.istore 4, 2) := by decide +kernel
theorem dX9_layOut_68 : decode cX9_layOut 68 = .ok (.iload 4, 2) := by decide +kernel
theorem dX9_layOut_70 : decode cX9_layOut 70 = .ok (.iload_n 3, 1) := by decide +kernel
theorem dX9_layOut_71 : decode cX9_layOut 71 = .ok (.if_icmp .ge 71, 3) := by decide +kernel
theorem dX9_layOut_74 : decode cX9_layOut 74 = .ok (.aload_n 0, 1) := by decide +kernel
theorem dX9_layOut_75 : decode cX9_layOut 75 = .ok (.getfield 78, 3) := by decide +kernel
theorem dX9_layOut_78 : decode cX9_layOut 78 = .ok (.bipush 64, 2) := by decide +kernel
theorem dX9_layOut_80 : decode cX9_layOut 80 = .ok (.if_icmp .ge 62, 3) := by decide +kernel
theorem dX9_layOut_83 : decode cX9_layOut 83 = .ok (.aload_n 0, 1) := by decide +kernel
theorem dX9_layOut_84 : decode cX9_layOut 84 = .ok (.getfield 20, 3) := by decide +kernel
theorem dX9_layOut_87 : decode cX9_layOut 87 = .ok (.aload_n 0, 1) := by decide +kernel
theorem dX9_layOut_88 : decode cX9_layOut 88 = .ok (.getfield 78, 3) := by decide +kernel
theorem dX9_layOut_91 : decode cX9_layOut 91 = .ok (.aaload, 1) := by decide +kernel
theorem dX9_layOut_92 : decode cX9_layOut 92 = .ok (.ifnonnull 19, 3) := by decide +kernel
theorem dX9_layOut_95 : decode cX9_layOut 95 = .ok (.aload_n 0, 1) := by decide +kernel
theorem dX9_layOut_96 : decode cX9_layOut 96 = .ok (.getfield 20, 3) := by decide +kernel
theorem dX9_layOut_99 : decode cX9_layOut 99 = .ok (.aload_n 0, 1) := by decide +kernel
theorem dX9_layOut_100 : decode cX9_layOut 100 = .ok (.getfield 78, 3) := by decide +kernel
theorem dX9_layOut_103 : decode cX9_layOut 103 = .ok (.new 18, 3) := by decide +kernel
theorem dX9_layOut_106 : decode cX9_layOut 106 = .ok (.dup, 1) := by decide +kernel
theorem dX9_layOut_107 : decode cX9_layOut 107 = .ok (.invokespecial 173, 3) := by decide +kernel
theorem dX9_layOut_110 : decode cX9_layOut 110 = .ok (.aastore, 1) := by decide +kernel
theorem dX9_layOut_111 : decode cX9_layOut 111 = .ok (.aload_n 0, 1) := by decide +kernel
theorem dX9_layOut_112 : decode cX9_layOut 112 = .ok (.getfield 20, 3) := by decide +kernel
theorem dX9_layOut_115 : decode cX9_layOut 115 = .ok (.aload_n 0, 1) := by decide +kernel
theorem dX9_layOut_116 : decode cX9_layOut 116 = .ok (.getfield 78, 3) := by decide +kernel
theorem dX9_layOut_119 : decode cX9_layOut 119 = .ok (.aaload, 1) := by decide +kernel
theorem dX9_layOut_120 : decode cX9_layOut 120 = .ok (.iload_n 2, 1) := by decide +kernel
theorem dX9_layOut_121 : decode cX9_layOut 121 = .ok (.iload 4, 2) := by decide +kernel
theorem dX9_layOut_123 : decode cX9_layOut 123 = .ok (.invokevirtual 174, 3) := by decide +kernel
theorem dX9_layOut_126 : decode cX9_layOut 126 = .ok (.aload_n 0, 1) := by decide +kernel
theorem dX9_layOut_127 : decode cX9_layOut 127 = .ok (.dup, 1) := by decide +kernel
theorem dX9_layOut_128 : decode cX9_layOut 128 = .ok (.getfield 78, 3) := by decide +kernel
theorem dX9_layOut_131 : decode cX9_layOut 131 = .ok (.iconst 1, 1) := by decide +kernel
theorem dX9_layOut_132 : decode cX9_layOut 132 = .ok (.iadd, 1) := by decide +kernel
theorem dX9_layOut_133 : decode cX9_layOut 133 = .ok (.putfield 78, 3) := by decide +kernel
theorem dX9_layOut_136 : decode cX9_layOut 136 = .ok (.iinc 4 1, 3) := by decide +kernel
theorem dX9_layOut_139 : decode cX9_layOut 139 = .ok (.goto (-71), 3) := by decide +kernel
theorem dX9_layOut_142 : decode cX9_layOut 142 = .ok (.iinc 2 1, 3) := by decide +kernel
theorem dX9_layOut_145 : decode cX9_layOut 145 = .ok (.goto (-128), 3) := by decide +kernel
theorem dX9_layOut_148 : decode cX9_layOut 148 = .ok (.aload_n 0, 1) := by decide +kernel
theorem dX9_layOut_149 : decode cX9_layOut 149 = .ok (.getfield 30, 3) := by decide +kernel
theorem dX9_layOut_152 : decode cX9_layOut 152 = .ok (.aload_n 0, 1) := by decide +kernel
theorem dX9_layOut_153 : decode cX9_layOut 153 = .ok (.getfield 100, 3) := by decide +kernel
theorem dX9_layOut_156 : decode cX9_layOut 156 = .ok (.getfield 119, 3) := by decide +kernel
theorem dX9_layOut_159 : decode cX9_layOut 159 = .ok (.aload_n 0, 1) := by decide +kernel
theorem dX9_layOut_160 : decode cX9_layOut 160 = .ok (.getfield 78, 3) := by decide +kernel
theorem dX9_layOut_163 : decode cX9_layOut 163 = .ok (.iastore, 1) := by decide +kernel
theorem dX9_layOut_164 : decode cX9_layOut 164 = .ok (.iconst 0, 1) := by decide +kernel
theorem dX9_layOut_165 : decode cX9_layOut 165 = .ok (.istore_n 2, 1) := by decide +kernel
theorem dX9_layOut_166 : decode cX9_layOut 166 = .ok (.iload_n 2, 1) := by decide +kernel
theorem dX9_layOut_167 : decode cX9_layOut 167 = .ok (.aload_n 0, 1) := by decide +kernel
theorem dX9_layOut_168 : decode cX9_layOut 168 = .ok (.getfield 78, 3) := by decide +kernel
theorem dX9_layOut_171 : decode cX9_layOut 171 = .ok (.if_icmp .ge 97, 3) := by decide +kernel
theorem dX9_layOut_174 : decode cX9_layOut 174 = .ok (.aload_n 0, 1) := by decide +kernel
theorem dX9_layOut_175 : decode cX9_layOut 175 = .ok (.getfield 20, 3) := by decide +kernel
theorem dX9_layOut_178 : decode cX9_layOut 178 = .ok (.iload_n 2, 1) := by decide +kernel
theorem dX9_layOut_179 : decode cX9_layOut 179 = .ok (.aaload, 1) := by decide +kernel
theorem dX9_layOut_180 : decode cX9_layOut 180 = .ok (.aload_n 0, 1) := by decide +kernel
theorem dX9_layOut_181 : decode cX9_layOut 181 = .ok (.getfield 81, 3) := by decide +kernel
theorem dX9_layOut_184 : decode cX9_layOut 184 = .ok (.putfield 178, 3) := by decide +kernel
theorem dX9_layOut_187 : decode cX9_layOut 187 = .ok (.aload_n 0, 1) := by decide +kernel
theorem dX9_layOut_188 : decode cX9_layOut 188 = .ok (.iload_n 2, 1) := by decide +kernel
theorem dX9_layOut_189 : decode cX9_layOut 189 = .ok (.iconst 0, 1) := by decide +kernel
theorem dX9_layOut_190 : decode cX9_layOut 190 = .ok (.aload_n 0, 1) := by decide +kernel
theorem dX9_layOut_191 : decode cX9_layOut 191 = .ok (.getfield 100, 3) := by decide +kernel
theorem dX9_layOut_194 : decode cX9_layOut 194 = .ok (.getfield 160, 3) := by decide +kernel
theorem dX9_layOut_197 : decode cX9_layOut 197 = .ok (.aload_n 0, 1) := by decide +kernel
theorem dX9_layOut_198 : decode cX9_layOut 198 = .ok (.getfield 20, 3) := by decide +kernel
theorem dX9_layOut_201 : decode cX9_layOut 201 = .ok (.iload_n 2, 1) := by decide +kernel
theorem dX9_layOut_202 : decode cX9_layOut 202 = .ok (.aaload, 1) := by decide +kernel
theorem dX9_layOut_203 : decode cX9_layOut 203 = .ok (.getfield 181, 3) := by decide +kernel
theorem dX9_layOut_206 : decode cX9_layOut 206 = .ok (.aaload, 1) := by decide +kernel
theorem dX9_layOut_207 : decode cX9_layOut 207 = .ok (.getfield 184, 3) := by decide +kernel
theorem dX9_layOut_210 : decode cX9_layOut 210 = .ok (.invokevirtual 187, 3) := by decide +kernel
theorem dX9_layOut_213 : decode cX9_layOut 213 = .ok (.aload_n 0, 1) := by decide +kernel
theorem dX9_layOut_214 : decode cX9_layOut 214 = .ok (.iload_n 2, 1) := by decide +kernel
theorem dX9_layOut_215 : decode cX9_layOut 215 = .ok (.iconst 1, 1) := by decide +kernel
theorem dX9_layOut_216 : decode cX9_layOut 216 = .ok (.aload_n 0, 1) := by decide +kernel
theorem dX9_layOut_217 : decode cX9_layOut 217 = .ok (.getfield 100, 3) := by decide +kernel
theorem dX9_layOut_220 : decode cX9_layOut 220 = .ok (.getfield 160, 3) := by decide +kernel
theorem dX9_layOut_223 : decode cX9_layOut 223 = .ok (.aload_n 0, 1) := by decide +kernel
theorem dX9_layOut_224 : decode cX9_layOut 224 = .ok (.getfield 20, 3) := by decide +kernel
theorem dX9_layOut_227 : decode cX9_layOut 227 = .ok (.iload_n 2, 1) := by decide +kernel
theorem dX9_layOut_228 : decode cX9_layOut 228 = .ok (.aaload, 1) := by decide +kernel
theorem dX9_layOut_229 : decode cX9_layOut 229 = .ok (.getfield 181, 3) := by decide +kernel
theorem dX9_layOut_232 : decode cX9_layOut 232 = .ok (.aaload, 1) := by decide +kernel
theorem dX9_layOut_233 : decode cX9_layOut 233 = .ok (.getfield 191, 3) := by decide +kernel
theorem dX9_layOut_236 : decode cX9_layOut 236 = .ok (.invokevirtual 187, 3) := by decide +kernel
theorem dX9_layOut_239 : decode cX9_layOut 239 = .ok (.aload_n 0, 1) := by decide +kernel
theorem dX9_layOut_240 : decode cX9_layOut 240 = .ok (.getfield 20, 3) := by decide +kernel
theorem dX9_layOut_243 : decode cX9_layOut 243 = .ok (.iload_n 2, 1) := by decide +kernel
theorem dX9_layOut_244 : decode cX9_layOut 244 = .ok (.aaload, 1) := by decide +kernel
theorem dX9_layOut_245 : decode cX9_layOut 245 = .ok (.aload_n 0, 1) := by decide +kernel
theorem dX9_layOut_246 : decode cX9_layOut 246 = .ok (.getfield 81, 3) := by decide +kernel
theorem dX9_layOut_249 : decode cX9_layOut 249 = .ok (.aload_n 0, 1) := by decide +kernel
theorem dX9_layOut_250 : decode cX9_layOut 250 = .ok (.getfield 20, 3) := by decide +kernel
theorem dX9_layOut_253 : decode cX9_layOut 253 = .ok (.iload_n 2, 1) := by decide +kernel
theorem dX9_layOut_254 : decode cX9_layOut 254 = .ok (.aaload, 1) := by decide +kernel
theorem dX9_layOut_255 : decode cX9_layOut 255 = .ok (.getfield 178, 3) := by decide +kernel
theorem dX9_layOut_258 : decode cX9_layOut 258 = .ok (.isub, 1) := by decide +kernel
theorem dX9_layOut_259 : decode cX9_layOut 259 = .ok (.putfield 194, 3) := by decide +kernel
theorem dX9_layOut_262 : decode cX9_layOut 262 = .ok (.iinc 2 1, 3) := by decide +kernel
theorem dX9_layOut_265 : decode cX9_layOut 265 = .ok (.goto (-99), 3) := by decide +kernel
theorem dX9_layOut_268 : decode cX9_layOut 268 = .ok (.return_, 1) := by decide +kernel
set_option maxRecDepth 20000 in
theorem a_X9_layOut_268 {Q : Sg → Unit → Prop} {X : Sg → String → Prop} {th : Nat} (K : MD l R p s m args c cX9_layOut 5 RX9 D cA tys A n0 s0 5 102 []) (hQ : CQV p l e R s m args below meth c cX9_layOut D cA A n0 s0 QM σi Q) (hX : CX p l e R s m args below meth c 5 D cA A n0 s0 QM σi X) (hTh : CT p l e R s m args below meth c cX9_layOut 5 D cA A n0 s0 QM σi RX9 X) : ∀ (σ : Sg), w_X9_layOut_268 th Q X σ → RG σ → TY σ → Ext σi σ → kO σ th 9 → JJ p l e R s m args below meth c 5 D cA A n0 s0 QM σ 268 [(0, .ref th)] [] := by
  intro σ h hGσ hYσ hE hth H locs ls hH hl hc
  have B := K.1
  have hl9 := K.2.2.2.2.2.2
  unfold w_X9_layOut_268 at h
  exact hQ _ _ _ _ _ dX9_layOut_268 hH hc h hGσ hYσ hE
set_option maxRecDepth 20000 in
theorem a_X9_layOut_174 {Q : Sg → Unit → Prop} {X : Sg → String → Prop} {th : Nat} (K : MD l R p s m args c cX9_layOut 5 RX9 D cA tys A n0 s0 5 102 []) (hQ : CQV p l e R s m args below meth c cX9_layOut D cA A n0 s0 QM σi Q) (hX : CX p l e R s m args below meth c 5 D cA A n0 s0 QM σi X) (hTh : CT p l e R s m args below meth c cX9_layOut 5 D cA A n0 s0 QM σi RX9 X) {K166 : Sg → Int → Prop} (hK166 : ∀ (σ : Sg) (v2 : Int) (g2 : rng v2), K166 σ v2 → RG σ → TY σ → Ext σi σ → kO σ th 9 → JJ p l e R s m args below meth c 5 D cA A n0 s0 QM σ 166 [(0, .ref th), (2, .int (i32 v2))] []) : ∀ (σ : Sg) (v2 : Int) (g2 : rng v2), w_X9_layOut_174 th K166 Q X σ v2 → RG σ → TY σ → Ext σi σ → kO σ th 9 → JJ p l e R s m args below meth c 5 D cA A n0 s0 QM σ 174 [(0, .ref th), (2, .int (i32 v2))] [] := by
  intro σ v2 g2 h hGσ hYσ hE hth H locs ls hH hl hc
  have B := K.1
  have hl9 := K.2.2.2.2.2.2
  unfold w_X9_layOut_174 at h
  refine lv_aload_n B.1 B.2.1 dX9_layOut_174 rfl (lv_at hl 0 rfl) ?_
  refine f_getp B hH hth (by decide) rfl wu_X9 3 (by decide) wf_X9_20 rfl rfl dX9_layOut_175 ?_
  refine lv_iload_n B.1 B.2.1 dX9_layOut_178 rfl (lv_at hl 1 rfl) ?_
  obtain ⟨a85, ea85, h⟩ := h
  have ka85 : kO σ a85 120 := (hYσ.get hth (by decide)) a85 ea85
  have h := h ka85
  obtain ⟨q1, h⟩ := h
  refine W.eq (g2 := F0 m 179 ls [.int (i32 v2), .ref a85]) (by rw [ea85]; rfl) ?_
  refine y_aald B hH (t0 := 7) ka85 (by decide) K.2.1.2.2.2.2.1 q1 (hYσ.2 _) dX9_layOut_179 ?_
  refine lv_aload_n B.1 B.2.1 dX9_layOut_180 rfl (lv_at hl 0 rfl) ?_
  refine f_geti B hH hth (by decide) rfl wu_X9 11 (by decide) wf_X9_81 rfl rfl dX9_layOut_181 ?_
  obtain ⟨a86, ea86, h⟩ := h
  have ka86 : kO σ a86 10 := (hYσ.get ka85 rfl) a86 ea86
  have h := h ka86
  obtain ⟨σ87, eσ87⟩ : ∃ z, z = pI σ a86 11 (gI σ th 11) := ⟨_, rfl⟩
  have h := h σ87 eσ87
  refine W.eq (g2 := F0 m 184 ls [.int (i32 (gI σ th 11)), .ref a86]) (by rw [ea86]; rfl) ?_
  refine f_puti B hH ka86 (by decide) rfl wu_X10 tyX10 tyX10_ok nmX10 11 (by decide) wf_X9_178 rfl (ty := .int) rfl rfl rfl rfl rfl dX9_layOut_184 (fun H locs hH => ?_)
  have hH : Hd D cA A s (pI σ a86 11 (gI σ th 11)) H locs := hH
  rw [← eσ87] at hH
  have hGσ87 : RG σ87 := by rw [eσ87]; exact hGσ.pI (hGσ _ _)
  have hYσ87 : TY σ87 := by rw [eσ87]; exact hYσ.pI
  have xσ87 : Ext σ σ87 := by rw [eσ87]; exact Ext.pI
  have hc : CB n0 s0 σ87 := by rw [eσ87]; exact hc
  rw [show gc σ = gc σ87 by rw [eσ87]; try rfl, show gs σ = gs σ87 by rw [eσ87]; try rfl]
  refine lv_aload_n B.1 B.2.1 dX9_layOut_187 rfl (lv_at hl 0 rfl) ?_
  refine lv_iload_n B.1 B.2.1 dX9_layOut_188 rfl (lv_at hl 1 rfl) ?_
  refine lv_iconst (v := i32 0) B.1 B.2.1 dX9_layOut_189 (by decide) ?_
  refine lv_aload_n B.1 B.2.1 dX9_layOut_190 rfl (lv_at hl 0 rfl) ?_
  refine f_getp B hH (hth.up xσ87) (by decide) rfl wu_X9 9 (by decide) wf_X9_100 rfl rfl dX9_layOut_191 ?_
  obtain ⟨a88, ea88, h⟩ := h
  have ka88 : kO σ87 a88 4 := (hYσ87.get (hth.up xσ87) (by decide)) a88 ea88
  have h := h ka88
  refine W.eq (g2 := F0 m 194 ls [.ref a88, .int (i32 0), .int (i32 v2), .ref th]) (by rw [ea88]; rfl) ?_
  refine f_getp B hH ka88 (by decide) rfl wu_X4 0 (by decide) wf_X9_160 rfl rfl dX9_layOut_194 ?_
  refine lv_aload_n B.1 B.2.1 dX9_layOut_197 rfl (lv_at hl 0 rfl) ?_
  refine f_getp B hH (hth.up xσ87) (by decide) rfl wu_X9 3 (by decide) wf_X9_20 rfl rfl dX9_layOut_198 ?_
  refine lv_iload_n B.1 B.2.1 dX9_layOut_201 rfl (lv_at hl 1 rfl) ?_
  obtain ⟨a89, ea89, h⟩ := h
  have ka89 : kO σ87 a89 120 := (hYσ87.get (hth.up xσ87) (by decide)) a89 ea89
  have h := h ka89
  obtain ⟨q2, h⟩ := h
  refine W.eq (g2 := F0 m 202 ls [.int (i32 v2), .ref a89, va_rf (gP σ87 a88 0), .int (i32 0), .int (i32 v2), .ref th]) (by rw [ea89]; rfl) ?_
  refine y_aald B hH (t0 := 7) ka89 (by decide) K.2.1.2.2.2.2.1 q2 (hYσ87.2 _) dX9_layOut_202 ?_
  obtain ⟨a90, ea90, h⟩ := h
  have ka90 : kO σ87 a90 10 := (hYσ87.get ka89 rfl) a90 ea90
  have h := h ka90
  refine W.eq (g2 := F0 m 203 ls [.ref a90, va_rf (gP σ87 a88 0), .int (i32 0), .int (i32 v2), .ref th]) (by rw [ea90]; rfl) ?_
  refine f_geti B hH ka90 (by decide) rfl wu_X10 0 (by decide) wf_X9_181 rfl rfl dX9_layOut_203 ?_
  obtain ⟨a91, ea91, h⟩ := h
  have ka91 : kO σ87 a91 115 := (hYσ87.get ka88 (by decide)) a91 ea91
  have h := h ka91
  obtain ⟨q3, h⟩ := h
  refine W.eq (g2 := F0 m 206 ls [.int (i32 (gI σ87 a90 0)), .ref a91, .int (i32 0), .int (i32 v2), .ref th]) (by rw [ea91]; rfl) ?_
  refine y_aald B hH (t0 := 6) ka91 (by decide) K.2.1.2.2.2.1 q3 (hYσ87.2 _) dX9_layOut_206 ?_
  obtain ⟨a92, ea92, h⟩ := h
  have ka92 : kO σ87 a92 5 := (hYσ87.get ka91 rfl) a92 ea92
  have h := h ka92
  refine W.eq (g2 := F0 m 207 ls [.ref a92, .int (i32 0), .int (i32 v2), .ref th]) (by rw [ea92]; rfl) ?_
  refine f_geti B hH ka92 (by decide) rfl wu_X5 7 (by decide) wf_X9_184 rfl rfl dX9_layOut_207 ?_
  refine W.eq (g2 := F0 m 210 ls [.int (i32 (gI σ87 a92 7)), .int (i32 0), .int (i32 v2), .ref th]) (rfl) ?_
  refine c_V B hH hl hc K.2.2.1 (C := RX9) (T := TX9) (N := 20) (ci := 9) (As := [.int (i32 v2), .int (i32 0), .int (i32 (gI σ87 a92 7))]) (ok_X9_connect hl9 K.2.1 σ87 th v2 0 (gI σ87 a92 7) g2 (by unfold rng; omega) (hGσ87 _ _) (hth.up xσ87) hGσ87 hYσ87 h) wc_X9_187 3 hd_X9_connect ⟨Nat.le_trans (Nat.le_of_ble_eq_true rfl) K.2.2.2.1, Nat.le_trans (Nat.le_of_ble_eq_true rfl) K.2.2.2.2.1⟩ (hth.up xσ87).1 (hth.up xσ87).2 (by decide) rfl rfl (rest := []) rfl (Nat.le_of_ble_eq_true rfl) dX9_layOut_210 (fun σ93 w hq => ?_) (fun σ9 E9 hx9 => hX σ9 E9 _ _ _ (tb_out K.2.2.2.2.2.1 rfl) hx9.1 hx9.2.1 hx9.2.2.1 ((hE.trans xσ87).trans hx9.2.2.2))
  obtain ⟨rfl, h, hGσ93, hYσ93, xσ93⟩ := hq
  have h := h xσ93
  intro H locs ls hH hl hc
  refine W.eq (g2 := F0 m 213 ls []) (rfl) ?_
  try dsimp only at h
  refine lv_aload_n B.1 B.2.1 dX9_layOut_213 rfl (lv_at hl 0 rfl) ?_
  refine lv_iload_n B.1 B.2.1 dX9_layOut_214 rfl (lv_at hl 1 rfl) ?_
  refine lv_iconst (v := i32 1) B.1 B.2.1 dX9_layOut_215 (by decide) ?_
  refine lv_aload_n B.1 B.2.1 dX9_layOut_216 rfl (lv_at hl 0 rfl) ?_
  refine f_getp B hH (hth.up (xσ87.trans xσ93)) (by decide) rfl wu_X9 9 (by decide) wf_X9_100 rfl rfl dX9_layOut_217 ?_
  obtain ⟨a94, ea94, h⟩ := h
  have ka94 : kO σ93 a94 4 := (hYσ93.get (hth.up (xσ87.trans xσ93)) (by decide)) a94 ea94
  have h := h ka94
  refine W.eq (g2 := F0 m 220 ls [.ref a94, .int (i32 1), .int (i32 v2), .ref th]) (by rw [ea94]; rfl) ?_
  refine f_getp B hH ka94 (by decide) rfl wu_X4 0 (by decide) wf_X9_160 rfl rfl dX9_layOut_220 ?_
  refine lv_aload_n B.1 B.2.1 dX9_layOut_223 rfl (lv_at hl 0 rfl) ?_
  refine f_getp B hH (hth.up (xσ87.trans xσ93)) (by decide) rfl wu_X9 3 (by decide) wf_X9_20 rfl rfl dX9_layOut_224 ?_
  refine lv_iload_n B.1 B.2.1 dX9_layOut_227 rfl (lv_at hl 1 rfl) ?_
  obtain ⟨a95, ea95, h⟩ := h
  have ka95 : kO σ93 a95 120 := (hYσ93.get (hth.up (xσ87.trans xσ93)) (by decide)) a95 ea95
  have h := h ka95
  obtain ⟨q4, h⟩ := h
  refine W.eq (g2 := F0 m 228 ls [.int (i32 v2), .ref a95, va_rf (gP σ93 a94 0), .int (i32 1), .int (i32 v2), .ref th]) (by rw [ea95]; rfl) ?_
  refine y_aald B hH (t0 := 7) ka95 (by decide) K.2.1.2.2.2.2.1 q4 (hYσ93.2 _) dX9_layOut_228 ?_
  obtain ⟨a96, ea96, h⟩ := h
  have ka96 : kO σ93 a96 10 := (hYσ93.get ka95 rfl) a96 ea96
  have h := h ka96
  refine W.eq (g2 := F0 m 229 ls [.ref a96, va_rf (gP σ93 a94 0), .int (i32 1), .int (i32 v2), .ref th]) (by rw [ea96]; rfl) ?_
  refine f_geti B hH ka96 (by decide) rfl wu_X10 0 (by decide) wf_X9_181 rfl rfl dX9_layOut_229 ?_
  obtain ⟨a97, ea97, h⟩ := h
  have ka97 : kO σ93 a97 115 := (hYσ93.get ka94 (by decide)) a97 ea97
  have h := h ka97
  obtain ⟨q5, h⟩ := h
  refine W.eq (g2 := F0 m 232 ls [.int (i32 (gI σ93 a96 0)), .ref a97, .int (i32 1), .int (i32 v2), .ref th]) (by rw [ea97]; rfl) ?_
  refine y_aald B hH (t0 := 6) ka97 (by decide) K.2.1.2.2.2.1 q5 (hYσ93.2 _) dX9_layOut_232 ?_
  obtain ⟨a98, ea98, h⟩ := h
  have ka98 : kO σ93 a98 5 := (hYσ93.get ka97 rfl) a98 ea98
  have h := h ka98
  refine W.eq (g2 := F0 m 233 ls [.ref a98, .int (i32 1), .int (i32 v2), .ref th]) (by rw [ea98]; rfl) ?_
  refine f_geti B hH ka98 (by decide) rfl wu_X5 8 (by decide) wf_X9_191 rfl rfl dX9_layOut_233 ?_
  refine W.eq (g2 := F0 m 236 ls [.int (i32 (gI σ93 a98 8)), .int (i32 1), .int (i32 v2), .ref th]) (rfl) ?_
  refine c_V B hH hl hc K.2.2.1 (C := RX9) (T := TX9) (N := 20) (ci := 9) (As := [.int (i32 v2), .int (i32 1), .int (i32 (gI σ93 a98 8))]) (ok_X9_connect hl9 K.2.1 σ93 th v2 1 (gI σ93 a98 8) g2 (by unfold rng; omega) (hGσ93 _ _) (hth.up (xσ87.trans xσ93)) hGσ93 hYσ93 h) wc_X9_187 3 hd_X9_connect ⟨Nat.le_trans (Nat.le_of_ble_eq_true rfl) K.2.2.2.1, Nat.le_trans (Nat.le_of_ble_eq_true rfl) K.2.2.2.2.1⟩ (hth.up (xσ87.trans xσ93)).1 (hth.up (xσ87.trans xσ93)).2 (by decide) rfl rfl (rest := []) rfl (Nat.le_of_ble_eq_true rfl) dX9_layOut_236 (fun σ99 w hq => ?_) (fun σ9 E9 hx9 => hX σ9 E9 _ _ _ (tb_out K.2.2.2.2.2.1 rfl) hx9.1 hx9.2.1 hx9.2.2.1 (((hE.trans xσ87).trans xσ93).trans hx9.2.2.2))
  obtain ⟨rfl, h, hGσ99, hYσ99, xσ99⟩ := hq
  have h := h xσ99
  intro H locs ls hH hl hc
  refine W.eq (g2 := F0 m 239 ls []) (rfl) ?_
  try dsimp only at h
  refine lv_aload_n B.1 B.2.1 dX9_layOut_239 rfl (lv_at hl 0 rfl) ?_
  refine f_getp B hH (hth.up (xσ87.trans (xσ93.trans xσ99))) (by decide) rfl wu_X9 3 (by decide) wf_X9_20 rfl rfl dX9_layOut_240 ?_
  refine lv_iload_n B.1 B.2.1 dX9_layOut_243 rfl (lv_at hl 1 rfl) ?_
  obtain ⟨a100, ea100, h⟩ := h
  have ka100 : kO σ99 a100 120 := (hYσ99.get (hth.up (xσ87.trans (xσ93.trans xσ99))) (by decide)) a100 ea100
  have h := h ka100
  obtain ⟨q6, h⟩ := h
  refine W.eq (g2 := F0 m 244 ls [.int (i32 v2), .ref a100]) (by rw [ea100]; rfl) ?_
  refine y_aald B hH (t0 := 7) ka100 (by decide) K.2.1.2.2.2.2.1 q6 (hYσ99.2 _) dX9_layOut_244 ?_
  refine lv_aload_n B.1 B.2.1 dX9_layOut_245 rfl (lv_at hl 0 rfl) ?_
  refine f_geti B hH (hth.up (xσ87.trans (xσ93.trans xσ99))) (by decide) rfl wu_X9 11 (by decide) wf_X9_81 rfl rfl dX9_layOut_246 ?_
  refine lv_aload_n B.1 B.2.1 dX9_layOut_249 rfl (lv_at hl 0 rfl) ?_
  refine f_getp B hH (hth.up (xσ87.trans (xσ93.trans xσ99))) (by decide) rfl wu_X9 3 (by decide) wf_X9_20 rfl rfl dX9_layOut_250 ?_
  refine lv_iload_n B.1 B.2.1 dX9_layOut_253 rfl (lv_at hl 1 rfl) ?_
  obtain ⟨q7, h⟩ := h
  refine W.eq (g2 := F0 m 254 ls [.int (i32 v2), .ref a100, .int (i32 (gI σ99 th 11)), va_rf (gP σ99 a100 v2.toNat)]) (by rw [ea100]; rfl) ?_
  refine y_aald B hH (t0 := 7) ka100 (by decide) K.2.1.2.2.2.2.1 q7 (hYσ99.2 _) dX9_layOut_254 ?_
  obtain ⟨a101, ea101, h⟩ := h
  have ka101 : kO σ99 a101 10 := (hYσ99.get ka100 rfl) a101 ea101
  have h := h ka101
  refine W.eq (g2 := F0 m 255 ls [.ref a101, .int (i32 (gI σ99 th 11)), va_rf (gP σ99 a100 v2.toNat)]) (by rw [ea101]; rfl) ?_
  refine f_geti B hH ka101 (by decide) rfl wu_X10 11 (by decide) wf_X9_178 rfl rfl dX9_layOut_255 ?_
  obtain ⟨q8, h⟩ := h
  refine lv_isub B.1 B.2.1 dX9_layOut_258 ?_
  rw [i32_sub]
  obtain ⟨σ102, eσ102⟩ : ∃ z, z = pI σ99 a101 12 (gI σ99 th 11 - gI σ99 a101 11) := ⟨_, rfl⟩
  have h := h σ102 eσ102
  refine W.eq (g2 := F0 m 259 ls [.int (i32 (gI σ99 th 11 - gI σ99 a101 11)), .ref a101]) (by rw [ea101]; rfl) ?_
  refine f_puti B hH ka101 (by decide) rfl wu_X10 tyX10 tyX10_ok nmX10 12 (by decide) wf_X9_194 rfl (ty := .int) rfl rfl rfl rfl rfl dX9_layOut_259 (fun H locs hH => ?_)
  have hH : Hd D cA A s (pI σ99 a101 12 (gI σ99 th 11 - gI σ99 a101 11)) H locs := hH
  rw [← eσ102] at hH
  have hGσ102 : RG σ102 := by rw [eσ102]; exact hGσ99.pI q8
  have hYσ102 : TY σ102 := by rw [eσ102]; exact hYσ99.pI
  have xσ102 : Ext σ99 σ102 := by rw [eσ102]; exact Ext.pI
  have hc : CB n0 s0 σ102 := by rw [eσ102]; exact hc
  rw [show gc σ99 = gc σ102 by rw [eσ102]; try rfl, show gs σ99 = gs σ102 by rw [eσ102]; try rfl]
  obtain ⟨q9, h⟩ := h
  refine lv_iinc (k := 1) (v := i32 (v2 + 1)) (lv' := [(2, .int (i32 (v2 + 1))), (0, .ref th)]) B.1 B.2.1 dX9_layOut_262 hl rfl (i32_add _ _) (by decide) rfl (fun ls hl => ?_)
  refine lv_goto (tgt := 166) B.1 B.2.1 dX9_layOut_265 (by decide) ?_
  exact hK166 _ _ q9 h hGσ102 hYσ102 ((((hE.trans xσ87).trans xσ93).trans xσ99).trans xσ102) (hth.up (xσ87.trans (xσ93.trans (xσ99.trans xσ102)))) _ _ _ hH (lv_sub (l' := [(0, .ref th), (2, .int (i32 (v2 + 1)))]) hl [1, 0] rfl) hc
set_option maxRecDepth 20000 in
theorem a_X9_layOut_166 {Q : Sg → Unit → Prop} {X : Sg → String → Prop} {th : Nat} (K : MD l R p s m args c cX9_layOut 5 RX9 D cA tys A n0 s0 5 102 []) (hQ : CQV p l e R s m args below meth c cX9_layOut D cA A n0 s0 QM σi Q) (hX : CX p l e R s m args below meth c 5 D cA A n0 s0 QM σi X) (hTh : CT p l e R s m args below meth c cX9_layOut 5 D cA A n0 s0 QM σi RX9 X) {K166 : Sg → Int → Prop} (hK166 : ∀ (σ : Sg) (v2 : Int) (g2 : rng v2), K166 σ v2 → RG σ → TY σ → Ext σi σ → kO σ th 9 → JJ p l e R s m args below meth c 5 D cA A n0 s0 QM σ 166 [(0, .ref th), (2, .int (i32 v2))] []) : ∀ (σ : Sg) (v2 : Int) (g2 : rng v2), w_X9_layOut_166 th K166 Q X σ v2 → RG σ → TY σ → Ext σi σ → kO σ th 9 → JJ p l e R s m args below meth c 5 D cA A n0 s0 QM σ 166 [(0, .ref th), (2, .int (i32 v2))] [] := by
  intro σ v2 g2 h hGσ hYσ hE hth H locs ls hH hl hc
  have B := K.1
  have hl9 := K.2.2.2.2.2.2
  unfold w_X9_layOut_166 at h
  refine lv_iload_n B.1 B.2.1 dX9_layOut_166 rfl (lv_at hl 1 rfl) ?_
  refine lv_aload_n B.1 B.2.1 dX9_layOut_167 rfl (lv_at hl 0 rfl) ?_
  refine f_geti B hH hth (by decide) rfl wu_X9 10 (by decide) wf_X9_78 rfl rfl dX9_layOut_168 ?_
  refine lv_icmp_ge (tgt := 268) B.1 B.2.1 dX9_layOut_171 (by decide) (fun h9 => ?_) (fun h9 => ?_)
  · rw [if_pos ((i32_le (hGσ _ _) g2).mp h9)] at h
    exact a_X9_layOut_268 K hQ hX hTh _ h hGσ hYσ hE hth _ _ _ hH (lv_sub (l' := [(0, .ref th)]) hl [0] rfl) hc
  · rw [if_neg (fun q => h9 ((i32_le (hGσ _ _) g2).mpr q))] at h
    exact a_X9_layOut_174 K hQ hX hTh hK166 _ _ g2 h hGσ hYσ hE hth _ _ _ hH (lv_sub (l' := [(0, .ref th), (2, .int (i32 v2))]) hl [0, 1] rfl) hc
theorem al_X9_layOut_166 {Q : Sg → Unit → Prop} {X : Sg → String → Prop} {th : Nat} (K : MD l R p s m args c cX9_layOut 5 RX9 D cA tys A n0 s0 5 102 []) (hQ : CQV p l e R s m args below meth c cX9_layOut D cA A n0 s0 QM σi Q) (hX : CX p l e R s m args below meth c 5 D cA A n0 s0 QM σi X) (hTh : CT p l e R s m args below meth c cX9_layOut 5 D cA A n0 s0 QM σi RX9 X) : ∀ (n : Nat), ∀ (σ : Sg) (v2 : Int) (g2 : rng v2), wl_X9_layOut_166 th Q X n σ v2 → RG σ → TY σ → Ext σi σ → kO σ th 9 → JJ p l e R s m args below meth c 5 D cA A n0 s0 QM σ 166 [(0, .ref th), (2, .int (i32 v2))] [] := by
  intro n
  induction n with
  | zero => intro σ v2 g2 h; exact h.elim
  | succ n ih => exact fun σ v2 g2 h => a_X9_layOut_166 K hQ hX hTh ih σ v2 g2 h
set_option maxRecDepth 20000 in
theorem a_X9_layOut_148 {Q : Sg → Unit → Prop} {X : Sg → String → Prop} {th : Nat} (K : MD l R p s m args c cX9_layOut 5 RX9 D cA tys A n0 s0 5 102 []) (hQ : CQV p l e R s m args below meth c cX9_layOut D cA A n0 s0 QM σi Q) (hX : CX p l e R s m args below meth c 5 D cA A n0 s0 QM σi X) (hTh : CT p l e R s m args below meth c cX9_layOut 5 D cA A n0 s0 QM σi RX9 X) : ∀ (σ : Sg), w_X9_layOut_148 th Q X σ → RG σ → TY σ → Ext σi σ → kO σ th 9 → JJ p l e R s m args below meth c 5 D cA A n0 s0 QM σ 148 [(0, .ref th)] [] := by
  intro σ h hGσ hYσ hE hth H locs ls hH hl hc
  have B := K.1
  have hl9 := K.2.2.2.2.2.2
  unfold w_X9_layOut_148 at h
  refine lv_aload_n B.1 B.2.1 dX9_layOut_148 rfl (lv_at hl 0 rfl) ?_
  refine f_getp B hH hth (by decide) rfl wu_X9 5 (by decide) wf_X9_30 rfl rfl dX9_layOut_149 ?_
  refine lv_aload_n B.1 B.2.1 dX9_layOut_152 rfl (lv_at hl 0 rfl) ?_
  refine f_getp B hH hth (by decide) rfl wu_X9 9 (by decide) wf_X9_100 rfl rfl dX9_layOut_153 ?_
  obtain ⟨a103, ea103, h⟩ := h
  have ka103 : kO σ a103 4 := (hYσ.get hth (by decide)) a103 ea103
  have h := h ka103
  refine W.eq (g2 := F0 m 156 ls [.ref a103, va_rf (gP σ th 5)]) (by rw [ea103]; rfl) ?_
  refine f_geti B hH ka103 (by decide) rfl wu_X4 1 (by decide) wf_X9_119 rfl rfl dX9_layOut_156 ?_
  refine lv_aload_n B.1 B.2.1 dX9_layOut_159 rfl (lv_at hl 0 rfl) ?_
  refine f_geti B hH hth (by decide) rfl wu_X9 10 (by decide) wf_X9_78 rfl rfl dX9_layOut_160 ?_
  obtain ⟨a104, ea104, h⟩ := h
  have ka104 : kO σ a104 100 := (hYσ.get hth (by decide)) a104 ea104
  have h := h ka104
  obtain ⟨q1, h⟩ := h
  obtain ⟨σ105, eσ105⟩ : ∃ z, z = pI σ a104 (gI σ a103 1).toNat (gI σ th 10) := ⟨_, rfl⟩
  have h := h σ105 eσ105
  refine W.eq (g2 := F0 m 163 ls [.int (i32 (gI σ th 10)), .int (i32 (gI σ a103 1)), .ref a104]) (by rw [ea104]; rfl) ?_
  refine y_iast B K.2.1 hH ka104 q1 dX9_layOut_163 (hYσ.2 _) (fun H locs hH => ?_)
  have hH : Hd D cA A s (pI σ a104 (gI σ a103 1).toNat (gI σ th 10)) H locs := hH
  rw [← eσ105] at hH
  have hGσ105 : RG σ105 := by rw [eσ105]; exact hGσ.pI (hGσ _ _)
  have hYσ105 : TY σ105 := by rw [eσ105]; exact hYσ.pI
  have xσ105 : Ext σ σ105 := by rw [eσ105]; exact Ext.pI
  have hc : CB n0 s0 σ105 := by rw [eσ105]; exact hc
  rw [show gc σ = gc σ105 by rw [eσ105]; try rfl, show gs σ = gs σ105 by rw [eσ105]; try rfl]
  refine lv_iconst (v := i32 0) B.1 B.2.1 dX9_layOut_164 (by decide) ?_
  refine lv_istore_n (lv' := [(2, .int (i32 0)), (0, .ref th)]) B.1 B.2.1 dX9_layOut_165 rfl hl (by decide) rfl (fun ls hl => ?_)
  obtain ⟨n9, h⟩ := h
  exact al_X9_layOut_166 K hQ hX hTh n9 _ _ (by unfold rng; omega) h hGσ105 hYσ105 (hE.trans xσ105) (hth.up xσ105) _ _ _ hH (lv_sub (l' := [(0, .ref th), (2, .int (i32 0))]) hl [1, 0] rfl) hc
set_option maxRecDepth 20000 in
theorem a_X9_layOut_142 {Q : Sg → Unit → Prop} {X : Sg → String → Prop} {th : Nat} (K : MD l R p s m args c cX9_layOut 5 RX9 D cA tys A n0 s0 5 102 []) (hQ : CQV p l e R s m args below meth c cX9_layOut D cA A n0 s0 QM σi Q) (hX : CX p l e R s m args below meth c 5 D cA A n0 s0 QM σi X) (hTh : CT p l e R s m args below meth c cX9_layOut 5 D cA A n0 s0 QM σi RX9 X) {K17 : Sg → Int → Prop} (hK17 : ∀ (σ : Sg) (v2 : Int) (g2 : rng v2), K17 σ v2 → RG σ → TY σ → Ext σi σ → kO σ th 9 → JJ p l e R s m args below meth c 5 D cA A n0 s0 QM σ 17 [(0, .ref th), (2, .int (i32 v2))] []) : ∀ (σ : Sg) (v2 : Int) (g2 : rng v2), w_X9_layOut_142 th K17 Q X σ v2 → RG σ → TY σ → Ext σi σ → kO σ th 9 → JJ p l e R s m args below meth c 5 D cA A n0 s0 QM σ 142 [(0, .ref th), (2, .int (i32 v2))] [] := by
  intro σ v2 g2 h hGσ hYσ hE hth H locs ls hH hl hc
  have B := K.1
  have hl9 := K.2.2.2.2.2.2
  unfold w_X9_layOut_142 at h
  obtain ⟨q1, h⟩ := h
  refine lv_iinc (k := 1) (v := i32 (v2 + 1)) (lv' := [(2, .int (i32 (v2 + 1))), (0, .ref th)]) B.1 B.2.1 dX9_layOut_142 hl rfl (i32_add _ _) (by decide) rfl (fun ls hl => ?_)
  refine lv_goto (tgt := 17) B.1 B.2.1 dX9_layOut_145 (by decide) ?_
  exact hK17 _ _ q1 h hGσ hYσ hE hth _ _ _ hH (lv_sub (l' := [(0, .ref th), (2, .int (i32 (v2 + 1)))]) hl [1, 0] rfl) hc
set_option maxRecDepth 20000 in
theorem a_X9_layOut_111 {Q : Sg → Unit → Prop} {X : Sg → String → Prop} {th : Nat} (K : MD l R p s m args c cX9_layOut 5 RX9 D cA tys A n0 s0 5 102 []) (hQ : CQV p l e R s m args below meth c cX9_layOut D cA A n0 s0 QM σi Q) (hX : CX p l e R s m args below meth c 5 D cA A n0 s0 QM σi X) (hTh : CT p l e R s m args below meth c cX9_layOut 5 D cA A n0 s0 QM σi RX9 X) {K17 : Sg → Int → Prop} (hK17 : ∀ (σ : Sg) (v2 : Int) (g2 : rng v2), K17 σ v2 → RG σ → TY σ → Ext σi σ → kO σ th 9 → JJ p l e R s m args below meth c 5 D cA A n0 s0 QM σ 17 [(0, .ref th), (2, .int (i32 v2))] []) {K68 : Sg → Int → Int → Int → Prop} (hK68 : ∀ (σ : Sg) (v2 : Int) (v3 : Int) (v4 : Int) (g2 : rng v2) (g3 : rng v3) (g4 : rng v4), K68 σ v2 v3 v4 → RG σ → TY σ → Ext σi σ → kO σ th 9 → JJ p l e R s m args below meth c 5 D cA A n0 s0 QM σ 68 [(0, .ref th), (2, .int (i32 v2)), (3, .int (i32 v3)), (4, .int (i32 v4))] []) : ∀ (σ : Sg) (v2 : Int) (v3 : Int) (v4 : Int) (g2 : rng v2) (g3 : rng v3) (g4 : rng v4), w_X9_layOut_111 th K17 K68 Q X σ v2 v3 v4 → RG σ → TY σ → Ext σi σ → kO σ th 9 → JJ p l e R s m args below meth c 5 D cA A n0 s0 QM σ 111 [(0, .ref th), (2, .int (i32 v2)), (3, .int (i32 v3)), (4, .int (i32 v4))] [] := by
  intro σ v2 v3 v4 g2 g3 g4 h hGσ hYσ hE hth H locs ls hH hl hc
  have B := K.1
  have hl9 := K.2.2.2.2.2.2
  unfold w_X9_layOut_111 at h
  refine lv_aload_n B.1 B.2.1 dX9_layOut_111 rfl (lv_at hl 0 rfl) ?_
  refine f_getp B hH hth (by decide) rfl wu_X9 3 (by decide) wf_X9_20 rfl rfl dX9_layOut_112 ?_
  refine lv_aload_n B.1 B.2.1 dX9_layOut_115 rfl (lv_at hl 0 rfl) ?_
  refine f_geti B hH hth (by decide) rfl wu_X9 10 (by decide) wf_X9_78 rfl rfl dX9_layOut_116 ?_
  obtain ⟨a106, ea106, h⟩ := h
  have ka106 : kO σ a106 120 := (hYσ.get hth (by decide)) a106 ea106
  have h := h ka106
  obtain ⟨q1, h⟩ := h
  refine W.eq (g2 := F0 m 119 ls [.int (i32 (gI σ th 10)), .ref a106]) (by rw [ea106]; rfl) ?_
  refine y_aald B hH (t0 := 7) ka106 (by decide) K.2.1.2.2.2.2.1 q1 (hYσ.2 _) dX9_layOut_119 ?_
  refine lv_iload_n B.1 B.2.1 dX9_layOut_120 rfl (lv_at hl 1 rfl) ?_
  refine lv_iload B.1 B.2.1 dX9_layOut_121 (lv_at hl 3 rfl) ?_
  obtain ⟨a108, ea108, h⟩ := h
  have ka108 : kO σ a108 10 := (hYσ.get ka106 rfl) a108 ea108
  have h := h ka108
  refine W.eq (g2 := F0 m 123 ls [.int (i32 v4), .int (i32 v2), .ref a108]) (by rw [ea108]; rfl) ?_
  refine c_V B hH hl hc K.2.2.1 (C := RX10) (T := TX10) (N := 16) (ci := 10) (As := [.int (i32 v2), .int (i32 v4)]) (ok_X10_lay hl9 K.2.1 σ a108 v2 v4 g2 g4 ka108 hGσ hYσ h) wc_X9_174 2 hd_X10_lay ⟨Nat.le_trans (Nat.le_of_ble_eq_true rfl) K.2.2.2.1, Nat.le_trans (Nat.le_of_ble_eq_true rfl) K.2.2.2.2.1⟩ ka108.1 ka108.2 (by decide) rfl rfl (rest := []) rfl (Nat.le_of_ble_eq_true rfl) dX9_layOut_123 (fun σ107 w hq => ?_) (fun σ9 E9 hx9 => hX σ9 E9 _ _ _ (tb_out K.2.2.2.2.2.1 rfl) hx9.1 hx9.2.1 hx9.2.2.1 (hE.trans hx9.2.2.2))
  obtain ⟨rfl, h, hGσ107, hYσ107, xσ107⟩ := hq
  have h := h xσ107
  intro H locs ls hH hl hc
  refine W.eq (g2 := F0 m 126 ls []) (rfl) ?_
  try dsimp only at h
  refine lv_aload_n B.1 B.2.1 dX9_layOut_126 rfl (lv_at hl 0 rfl) ?_
  refine lv_dup B.1 B.2.1 dX9_layOut_127 rfl ?_
  refine f_geti B hH (hth.up xσ107) (by decide) rfl wu_X9 10 (by decide) wf_X9_78 rfl rfl dX9_layOut_128 ?_
  refine lv_iconst (v := i32 1) B.1 B.2.1 dX9_layOut_131 (by decide) ?_
  obtain ⟨q2, h⟩ := h
  refine lv_iadd B.1 B.2.1 dX9_layOut_132 ?_
  rw [i32_add]
  obtain ⟨σ109, eσ109⟩ : ∃ z, z = pI σ107 th 10 (gI σ107 th 10 + 1) := ⟨_, rfl⟩
  have h := h σ109 eσ109
  refine f_puti B hH (hth.up xσ107) (by decide) rfl wu_X9 tyX9 tyX9_ok nmX9 10 (by decide) wf_X9_78 rfl (ty := .int) rfl rfl rfl rfl rfl dX9_layOut_133 (fun H locs hH => ?_)
  have hH : Hd D cA A s (pI σ107 th 10 (gI σ107 th 10 + 1)) H locs := hH
  rw [← eσ109] at hH
  have hGσ109 : RG σ109 := by rw [eσ109]; exact hGσ107.pI q2
  have hYσ109 : TY σ109 := by rw [eσ109]; exact hYσ107.pI
  have xσ109 : Ext σ107 σ109 := by rw [eσ109]; exact Ext.pI
  have hc : CB n0 s0 σ109 := by rw [eσ109]; exact hc
  rw [show gc σ107 = gc σ109 by rw [eσ109]; try rfl, show gs σ107 = gs σ109 by rw [eσ109]; try rfl]
  obtain ⟨q3, h⟩ := h
  refine lv_iinc (k := 3) (v := i32 (v4 + 1)) (lv' := [(4, .int (i32 (v4 + 1))), (0, .ref th), (2, .int (i32 v2)), (3, .int (i32 v3))]) B.1 B.2.1 dX9_layOut_136 hl rfl (i32_add _ _) (by decide) rfl (fun ls hl => ?_)
  refine lv_goto (tgt := 68) B.1 B.2.1 dX9_layOut_139 (by decide) ?_
  exact hK68 _ _ _ _ g2 g3 q3 h hGσ109 hYσ109 ((hE.trans xσ107).trans xσ109) (hth.up (xσ107.trans xσ109)) _ _ _ hH (lv_sub (l' := [(0, .ref th), (2, .int (i32 v2)), (3, .int (i32 v3)), (4, .int (i32 (v4 + 1)))]) hl [1, 2, 3, 0] rfl) hc
set_option maxRecDepth 20000 in
theorem a_X9_layOut_95 {Q : Sg → Unit → Prop} {X : Sg → String → Prop} {th : Nat} (K : MD l R p s m args c cX9_layOut 5 RX9 D cA tys A n0 s0 5 102 []) (hQ : CQV p l e R s m args below meth c cX9_layOut D cA A n0 s0 QM σi Q) (hX : CX p l e R s m args below meth c 5 D cA A n0 s0 QM σi X) (hTh : CT p l e R s m args below meth c cX9_layOut 5 D cA A n0 s0 QM σi RX9 X) {K17 : Sg → Int → Prop} (hK17 : ∀ (σ : Sg) (v2 : Int) (g2 : rng v2), K17 σ v2 → RG σ → TY σ → Ext σi σ → kO σ th 9 → JJ p l e R s m args below meth c 5 D cA A n0 s0 QM σ 17 [(0, .ref th), (2, .int (i32 v2))] []) {K68 : Sg → Int → Int → Int → Prop} (hK68 : ∀ (σ : Sg) (v2 : Int) (v3 : Int) (v4 : Int) (g2 : rng v2) (g3 : rng v3) (g4 : rng v4), K68 σ v2 v3 v4 → RG σ → TY σ → Ext σi σ → kO σ th 9 → JJ p l e R s m args below meth c 5 D cA A n0 s0 QM σ 68 [(0, .ref th), (2, .int (i32 v2)), (3, .int (i32 v3)), (4, .int (i32 v4))] []) : ∀ (σ : Sg) (v2 : Int) (v3 : Int) (v4 : Int) (g2 : rng v2) (g3 : rng v3) (g4 : rng v4), w_X9_layOut_95 th K17 K68 Q X σ v2 v3 v4 → RG σ → TY σ → Ext σi σ → kO σ th 9 → JJ p l e R s m args below meth c 5 D cA A n0 s0 QM σ 95 [(0, .ref th), (2, .int (i32 v2)), (3, .int (i32 v3)), (4, .int (i32 v4))] [] := by
  intro σ v2 v3 v4 g2 g3 g4 h hGσ hYσ hE hth H locs ls hH hl hc
  have B := K.1
  have hl9 := K.2.2.2.2.2.2
  unfold w_X9_layOut_95 at h
  refine lv_aload_n B.1 B.2.1 dX9_layOut_95 rfl (lv_at hl 0 rfl) ?_
  refine f_getp B hH hth (by decide) rfl wu_X9 3 (by decide) wf_X9_20 rfl rfl dX9_layOut_96 ?_
  refine lv_aload_n B.1 B.2.1 dX9_layOut_99 rfl (lv_at hl 0 rfl) ?_
  refine f_geti B hH hth (by decide) rfl wu_X9 10 (by decide) wf_X9_78 rfl rfl dX9_layOut_100 ?_
  obtain ⟨zq110, h⟩ := h
  refine c_new B hH hc K.2.2.1 (ci := 10) rfl (by decide) wu_X10 tyX10 tyX10_ok (by decide) wn_X9_18 zq110 dX9_layOut_103 (fun q110 H hq110 hH hc => ?_)
  obtain ⟨σ111, eσ111⟩ : ∃ z, z = new1 σ q110 10 16 := ⟨_, rfl⟩
  have h := h q110 hq110 σ111 eσ111
  rw [← eσ111] at hH hc ⊢
  have hGσ111 : RG σ111 := by rw [eσ111]; exact hGσ.new1
  have hYσ111 : TY σ111 := by rw [eσ111]; exact hYσ.new1 hq110
  have xσ111 : Ext σ σ111 := by rw [eσ111]; exact Ext.new1 hq110
  have kq110 : kO σ111 q110 10 := by rw [eσ111]; exact kO.new1
  refine lv_dup B.1 B.2.1 dX9_layOut_106 rfl ?_
  refine W.eq (g2 := F0 m 107 ls [.ref q110, .ref q110, .int (i32 (gI σ th 10)), va_rf (gP σ th 3)]) (rfl) ?_
  refine c_IN B hH hl hc K.2.2.1 (As := []) (ok_X10_init hl9 K.2.1 σ111 q110 kq110 hGσ111 hYσ111 (nx_X10_init h)) (fun _ _ h9 => h9.1) (List.mem_of_getElem? (l := nmL) (i := 12) rfl) rfl wq_X10_init 0 hd_X10_init ⟨Nat.le_trans (Nat.le_of_ble_eq_true rfl) K.2.2.2.1, Nat.le_trans (Nat.le_of_ble_eq_true rfl) K.2.2.2.2.1⟩ rfl (rest := [.ref q110, .int (i32 (gI σ th 10)), va_rf (gP σ th 3)]) rfl (by simp only [List.map_cons, List.map_nil, rf_cat]; exact Nat.le_of_ble_eq_true rfl) dX9_layOut_107 (fun σ112 w hq => ?_)
  obtain ⟨rfl, h, hGσ112, hYσ112, xσ112⟩ := hq
  have h := h xσ112
  intro H locs ls hH hl hc
  refine W.eq (g2 := F0 m 110 ls [.ref q110, .int (i32 (gI σ th 10)), va_rf (gP σ th 3)]) (rfl) ?_
  try dsimp only at h
  obtain ⟨a113, ea113, h⟩ := h
  have ka113 : kO σ112 a113 120 := ((hYσ.get hth (by decide)).up (xσ111.trans xσ112)) a113 ea113
  have h := h ka113
  obtain ⟨q1, h⟩ := h
  obtain ⟨σ114, eσ114⟩ : ∃ z, z = pP σ112 a113 (gI σ th 10).toNat (some q110) := ⟨_, rfl⟩
  have h := h σ114 eσ114
  refine W.eq (g2 := F0 m 110 ls [.ref q110, .int (i32 (gI σ th 10)), .ref a113]) (by rw [ea113]; rfl) ?_
  refine h_aast B hH ka113.1 (by decide) ka113.2 7 K.2.1.2.2.2.2.1 (kq110.up xσ112).1 (kq110.up xσ112).2 (by decide) rfl q1.1 q1.2 (hYσ112.2 _) dX9_layOut_110 (fun H locs hH => ?_)
  have hH : Hd D cA A s (pP σ112 a113 (gI σ th 10).toNat (some q110)) H locs := hH
  rw [← eσ114] at hH
  have hGσ114 : RG σ114 := by rw [eσ114]; exact hGσ112.pP
  have hYσ114 : TY σ114 := by rw [eσ114]; exact hYσ112.pP ka113 (d := 10) rfl (tyS1 (kq110.up xσ112))
  have xσ114 : Ext σ112 σ114 := by rw [eσ114]; exact Ext.pP
  have hc : CB n0 s0 σ114 := by rw [eσ114]; exact hc
  rw [show gc σ112 = gc σ114 by rw [eσ114]; try rfl, show gs σ112 = gs σ114 by rw [eσ114]; try rfl]
  exact a_X9_layOut_111 K hQ hX hTh hK17 hK68 _ _ _ _ g2 g3 g4 h hGσ114 hYσ114 (((hE.trans xσ111).trans xσ112).trans xσ114) (hth.up (xσ111.trans (xσ112.trans xσ114))) _ _ _ hH (lv_sub (l' := [(0, .ref th), (2, .int (i32 v2)), (3, .int (i32 v3)), (4, .int (i32 v4))]) hl [0, 1, 2, 3] rfl) hc
set_option maxRecDepth 20000 in
theorem a_X9_layOut_83 {Q : Sg → Unit → Prop} {X : Sg → String → Prop} {th : Nat} (K : MD l R p s m args c cX9_layOut 5 RX9 D cA tys A n0 s0 5 102 []) (hQ : CQV p l e R s m args below meth c cX9_layOut D cA A n0 s0 QM σi Q) (hX : CX p l e R s m args below meth c 5 D cA A n0 s0 QM σi X) (hTh : CT p l e R s m args below meth c cX9_layOut 5 D cA A n0 s0 QM σi RX9 X) {K17 : Sg → Int → Prop} (hK17 : ∀ (σ : Sg) (v2 : Int) (g2 : rng v2), K17 σ v2 → RG σ → TY σ → Ext σi σ → kO σ th 9 → JJ p l e R s m args below meth c 5 D cA A n0 s0 QM σ 17 [(0, .ref th), (2, .int (i32 v2))] []) {K68 : Sg → Int → Int → Int → Prop} (hK68 : ∀ (σ : Sg) (v2 : Int) (v3 : Int) (v4 : Int) (g2 : rng v2) (g3 : rng v3) (g4 : rng v4), K68 σ v2 v3 v4 → RG σ → TY σ → Ext σi σ → kO σ th 9 → JJ p l e R s m args below meth c 5 D cA A n0 s0 QM σ 68 [(0, .ref th), (2, .int (i32 v2)), (3, .int (i32 v3)), (4, .int (i32 v4))] []) : ∀ (σ : Sg) (v2 : Int) (v3 : Int) (v4 : Int) (g2 : rng v2) (g3 : rng v3) (g4 : rng v4), w_X9_layOut_83 th K17 K68 Q X σ v2 v3 v4 → RG σ → TY σ → Ext σi σ → kO σ th 9 → JJ p l e R s m args below meth c 5 D cA A n0 s0 QM σ 83 [(0, .ref th), (2, .int (i32 v2)), (3, .int (i32 v3)), (4, .int (i32 v4))] [] := by
  intro σ v2 v3 v4 g2 g3 g4 h hGσ hYσ hE hth H locs ls hH hl hc
  have B := K.1
  have hl9 := K.2.2.2.2.2.2
  unfold w_X9_layOut_83 at h
  refine lv_aload_n B.1 B.2.1 dX9_layOut_83 rfl (lv_at hl 0 rfl) ?_
  refine f_getp B hH hth (by decide) rfl wu_X9 3 (by decide) wf_X9_20 rfl rfl dX9_layOut_84 ?_
  refine lv_aload_n B.1 B.2.1 dX9_layOut_87 rfl (lv_at hl 0 rfl) ?_
  refine f_geti B hH hth (by decide) rfl wu_X9 10 (by decide) wf_X9_78 rfl rfl dX9_layOut_88 ?_
  obtain ⟨a115, ea115, h⟩ := h
  have ka115 : kO σ a115 120 := (hYσ.get hth (by decide)) a115 ea115
  have h := h ka115
  obtain ⟨q1, h⟩ := h
  refine W.eq (g2 := F0 m 91 ls [.int (i32 (gI σ th 10)), .ref a115]) (by rw [ea115]; rfl) ?_
  refine y_aald B hH (t0 := 7) ka115 (by decide) K.2.1.2.2.2.2.1 q1 (hYσ.2 _) dX9_layOut_91 ?_
  refine lv_ifnonnullQ (tgt := 111) B.1 B.2.1 dX9_layOut_92 (by decide) (fun h9 => ?_) (fun h9 => ?_)
  · rw [if_pos (h9)] at h
    exact a_X9_layOut_111 K hQ hX hTh hK17 hK68 _ _ _ _ g2 g3 g4 h hGσ hYσ hE hth _ _ _ hH (lv_sub (l' := [(0, .ref th), (2, .int (i32 v2)), (3, .int (i32 v3)), (4, .int (i32 v4))]) hl [0, 1, 2, 3] rfl) hc
  · rw [if_neg (h9)] at h
    exact a_X9_layOut_95 K hQ hX hTh hK17 hK68 _ _ _ _ g2 g3 g4 h hGσ hYσ hE hth _ _ _ hH (lv_sub (l' := [(0, .ref th), (2, .int (i32 v2)), (3, .int (i32 v3)), (4, .int (i32 v4))]) hl [0, 1, 2, 3] rfl) hc
set_option maxRecDepth 20000 in
theorem a_X9_layOut_74 {Q : Sg → Unit → Prop} {X : Sg → String → Prop} {th : Nat} (K : MD l R p s m args c cX9_layOut 5 RX9 D cA tys A n0 s0 5 102 []) (hQ : CQV p l e R s m args below meth c cX9_layOut D cA A n0 s0 QM σi Q) (hX : CX p l e R s m args below meth c 5 D cA A n0 s0 QM σi X) (hTh : CT p l e R s m args below meth c cX9_layOut 5 D cA A n0 s0 QM σi RX9 X) {K17 : Sg → Int → Prop} (hK17 : ∀ (σ : Sg) (v2 : Int) (g2 : rng v2), K17 σ v2 → RG σ → TY σ → Ext σi σ → kO σ th 9 → JJ p l e R s m args below meth c 5 D cA A n0 s0 QM σ 17 [(0, .ref th), (2, .int (i32 v2))] []) {K68 : Sg → Int → Int → Int → Prop} (hK68 : ∀ (σ : Sg) (v2 : Int) (v3 : Int) (v4 : Int) (g2 : rng v2) (g3 : rng v3) (g4 : rng v4), K68 σ v2 v3 v4 → RG σ → TY σ → Ext σi σ → kO σ th 9 → JJ p l e R s m args below meth c 5 D cA A n0 s0 QM σ 68 [(0, .ref th), (2, .int (i32 v2)), (3, .int (i32 v3)), (4, .int (i32 v4))] []) : ∀ (σ : Sg) (v2 : Int) (v3 : Int) (v4 : Int) (g2 : rng v2) (g3 : rng v3) (g4 : rng v4), w_X9_layOut_74 th K17 K68 Q X σ v2 v3 v4 → RG σ → TY σ → Ext σi σ → kO σ th 9 → JJ p l e R s m args below meth c 5 D cA A n0 s0 QM σ 74 [(0, .ref th), (2, .int (i32 v2)), (3, .int (i32 v3)), (4, .int (i32 v4))] [] := by
  intro σ v2 v3 v4 g2 g3 g4 h hGσ hYσ hE hth H locs ls hH hl hc
  have B := K.1
  have hl9 := K.2.2.2.2.2.2
  unfold w_X9_layOut_74 at h
  refine lv_aload_n B.1 B.2.1 dX9_layOut_74 rfl (lv_at hl 0 rfl) ?_
  refine f_geti B hH hth (by decide) rfl wu_X9 10 (by decide) wf_X9_78 rfl rfl dX9_layOut_75 ?_
  refine lv_bipush (v := i32 64) B.1 B.2.1 dX9_layOut_78 (by decide) ?_
  refine lv_icmp_ge (tgt := 142) B.1 B.2.1 dX9_layOut_80 (by decide) (fun h9 => ?_) (fun h9 => ?_)
  · rw [if_pos ((i32_le (by unfold rng; omega) (hGσ _ _)).mp h9)] at h
    exact a_X9_layOut_142 K hQ hX hTh hK17 _ _ g2 h hGσ hYσ hE hth _ _ _ hH (lv_sub (l' := [(0, .ref th), (2, .int (i32 v2))]) hl [0, 1] rfl) hc
  · rw [if_neg (fun q => h9 ((i32_le (by unfold rng; omega) (hGσ _ _)).mpr q))] at h
    exact a_X9_layOut_83 K hQ hX hTh hK17 hK68 _ _ _ _ g2 g3 g4 h hGσ hYσ hE hth _ _ _ hH (lv_sub (l' := [(0, .ref th), (2, .int (i32 v2)), (3, .int (i32 v3)), (4, .int (i32 v4))]) hl [0, 1, 2, 3] rfl) hc
set_option maxRecDepth 20000 in
theorem a_X9_layOut_68 {Q : Sg → Unit → Prop} {X : Sg → String → Prop} {th : Nat} (K : MD l R p s m args c cX9_layOut 5 RX9 D cA tys A n0 s0 5 102 []) (hQ : CQV p l e R s m args below meth c cX9_layOut D cA A n0 s0 QM σi Q) (hX : CX p l e R s m args below meth c 5 D cA A n0 s0 QM σi X) (hTh : CT p l e R s m args below meth c cX9_layOut 5 D cA A n0 s0 QM σi RX9 X) {K17 : Sg → Int → Prop} (hK17 : ∀ (σ : Sg) (v2 : Int) (g2 : rng v2), K17 σ v2 → RG σ → TY σ → Ext σi σ → kO σ th 9 → JJ p l e R s m args below meth c 5 D cA A n0 s0 QM σ 17 [(0, .ref th), (2, .int (i32 v2))] []) {K68 : Sg → Int → Int → Int → Prop} (hK68 : ∀ (σ : Sg) (v2 : Int) (v3 : Int) (v4 : Int) (g2 : rng v2) (g3 : rng v3) (g4 : rng v4), K68 σ v2 v3 v4 → RG σ → TY σ → Ext σi σ → kO σ th 9 → JJ p l e R s m args below meth c 5 D cA A n0 s0 QM σ 68 [(0, .ref th), (2, .int (i32 v2)), (3, .int (i32 v3)), (4, .int (i32 v4))] []) : ∀ (σ : Sg) (v2 : Int) (v3 : Int) (v4 : Int) (g2 : rng v2) (g3 : rng v3) (g4 : rng v4), w_X9_layOut_68 th K17 K68 Q X σ v2 v3 v4 → RG σ → TY σ → Ext σi σ → kO σ th 9 → JJ p l e R s m args below meth c 5 D cA A n0 s0 QM σ 68 [(0, .ref th), (2, .int (i32 v2)), (3, .int (i32 v3)), (4, .int (i32 v4))] [] := by
  intro σ v2 v3 v4 g2 g3 g4 h hGσ hYσ hE hth H locs ls hH hl hc
  have B := K.1
  have hl9 := K.2.2.2.2.2.2
  unfold w_X9_layOut_68 at h
  refine lv_iload B.1 B.2.1 dX9_layOut_68 (lv_at hl 3 rfl) ?_
  refine lv_iload_n B.1 B.2.1 dX9_layOut_70 rfl (lv_at hl 2 rfl) ?_
  refine lv_icmp_ge (tgt := 142) B.1 B.2.1 dX9_layOut_71 (by decide) (fun h9 => ?_) (fun h9 => ?_)
  · rw [if_pos ((i32_le g3 g4).mp h9)] at h
    exact a_X9_layOut_142 K hQ hX hTh hK17 _ _ g2 h hGσ hYσ hE hth _ _ _ hH (lv_sub (l' := [(0, .ref th), (2, .int (i32 v2))]) hl [0, 1] rfl) hc
  · rw [if_neg (fun q => h9 ((i32_le g3 g4).mpr q))] at h
    exact a_X9_layOut_74 K hQ hX hTh hK17 hK68 _ _ _ _ g2 g3 g4 h hGσ hYσ hE hth _ _ _ hH (lv_sub (l' := [(0, .ref th), (2, .int (i32 v2)), (3, .int (i32 v3)), (4, .int (i32 v4))]) hl [0, 1, 2, 3] rfl) hc
theorem al_X9_layOut_68 {Q : Sg → Unit → Prop} {X : Sg → String → Prop} {th : Nat} (K : MD l R p s m args c cX9_layOut 5 RX9 D cA tys A n0 s0 5 102 []) (hQ : CQV p l e R s m args below meth c cX9_layOut D cA A n0 s0 QM σi Q) (hX : CX p l e R s m args below meth c 5 D cA A n0 s0 QM σi X) (hTh : CT p l e R s m args below meth c cX9_layOut 5 D cA A n0 s0 QM σi RX9 X) {K17 : Sg → Int → Prop} (hK17 : ∀ (σ : Sg) (v2 : Int) (g2 : rng v2), K17 σ v2 → RG σ → TY σ → Ext σi σ → kO σ th 9 → JJ p l e R s m args below meth c 5 D cA A n0 s0 QM σ 17 [(0, .ref th), (2, .int (i32 v2))] []) : ∀ (n : Nat), ∀ (σ : Sg) (v2 : Int) (v3 : Int) (v4 : Int) (g2 : rng v2) (g3 : rng v3) (g4 : rng v4), wl_X9_layOut_68 th K17 Q X n σ v2 v3 v4 → RG σ → TY σ → Ext σi σ → kO σ th 9 → JJ p l e R s m args below meth c 5 D cA A n0 s0 QM σ 68 [(0, .ref th), (2, .int (i32 v2)), (3, .int (i32 v3)), (4, .int (i32 v4))] [] := by
  intro n
  induction n with
  | zero => intro σ v2 v3 v4 g2 g3 g4 h; exact h.elim
  | succ n ih => exact fun σ v2 v3 v4 g2 g3 g4 h => a_X9_layOut_68 K hQ hX hTh hK17 ih σ v2 v3 v4 g2 g3 g4 h
set_option maxRecDepth 20000 in
theorem a_X9_layOut_64 {Q : Sg → Unit → Prop} {X : Sg → String → Prop} {th : Nat} (K : MD l R p s m args c cX9_layOut 5 RX9 D cA tys A n0 s0 5 102 []) (hQ : CQV p l e R s m args below meth c cX9_layOut D cA A n0 s0 QM σi Q) (hX : CX p l e R s m args below meth c 5 D cA A n0 s0 QM σi X) (hTh : CT p l e R s m args below meth c cX9_layOut 5 D cA A n0 s0 QM σi RX9 X) {K17 : Sg → Int → Prop} (hK17 : ∀ (σ : Sg) (v2 : Int) (g2 : rng v2), K17 σ v2 → RG σ → TY σ → Ext σi σ → kO σ th 9 → JJ p l e R s m args below meth c 5 D cA A n0 s0 QM σ 17 [(0, .ref th), (2, .int (i32 v2))] []) : ∀ (σ : Sg) (v2 : Int) (u0 : Int) (g2 : rng v2) (gu0 : rng u0), w_X9_layOut_64 th K17 Q X σ v2 u0 → RG σ → TY σ → Ext σi σ → kO σ th 9 → JJ p l e R s m args below meth c 5 D cA A n0 s0 QM σ 64 [(0, .ref th), (2, .int (i32 v2))] [.int (i32 u0)] := by
  intro σ v2 u0 g2 gu0 h hGσ hYσ hE hth H locs ls hH hl hc
  have B := K.1
  have hl9 := K.2.2.2.2.2.2
  unfold w_X9_layOut_64 at h
  refine lv_istore_n (lv' := [(3, .int (i32 u0)), (0, .ref th), (2, .int (i32 v2))]) B.1 B.2.1 dX9_layOut_64 rfl hl (by decide) rfl (fun ls hl => ?_)
  refine lv_iconst (v := i32 0) B.1 B.2.1 dX9_layOut_65 (by decide) ?_
  refine lv_istore (lv' := [(4, .int (i32 0)), (3, .int (i32 u0)), (0, .ref th), (2, .int (i32 v2))]) B.1 B.2.1 dX9_layOut_66 hl (by decide) rfl (fun ls hl => ?_)
  obtain ⟨n9, h⟩ := h
  exact al_X9_layOut_68 K hQ hX hTh hK17 n9 _ _ _ _ g2 gu0 (by unfold rng; omega) h hGσ hYσ hE hth _ _ _ hH (lv_sub (l' := [(0, .ref th), (2, .int (i32 v2)), (3, .int (i32 u0)), (4, .int (i32 0))]) hl [2, 3, 1, 0] rfl) hc
set_option maxRecDepth 20000 in
theorem a_X9_layOut_60 {Q : Sg → Unit → Prop} {X : Sg → String → Prop} {th : Nat} (K : MD l R p s m args c cX9_layOut 5 RX9 D cA tys A n0 s0 5 102 []) (hQ : CQV p l e R s m args below meth c cX9_layOut D cA A n0 s0 QM σi Q) (hX : CX p l e R s m args below meth c 5 D cA A n0 s0 QM σi X) (hTh : CT p l e R s m args below meth c cX9_layOut 5 D cA A n0 s0 QM σi RX9 X) {K17 : Sg → Int → Prop} (hK17 : ∀ (σ : Sg) (v2 : Int) (g2 : rng v2), K17 σ v2 → RG σ → TY σ → Ext σi σ → kO σ th 9 → JJ p l e R s m args below meth c 5 D cA A n0 s0 QM σ 17 [(0, .ref th), (2, .int (i32 v2))] []) : ∀ (σ : Sg) (v2 : Int) (g2 : rng v2), w_X9_layOut_60 th K17 Q X σ v2 → RG σ → TY σ → Ext σi σ → kO σ th 9 → JJ p l e R s m args below meth c 5 D cA A n0 s0 QM σ 60 [(0, .ref th), (2, .int (i32 v2))] [] := by
  intro σ v2 g2 h hGσ hYσ hE hth H locs ls hH hl hc
  have B := K.1
  have hl9 := K.2.2.2.2.2.2
  unfold w_X9_layOut_60 at h
  refine lv_aload_n B.1 B.2.1 dX9_layOut_60 rfl (lv_at hl 0 rfl) ?_
  refine f_geti B hH hth (by decide) rfl wu_X9 12 (by decide) wf_X9_157 rfl rfl dX9_layOut_61 ?_
  exact a_X9_layOut_64 K hQ hX hTh hK17 _ _ _ g2 (hGσ _ _) h hGσ hYσ hE hth _ _ _ hH (lv_sub (l' := [(0, .ref th), (2, .int (i32 v2))]) hl [0, 1] rfl) hc
set_option maxRecDepth 20000 in
theorem a_X9_layOut_56 {Q : Sg → Unit → Prop} {X : Sg → String → Prop} {th : Nat} (K : MD l R p s m args c cX9_layOut 5 RX9 D cA tys A n0 s0 5 102 []) (hQ : CQV p l e R s m args below meth c cX9_layOut D cA A n0 s0 QM σi Q) (hX : CX p l e R s m args below meth c 5 D cA A n0 s0 QM σi X) (hTh : CT p l e R s m args below meth c cX9_layOut 5 D cA A n0 s0 QM σi RX9 X) {K17 : Sg → Int → Prop} (hK17 : ∀ (σ : Sg) (v2 : Int) (g2 : rng v2), K17 σ v2 → RG σ → TY σ → Ext σi σ → kO σ th 9 → JJ p l e R s m args below meth c 5 D cA A n0 s0 QM σ 17 [(0, .ref th), (2, .int (i32 v2))] []) : ∀ (σ : Sg) (v2 : Int) (g2 : rng v2), w_X9_layOut_56 th K17 Q X σ v2 → RG σ → TY σ → Ext σi σ → kO σ th 9 → JJ p l e R s m args below meth c 5 D cA A n0 s0 QM σ 56 [(0, .ref th), (2, .int (i32 v2))] [] := by
  intro σ v2 g2 h hGσ hYσ hE hth H locs ls hH hl hc
  have B := K.1
  have hl9 := K.2.2.2.2.2.2
  unfold w_X9_layOut_56 at h
  refine lv_iconst (v := i32 1) B.1 B.2.1 dX9_layOut_56 (by decide) ?_
  refine lv_goto (tgt := 64) B.1 B.2.1 dX9_layOut_57 (by decide) ?_
  exact a_X9_layOut_64 K hQ hX hTh hK17 _ _ _ g2 (by unfold rng; omega) h hGσ hYσ hE hth _ _ _ hH (lv_sub (l' := [(0, .ref th), (2, .int (i32 v2))]) hl [0, 1] rfl) hc
set_option maxRecDepth 20000 in
theorem a_X9_layOut_28 {Q : Sg → Unit → Prop} {X : Sg → String → Prop} {th : Nat} (K : MD l R p s m args c cX9_layOut 5 RX9 D cA tys A n0 s0 5 102 []) (hQ : CQV p l e R s m args below meth c cX9_layOut D cA A n0 s0 QM σi Q) (hX : CX p l e R s m args below meth c 5 D cA A n0 s0 QM σi X) (hTh : CT p l e R s m args below meth c cX9_layOut 5 D cA A n0 s0 QM σi RX9 X) {K17 : Sg → Int → Prop} (hK17 : ∀ (σ : Sg) (v2 : Int) (g2 : rng v2), K17 σ v2 → RG σ → TY σ → Ext σi σ → kO σ th 9 → JJ p l e R s m args below meth c 5 D cA A n0 s0 QM σ 17 [(0, .ref th), (2, .int (i32 v2))] []) : ∀ (σ : Sg) (v2 : Int) (g2 : rng v2), w_X9_layOut_28 th K17 Q X σ v2 → RG σ → TY σ → Ext σi σ → kO σ th 9 → JJ p l e R s m args below meth c 5 D cA A n0 s0 QM σ 28 [(0, .ref th), (2, .int (i32 v2))] [] := by
  intro σ v2 g2 h hGσ hYσ hE hth H locs ls hH hl hc
  have B := K.1
  have hl9 := K.2.2.2.2.2.2
  unfold w_X9_layOut_28 at h
  refine lv_aload_n B.1 B.2.1 dX9_layOut_28 rfl (lv_at hl 0 rfl) ?_
  refine f_getp B hH hth (by decide) rfl wu_X9 5 (by decide) wf_X9_30 rfl rfl dX9_layOut_29 ?_
  refine lv_iload_n B.1 B.2.1 dX9_layOut_32 rfl (lv_at hl 1 rfl) ?_
  refine lv_aload_n B.1 B.2.1 dX9_layOut_33 rfl (lv_at hl 0 rfl) ?_
  refine f_geti B hH hth (by decide) rfl wu_X9 10 (by decide) wf_X9_78 rfl rfl dX9_layOut_34 ?_
  obtain ⟨a116, ea116, h⟩ := h
  have ka116 : kO σ a116 100 := (hYσ.get hth (by decide)) a116 ea116
  have h := h ka116
  obtain ⟨q1, h⟩ := h
  obtain ⟨σ117, eσ117⟩ : ∃ z, z = pI σ a116 v2.toNat (gI σ th 10) := ⟨_, rfl⟩
  have h := h σ117 eσ117
  refine W.eq (g2 := F0 m 37 ls [.int (i32 (gI σ th 10)), .int (i32 v2), .ref a116]) (by rw [ea116]; rfl) ?_
  refine y_iast B K.2.1 hH ka116 q1 dX9_layOut_37 (hYσ.2 _) (fun H locs hH => ?_)
  have hH : Hd D cA A s (pI σ a116 v2.toNat (gI σ th 10)) H locs := hH
  rw [← eσ117] at hH
  have hGσ117 : RG σ117 := by rw [eσ117]; exact hGσ.pI (hGσ _ _)
  have hYσ117 : TY σ117 := by rw [eσ117]; exact hYσ.pI
  have xσ117 : Ext σ σ117 := by rw [eσ117]; exact Ext.pI
  have hc : CB n0 s0 σ117 := by rw [eσ117]; exact hc
  rw [show gc σ = gc σ117 by rw [eσ117]; try rfl, show gs σ = gs σ117 by rw [eσ117]; try rfl]
  refine lv_aload_n B.1 B.2.1 dX9_layOut_38 rfl (lv_at hl 0 rfl) ?_
  refine f_getp B hH (hth.up xσ117) (by decide) rfl wu_X9 9 (by decide) wf_X9_100 rfl rfl dX9_layOut_39 ?_
  obtain ⟨a118, ea118, h⟩ := h
  have ka118 : kO σ117 a118 4 := (hYσ117.get (hth.up xσ117) (by decide)) a118 ea118
  have h := h ka118
  refine W.eq (g2 := F0 m 42 ls [.ref a118]) (by rw [ea118]; rfl) ?_
  refine f_getp B hH ka118 (by decide) rfl wu_X4 0 (by decide) wf_X9_160 rfl rfl dX9_layOut_42 ?_
  refine lv_iload_n B.1 B.2.1 dX9_layOut_45 rfl (lv_at hl 1 rfl) ?_
  obtain ⟨a119, ea119, h⟩ := h
  have ka119 : kO σ117 a119 115 := (hYσ117.get ka118 (by decide)) a119 ea119
  have h := h ka119
  obtain ⟨q2, h⟩ := h
  refine W.eq (g2 := F0 m 46 ls [.int (i32 v2), .ref a119]) (by rw [ea119]; rfl) ?_
  refine y_aald B hH (t0 := 6) ka119 (by decide) K.2.1.2.2.2.1 q2 (hYσ117.2 _) dX9_layOut_46 ?_
  obtain ⟨a120, ea120, h⟩ := h
  have ka120 : kO σ117 a120 5 := (hYσ117.get ka119 rfl) a120 ea120
  have h := h ka120
  refine W.eq (g2 := F0 m 47 ls [.ref a120]) (by rw [ea120]; rfl) ?_
  refine f_geti B hH ka120 (by decide) rfl wu_X5 6 (by decide) wf_X9_164 rfl rfl dX9_layOut_47 ?_
  refine c_SN B hH hl hc K.2.2.1 (As := [.int (i32 (gI σ117 a120 6))]) (ok_X12_hasOneTask hl9 K.2.1 σ117 (gI σ117 a120 6) (hGσ117 _ _) hGσ117 hYσ117 (nx_X12_hasOneTask h)) (fun _ _ h9 => h9.1) (List.mem_of_getElem? (l := nmL) (i := 11) rfl) wq_X12_hasOneTask 1 hd_X12_hasOneTask ⟨Nat.le_trans (Nat.le_of_ble_eq_true rfl) K.2.2.2.1, Nat.le_trans (Nat.le_of_ble_eq_true rfl) K.2.2.2.2.1⟩ rfl (rest := []) rfl (Nat.le_of_ble_eq_true rfl) dX9_layOut_50 (fun σ121 w hq => ?_)
  obtain ⟨r122, rfl, ⟨gr122, gzr122⟩, h, hGσ121, hYσ121, xσ121⟩ := hq
  have h := h xσ121
  intro H locs ls hH hl hc
  refine W.eq (g2 := F0 m 53 ls [.int (i32 r122)]) (rfl) ?_
  try dsimp only at h
  refine lv_if_eq (tgt := 60) B.1 B.2.1 dX9_layOut_53 (by decide) (fun h9 => ?_) (fun h9 => ?_)
  · rw [if_pos ((z_eq gr122).mp h9)] at h
    exact a_X9_layOut_60 K hQ hX hTh hK17 _ _ g2 h hGσ121 hYσ121 ((hE.trans xσ117).trans xσ121) (hth.up (xσ117.trans xσ121)) _ _ _ hH (lv_sub (l' := [(0, .ref th), (2, .int (i32 v2))]) hl [0, 1] rfl) hc
  · rw [if_neg (fun q => h9 ((z_eq gr122).mpr q))] at h
    exact a_X9_layOut_56 K hQ hX hTh hK17 _ _ g2 h hGσ121 hYσ121 ((hE.trans xσ117).trans xσ121) (hth.up (xσ117.trans xσ121)) _ _ _ hH (lv_sub (l' := [(0, .ref th), (2, .int (i32 v2))]) hl [0, 1] rfl) hc
set_option maxRecDepth 20000 in
theorem a_X9_layOut_17 {Q : Sg → Unit → Prop} {X : Sg → String → Prop} {th : Nat} (K : MD l R p s m args c cX9_layOut 5 RX9 D cA tys A n0 s0 5 102 []) (hQ : CQV p l e R s m args below meth c cX9_layOut D cA A n0 s0 QM σi Q) (hX : CX p l e R s m args below meth c 5 D cA A n0 s0 QM σi X) (hTh : CT p l e R s m args below meth c cX9_layOut 5 D cA A n0 s0 QM σi RX9 X) {K17 : Sg → Int → Prop} (hK17 : ∀ (σ : Sg) (v2 : Int) (g2 : rng v2), K17 σ v2 → RG σ → TY σ → Ext σi σ → kO σ th 9 → JJ p l e R s m args below meth c 5 D cA A n0 s0 QM σ 17 [(0, .ref th), (2, .int (i32 v2))] []) : ∀ (σ : Sg) (v2 : Int) (g2 : rng v2), w_X9_layOut_17 th K17 Q X σ v2 → RG σ → TY σ → Ext σi σ → kO σ th 9 → JJ p l e R s m args below meth c 5 D cA A n0 s0 QM σ 17 [(0, .ref th), (2, .int (i32 v2))] [] := by
  intro σ v2 g2 h hGσ hYσ hE hth H locs ls hH hl hc
  have B := K.1
  have hl9 := K.2.2.2.2.2.2
  unfold w_X9_layOut_17 at h
  refine lv_iload_n B.1 B.2.1 dX9_layOut_17 rfl (lv_at hl 1 rfl) ?_
  refine lv_aload_n B.1 B.2.1 dX9_layOut_18 rfl (lv_at hl 0 rfl) ?_
  refine f_getp B hH hth (by decide) rfl wu_X9 9 (by decide) wf_X9_100 rfl rfl dX9_layOut_19 ?_
  obtain ⟨a123, ea123, h⟩ := h
  have ka123 : kO σ a123 4 := (hYσ.get hth (by decide)) a123 ea123
  have h := h ka123
  refine W.eq (g2 := F0 m 22 ls [.ref a123, .int (i32 v2)]) (by rw [ea123]; rfl) ?_
  refine f_geti B hH ka123 (by decide) rfl wu_X4 1 (by decide) wf_X9_119 rfl rfl dX9_layOut_22 ?_
  refine lv_icmp_ge (tgt := 148) B.1 B.2.1 dX9_layOut_25 (by decide) (fun h9 => ?_) (fun h9 => ?_)
  · rw [if_pos ((i32_le (hGσ _ _) g2).mp h9)] at h
    exact a_X9_layOut_148 K hQ hX hTh _ h hGσ hYσ hE hth _ _ _ hH (lv_sub (l' := [(0, .ref th)]) hl [0] rfl) hc
  · rw [if_neg (fun q => h9 ((i32_le (hGσ _ _) g2).mpr q))] at h
    exact a_X9_layOut_28 K hQ hX hTh hK17 _ _ g2 h hGσ hYσ hE hth _ _ _ hH (lv_sub (l' := [(0, .ref th), (2, .int (i32 v2))]) hl [0, 1] rfl) hc
theorem al_X9_layOut_17 {Q : Sg → Unit → Prop} {X : Sg → String → Prop} {th : Nat} (K : MD l R p s m args c cX9_layOut 5 RX9 D cA tys A n0 s0 5 102 []) (hQ : CQV p l e R s m args below meth c cX9_layOut D cA A n0 s0 QM σi Q) (hX : CX p l e R s m args below meth c 5 D cA A n0 s0 QM σi X) (hTh : CT p l e R s m args below meth c cX9_layOut 5 D cA A n0 s0 QM σi RX9 X) : ∀ (n : Nat), ∀ (σ : Sg) (v2 : Int) (g2 : rng v2), wl_X9_layOut_17 th Q X n σ v2 → RG σ → TY σ → Ext σi σ → kO σ th 9 → JJ p l e R s m args below meth c 5 D cA A n0 s0 QM σ 17 [(0, .ref th), (2, .int (i32 v2))] [] := by
  intro n
  induction n with
  | zero => intro σ v2 g2 h; exact h.elim
  | succ n ih => exact fun σ v2 g2 h => a_X9_layOut_17 K hQ hX hTh ih σ v2 g2 h
set_option maxRecDepth 20000 in
theorem a_X9_layOut_0 {Q : Sg → Unit → Prop} {X : Sg → String → Prop} {th : Nat} (K : MD l R p s m args c cX9_layOut 5 RX9 D cA tys A n0 s0 5 102 []) (hQ : CQV p l e R s m args below meth c cX9_layOut D cA A n0 s0 QM σi Q) (hX : CX p l e R s m args below meth c 5 D cA A n0 s0 QM σi X) (hTh : CT p l e R s m args below meth c cX9_layOut 5 D cA A n0 s0 QM σi RX9 X) : ∀ (σ : Sg) (v1 : Int) (g1 : rng v1), w_X9_layOut_0 th Q X σ v1 → RG σ → TY σ → Ext σi σ → kO σ th 9 → JJ p l e R s m args below meth c 5 D cA A n0 s0 QM σ 0 [(0, .ref th), (1, .int (i32 v1))] [] := by
  intro σ v1 g1 h hGσ hYσ hE hth H locs ls hH hl hc
  have B := K.1
  have hl9 := K.2.2.2.2.2.2
  unfold w_X9_layOut_0 at h
  refine lv_aload_n B.1 B.2.1 dX9_layOut_0 rfl (lv_at hl 0 rfl) ?_
  refine lv_iload_n B.1 B.2.1 dX9_layOut_1 rfl (lv_at hl 1 rfl) ?_
  obtain ⟨σ124, eσ124⟩ : ∃ z, z = pI σ th 12 v1 := ⟨_, rfl⟩
  have h := h σ124 eσ124
  refine f_puti B hH hth (by decide) rfl wu_X9 tyX9 tyX9_ok nmX9 12 (by decide) wf_X9_157 rfl (ty := .int) rfl rfl rfl rfl rfl dX9_layOut_2 (fun H locs hH => ?_)
  have hH : Hd D cA A s (pI σ th 12 v1) H locs := hH
  rw [← eσ124] at hH
  have hGσ124 : RG σ124 := by rw [eσ124]; exact hGσ.pI g1
  have hYσ124 : TY σ124 := by rw [eσ124]; exact hYσ.pI
  have xσ124 : Ext σ σ124 := by rw [eσ124]; exact Ext.pI
  have hc : CB n0 s0 σ124 := by rw [eσ124]; exact hc
  rw [show gc σ = gc σ124 by rw [eσ124]; try rfl, show gs σ = gs σ124 by rw [eσ124]; try rfl]
  refine lv_aload_n B.1 B.2.1 dX9_layOut_5 rfl (lv_at hl 0 rfl) ?_
  refine lv_iconst (v := i32 0) B.1 B.2.1 dX9_layOut_6 (by decide) ?_
  obtain ⟨σ125, eσ125⟩ : ∃ z, z = pI σ124 th 10 0 := ⟨_, rfl⟩
  have h := h σ125 eσ125
  refine f_puti B hH (hth.up xσ124) (by decide) rfl wu_X9 tyX9 tyX9_ok nmX9 10 (by decide) wf_X9_78 rfl (ty := .int) rfl rfl rfl rfl rfl dX9_layOut_7 (fun H locs hH => ?_)
  have hH : Hd D cA A s (pI σ124 th 10 0) H locs := hH
  rw [← eσ125] at hH
  have hGσ125 : RG σ125 := by rw [eσ125]; exact hGσ124.pI (by unfold rng; omega)
  have hYσ125 : TY σ125 := by rw [eσ125]; exact hYσ124.pI
  have xσ125 : Ext σ124 σ125 := by rw [eσ125]; exact Ext.pI
  have hc : CB n0 s0 σ125 := by rw [eσ125]; exact hc
  rw [show gc σ124 = gc σ125 by rw [eσ125]; try rfl, show gs σ124 = gs σ125 by rw [eσ125]; try rfl]
  refine lv_aload_n B.1 B.2.1 dX9_layOut_10 rfl (lv_at hl 0 rfl) ?_
  refine lv_iconst (v := i32 0) B.1 B.2.1 dX9_layOut_11 (by decide) ?_
  obtain ⟨σ126, eσ126⟩ : ∃ z, z = pI σ125 th 11 0 := ⟨_, rfl⟩
  have h := h σ126 eσ126
  refine f_puti B hH (hth.up (xσ124.trans xσ125)) (by decide) rfl wu_X9 tyX9 tyX9_ok nmX9 11 (by decide) wf_X9_81 rfl (ty := .int) rfl rfl rfl rfl rfl dX9_layOut_12 (fun H locs hH => ?_)
  have hH : Hd D cA A s (pI σ125 th 11 0) H locs := hH
  rw [← eσ126] at hH
  have hGσ126 : RG σ126 := by rw [eσ126]; exact hGσ125.pI (by unfold rng; omega)
  have hYσ126 : TY σ126 := by rw [eσ126]; exact hYσ125.pI
  have xσ126 : Ext σ125 σ126 := by rw [eσ126]; exact Ext.pI
  have hc : CB n0 s0 σ126 := by rw [eσ126]; exact hc
  rw [show gc σ125 = gc σ126 by rw [eσ126]; try rfl, show gs σ125 = gs σ126 by rw [eσ126]; try rfl]
  refine lv_iconst (v := i32 0) B.1 B.2.1 dX9_layOut_15 (by decide) ?_
  refine lv_istore_n (lv' := [(2, .int (i32 0)), (0, .ref th), (1, .int (i32 v1))]) B.1 B.2.1 dX9_layOut_16 rfl hl (by decide) rfl (fun ls hl => ?_)
  obtain ⟨n9, h⟩ := h
  exact al_X9_layOut_17 K hQ hX hTh n9 _ _ (by unfold rng; omega) h hGσ126 hYσ126 (((hE.trans xσ124).trans xσ125).trans xσ126) (hth.up (xσ124.trans (xσ125.trans xσ126))) _ _ _ hH (lv_sub (l' := [(0, .ref th), (2, .int (i32 0))]) hl [1, 0] rfl) hc
theorem ok_X9_layOut (hl0 : l.stackTraces = false) (hT : TyC cA tys) {Q : Sg → Unit → Prop} {X : Sg → String → Prop} (σ : Sg) (th : Nat) (v1 : Int) (g1 : rng v1) (hth : kO σ th 9) (hG : RG σ) (hY : TY σ) (h : wp_X9_layOut th v1 σ Q X) : Ok l D cA tys A yX9_layOut (.code yX9_layOut cX9_layOut 5 none) 5 102 [.ref th, .int (i32 v1)] σ (QcV σ Q) (QxC σ X) := by
  unfold wp_X9_layOut at h
  exact oc_V hl0 (by decide) (by exact Nat.le_of_ble_eq_true rfl) hT (fun p e R s m args below meth c K hQ hX hTh hin9 H locs ls hH hl hc => a_X9_layOut_0 K hQ hX hTh σ v1 g1 h hG hY (Ext.rfl' σ) hth H locs ls hH (lv_sub (l' := [(0, .ref th), (1, .int (i32 v1))]) hl [0, 1] rfl) hc)
theorem dX3_partOfLatest_0 : decode cX3_partOfLatest 0 = .ok (.aload_n 0, 1) := by decide +kernel
theorem dX3_partOfLatest_1 : decode cX3_partOfLatest 1 = .ok (.getfield 64, 3) := by decide +kernel
theorem dX3_partOfLatest_4 : decode cX3_partOfLatest 4 = .ok (.ifCond .ne 7, 3) := by decide +kernel
theorem dX3_partOfLatest_7 : decode cX3_partOfLatest 7 = .ok (.aconst_null, 1) := by decide +kernel
theorem dX3_partOfLatest_8 : decode cX3_partOfLatest 8 = .ok (.goto 13, 3) := by decide +kernel
theorem dX3_partOfLatest_11 : decode cX3_partOfLatest 11 = .ok (.aload_n 0, 1) := by decide +kernel
theorem dX3_partOfLatest_12 : decode cX3_partOfLatest 12 = .ok (.getfield 17, 3) := by decide +kernel
theorem dX3_partOfLatest_15 : decode cX3_partOfLatest 15 = .ok (.iload_n 1, 1) := by decide +kernel
theorem dX3_partOfLatest_16 : decode cX3_partOfLatest 16 = .ok (.iconst 4, 1) := by decide +kernel
theorem dX3_partOfLatest_17 : decode cX3_partOfLatest 17 = .ok (.imul, 1) := by decide +kernel
theorem dX3_partOfLatest_18 : decode cX3_partOfLatest 18 = .ok (.iload_n 2, 1) := by decide +kernel
theorem dX3_partOfLatest_19 : decode cX3_partOfLatest 19 = .ok (.iadd, 1) := by decide +kernel
theorem dX3_partOfLatest_20 : decode cX3_partOfLatest 20 = .ok (.aaload, 1) := by decide +kernel
theorem dX3_partOfLatest_21 : decode cX3_partOfLatest 21 = .ok (.areturn, 1) := by decide +kernel
set_option maxRecDepth 20000 in
theorem a_X3_partOfLatest_21 {Q : Sg → Option Nat → Prop} {X : Sg → String → Prop} {th : Nat} (K : MD l R p s m args c cX3_partOfLatest 3 RX3 D cA tys A n0 s0 0 0 []) (hQ : CQA p l e R s m args below meth c cX3_partOfLatest D cA A n0 s0 QM σi 10 Q) (hX : CX p l e R s m args below meth c 3 D cA A n0 s0 QM σi X) (hTh : CT p l e R s m args below meth c cX3_partOfLatest 3 D cA A n0 s0 QM σi RX3 X) : ∀ (σ : Sg) (u0 : Option Nat) (gu0 : tyV σ 10 u0), w_X3_partOfLatest_21 th Q X σ u0 → RG σ → TY σ → Ext σi σ → kO σ th 3 → JJ p l e R s m args below meth c 3 D cA A n0 s0 QM σ 21 [(0, .ref th)] [va_rf u0] := by
  intro σ u0 gu0 h hGσ hYσ hE hth H locs ls hH hl hc
  have B := K.1
  have hl9 := K.2.2.2.2.2.2
  unfold w_X3_partOfLatest_21 at h
  exact hQ _ _ _ _ _ _ gu0 dX3_partOfLatest_21 hH hc h hGσ hYσ hE
set_option maxRecDepth 20000 in
theorem a_X3_partOfLatest_11 {Q : Sg → Option Nat → Prop} {X : Sg → String → Prop} {th : Nat} (K : MD l R p s m args c cX3_partOfLatest 3 RX3 D cA tys A n0 s0 0 0 []) (hQ : CQA p l e R s m args below meth c cX3_partOfLatest D cA A n0 s0 QM σi 10 Q) (hX : CX p l e R s m args below meth c 3 D cA A n0 s0 QM σi X) (hTh : CT p l e R s m args below meth c cX3_partOfLatest 3 D cA A n0 s0 QM σi RX3 X) : ∀ (σ : Sg) (v1 : Int) (v2 : Int) (g1 : rng v1) (g2 : rng v2), w_X3_partOfLatest_11 th Q X σ v1 v2 → RG σ → TY σ → Ext σi σ → kO σ th 3 → JJ p l e R s m args below meth c 3 D cA A n0 s0 QM σ 11 [(0, .ref th), (1, .int (i32 v1)), (2, .int (i32 v2))] [] := by
  intro σ v1 v2 g1 g2 h hGσ hYσ hE hth H locs ls hH hl hc
  have B := K.1
  have hl9 := K.2.2.2.2.2.2
  unfold w_X3_partOfLatest_11 at h
  refine lv_aload_n B.1 B.2.1 dX3_partOfLatest_11 rfl (lv_at hl 0 rfl) ?_
  refine f_getp B hH hth (by decide) rfl wu_X3 1 (by decide) wf_X3_17 rfl rfl dX3_partOfLatest_12 ?_
  refine lv_iload_n B.1 B.2.1 dX3_partOfLatest_15 rfl (lv_at hl 1 rfl) ?_
  refine lv_iconst (v := i32 4) B.1 B.2.1 dX3_partOfLatest_16 (by decide) ?_
  obtain ⟨q1, h⟩ := h
  refine lv_imul B.1 B.2.1 dX3_partOfLatest_17 ?_
  rw [i32_mul]
  refine lv_iload_n B.1 B.2.1 dX3_partOfLatest_18 rfl (lv_at hl 2 rfl) ?_
  obtain ⟨q2, h⟩ := h
  refine lv_iadd B.1 B.2.1 dX3_partOfLatest_19 ?_
  rw [i32_add]
  obtain ⟨a3, ea3, h⟩ := h
  have ka3 : kO σ a3 120 := (hYσ.get hth (by decide)) a3 ea3
  have h := h ka3
  obtain ⟨q3, h⟩ := h
  refine W.eq (g2 := F0 m 20 ls [.int (i32 ((v1 * 4) + v2)), .ref a3]) (by rw [ea3]; rfl) ?_
  refine y_aald B hH (t0 := 7) ka3 (by decide) K.2.1.2.2.2.2.1 q3 (hYσ.2 _) dX3_partOfLatest_20 ?_
  exact a_X3_partOfLatest_21 K hQ hX hTh _ _ (hYσ.get ka3 rfl) h hGσ hYσ hE hth _ _ _ hH (lv_sub (l' := [(0, .ref th)]) hl [0] rfl) hc
set_option maxRecDepth 20000 in
theorem a_X3_partOfLatest_7 {Q : Sg → Option Nat → Prop} {X : Sg → String → Prop} {th : Nat} (K : MD l R p s m args c cX3_partOfLatest 3 RX3 D cA tys A n0 s0 0 0 []) (hQ : CQA p l e R s m args below meth c cX3_partOfLatest D cA A n0 s0 QM σi 10 Q) (hX : CX p l e R s m args below meth c 3 D cA A n0 s0 QM σi X) (hTh : CT p l e R s m args below meth c cX3_partOfLatest 3 D cA A n0 s0 QM σi RX3 X) : ∀ (σ : Sg), w_X3_partOfLatest_7 th Q X σ → RG σ → TY σ → Ext σi σ → kO σ th 3 → JJ p l e R s m args below meth c 3 D cA A n0 s0 QM σ 7 [(0, .ref th)] [] := by
  intro σ h hGσ hYσ hE hth H locs ls hH hl hc
  have B := K.1
  have hl9 := K.2.2.2.2.2.2
  unfold w_X3_partOfLatest_7 at h
  refine lv_null B.1 B.2.1 dX3_partOfLatest_7 ?_
  refine lv_goto (tgt := 21) B.1 B.2.1 dX3_partOfLatest_8 (by decide) ?_
  exact a_X3_partOfLatest_21 K hQ hX hTh _ _ (tyn _ _) h hGσ hYσ hE hth _ _ _ hH (lv_sub (l' := [(0, .ref th)]) hl [0] rfl) hc
set_option maxRecDepth 20000 in
theorem a_X3_partOfLatest_0 {Q : Sg → Option Nat → Prop} {X : Sg → String → Prop} {th : Nat} (K : MD l R p s m args c cX3_partOfLatest 3 RX3 D cA tys A n0 s0 0 0 []) (hQ : CQA p l e R s m args below meth c cX3_partOfLatest D cA A n0 s0 QM σi 10 Q) (hX : CX p l e R s m args below meth c 3 D cA A n0 s0 QM σi X) (hTh : CT p l e R s m args below meth c cX3_partOfLatest 3 D cA A n0 s0 QM σi RX3 X) : ∀ (σ : Sg) (v1 : Int) (v2 : Int) (g1 : rng v1) (g2 : rng v2), w_X3_partOfLatest_0 th Q X σ v1 v2 → RG σ → TY σ → Ext σi σ → kO σ th 3 → JJ p l e R s m args below meth c 3 D cA A n0 s0 QM σ 0 [(0, .ref th), (1, .int (i32 v1)), (2, .int (i32 v2))] [] := by
  intro σ v1 v2 g1 g2 h hGσ hYσ hE hth H locs ls hH hl hc
  have B := K.1
  have hl9 := K.2.2.2.2.2.2
  unfold w_X3_partOfLatest_0 at h
  refine lv_aload_n B.1 B.2.1 dX3_partOfLatest_0 rfl (lv_at hl 0 rfl) ?_
  refine f_geti B hH hth (by decide) rfl wu_X3 4 (by decide) wf_X3_64 rfl rfl dX3_partOfLatest_1 ?_
  refine lv_if_ne (tgt := 11) B.1 B.2.1 dX3_partOfLatest_4 (by decide) (fun h9 => ?_) (fun h9 => ?_)
  · rw [if_pos (fun q => h9 ((z_eq (hGσ _ _)).mpr q))] at h
    exact a_X3_partOfLatest_11 K hQ hX hTh _ _ _ g1 g2 h hGσ hYσ hE hth _ _ _ hH (lv_sub (l' := [(0, .ref th), (1, .int (i32 v1)), (2, .int (i32 v2))]) hl [0, 1, 2] rfl) hc
  · rw [if_neg (fun q => q ((z_eq (hGσ _ _)).mp h9))] at h
    exact a_X3_partOfLatest_7 K hQ hX hTh _ h hGσ hYσ hE hth _ _ _ hH (lv_sub (l' := [(0, .ref th)]) hl [0] rfl) hc
theorem ok_X3_partOfLatest (hl0 : l.stackTraces = false) (hT : TyC cA tys) {Q : Sg → Option Nat → Prop} {X : Sg → String → Prop} (σ : Sg) (th : Nat) (v1 : Int) (v2 : Int) (g1 : rng v1) (g2 : rng v2) (hth : kO σ th 3) (hG : RG σ) (hY : TY σ) (h : wp_X3_partOfLatest th v1 v2 σ Q X) : Ok l D cA tys A yX3_partOfLatest (.code yX3_partOfLatest cX3_partOfLatest 3 (some (.object "StreamHouse$Task"))) 0 0 [.ref th, .int (i32 v1), .int (i32 v2)] σ (QcA σ 10 Q) (QxC σ X) := by
  unfold wp_X3_partOfLatest at h
  exact oc_A hl0 (by decide) (by exact Nat.le_of_ble_eq_true rfl) hT (fun p e R s m args below meth c K hQ hX hTh H locs ls hH hl hc => a_X3_partOfLatest_0 K hQ hX hTh σ v1 v2 g1 g2 h hG hY (Ext.rfl' σ) hth H locs ls hH (lv_sub (l' := [(0, .ref th), (1, .int (i32 v1)), (2, .int (i32 v2))]) hl [0, 1, 2] rfl) hc)
theorem dX12_partOf_0 : decode cX12_partOf 0 = .ok (.lload_n 0, 1) := by decide +kernel
theorem dX12_partOf_1 : decode cX12_partOf 1 = .ok (.ldc2_w 265, 3) := by decide +kernel
theorem dX12_partOf_4 : decode cX12_partOf 4 = .ok (.lmul, 1) := by decide +kernel
theorem dX12_partOf_5 : decode cX12_partOf 5 = .ok (.bipush 60, 2) := by decide +kernel
theorem dX12_partOf_7 : decode cX12_partOf 7 = .ok (.lushr, 1) := by decide +kernel
theorem dX12_partOf_8 : decode cX12_partOf 8 = .ok (.l2i, 1) := by decide +kernel
theorem dX12_partOf_9 : decode cX12_partOf 9 = .ok (.istore_n 3, 1) := by decide +kernel
theorem dX12_partOf_10 : decode cX12_partOf 10 = .ok (.iload_n 3, 1) := by decide +kernel
theorem dX12_partOf_11 : decode cX12_partOf 11 = .ok (.iload_n 2, 1) := by decide +kernel
theorem dX12_partOf_12 : decode cX12_partOf 12 = .ok (.imul, 1) := by decide +kernel
theorem dX12_partOf_13 : decode cX12_partOf 13 = .ok (.bipush 16, 2) := by decide +kernel
theorem dX12_partOf_15 : decode cX12_partOf 15 = .ok (.idiv, 1) := by decide +kernel
theorem dX12_partOf_16 : decode cX12_partOf 16 = .ok (.ireturn, 1) := by decide +kernel
set_option maxRecDepth 20000 in
theorem a_X12_partOf_0 {Q : Sg → Int → Prop} {X : Sg → String → Prop} (K : MD l R p s m args c cX12_partOf 4 RX12 D cA tys A n0 s0 0 0 []) (hQ : CQI p l e R s m args below meth c cX12_partOf D cA A n0 s0 QM σi Q) (hX : CX p l e R s m args below meth c 4 D cA A n0 s0 QM σi X) (hTh : CT p l e R s m args below meth c cX12_partOf 4 D cA A n0 s0 QM σi RX12 X) : ∀ (σ : Sg) (v0 : Int64) (v2 : Int) (g2 : rng v2), w_X12_partOf_0 Q X σ v0 v2 → RG σ → TY σ → Ext σi σ → JJ p l e R s m args below meth c 4 D cA A n0 s0 QM σ 0 [(0, .long v0), (2, .int (i32 v2))] [] := by
  intro σ v0 v2 g2 h hGσ hYσ hE H locs ls hH hl hc
  have B := K.1
  have hl9 := K.2.2.2.2.2.2
  unfold w_X12_partOf_0 at h
  refine lv_lload_n B.1 B.2.1 dX12_partOf_0 rfl (lv_at hl 0 rfl) ?_
  refine lv_ldc2 B.1 B.2.1 B.2.2.1 (B.2.2.2.1 _ (wk_X12_265)) dX12_partOf_1 ?_
  refine lv_lmul B.1 B.2.1 dX12_partOf_4 ?_
  refine lv_bipush (v := i32 60) B.1 B.2.1 dX12_partOf_5 (by decide) ?_
  refine lv_lushr B.1 B.2.1 dX12_partOf_7 rfl ?_
  refine lv_l2i B.1 B.2.1 dX12_partOf_8 rfl ?_
  refine W.eq (g2 := F0 m 9 ls [.int (i32 (((((v0 * (-7046029254386353131))).toUInt64 >>> ((i32 60).toInt64.toUInt64 &&& Int64.toUInt64 63)).toInt64).toInt32.toInt))]) (by simp only [i32_self]) ?_
  refine lv_istore_n (lv' := [(3, .int (i32 (((((v0 * (-7046029254386353131))).toUInt64 >>> ((i32 60).toInt64.toUInt64 &&& Int64.toUInt64 63)).toInt64).toInt32.toInt))), (0, .long v0), (2, .int (i32 v2))]) B.1 B.2.1 dX12_partOf_9 rfl hl (by decide) rfl (fun ls hl => ?_)
  refine lv_iload_n B.1 B.2.1 dX12_partOf_10 rfl (lv_at hl 0 rfl) ?_
  refine lv_iload_n B.1 B.2.1 dX12_partOf_11 rfl (lv_at hl 2 rfl) ?_
  obtain ⟨q1, h⟩ := h
  refine lv_imul B.1 B.2.1 dX12_partOf_12 ?_
  rw [i32_mul]
  refine lv_bipush (v := i32 16) B.1 B.2.1 dX12_partOf_13 (by decide) ?_
  refine lv_idiv B.1 B.2.1 dX12_partOf_15 (i32_ne0 (by unfold rng; omega) (by decide)) ?_
  refine W.eq (g2 := F0 m 16 ls [.int (i32 (divI (((((v0 * (-7046029254386353131))).toUInt64 >>> ((i32 60).toInt64.toUInt64 &&& Int64.toUInt64 63)).toInt64).toInt32.toInt * v2) 16))]) (by unfold divI; rw [i32_self]) ?_
  exact hQ _ _ _ _ _ _ (rng_divI _ _) dX12_partOf_16 hH hc h hGσ hYσ hE
theorem ok_X12_partOf (hl0 : l.stackTraces = false) (hT : TyC cA tys) {Q : Sg → Int → Prop} {X : Sg → String → Prop} (σ : Sg) (v0 : Int64) (v2 : Int) (g2 : rng v2) (hG : RG σ) (hY : TY σ) (h : wp_X12_partOf v0 v2 σ Q X) : Ok l D cA tys A yX12_partOf (.code yX12_partOf cX12_partOf 4 (some .int)) 0 0 [.long v0, .int (i32 v2)] σ (QcI σ Q) (QxC σ X) := by
  unfold wp_X12_partOf at h
  exact oc_I hl0 (by decide) (by exact Nat.le_of_ble_eq_true rfl) hT (fun p e R s m args below meth c K hQ hX hTh H locs ls hH hl hc => a_X12_partOf_0 K hQ hX hTh σ v0 v2 g2 h hG hY (Ext.rfl' σ) H locs ls hH (lv_sub (l' := [(0, .long v0), (2, .int (i32 v2))]) hl [0, 1] rfl) hc)
theorem dX8_copyOf_0 : decode cX8_copyOf 0 = .ok (.aload_n 0, 1) := by decide +kernel
theorem dX8_copyOf_1 : decode cX8_copyOf 1 = .ok (.invokevirtual 45, 3) := by decide +kernel
theorem dX8_copyOf_4 : decode cX8_copyOf 4 = .ok (.astore_n 2, 1) := by decide +kernel
theorem dX8_copyOf_5 : decode cX8_copyOf 5 = .ok (.aload_n 2, 1) := by decide +kernel
theorem dX8_copyOf_6 : decode cX8_copyOf 6 = .ok (.aload_n 1, 1) := by decide +kernel
theorem dX8_copyOf_7 : decode cX8_copyOf 7 = .ok (.getfield 25, 3) := by decide +kernel
theorem dX8_copyOf_10 : decode cX8_copyOf 10 = .ok (.putfield 25, 3) := by decide +kernel
theorem dX8_copyOf_13 : decode cX8_copyOf 13 = .ok (.aload_n 2, 1) := by decide +kernel
theorem dX8_copyOf_14 : decode cX8_copyOf 14 = .ok (.aload_n 1, 1) := by decide +kernel
theorem dX8_copyOf_15 : decode cX8_copyOf 15 = .ok (.getfield 32, 3) := by decide +kernel
theorem dX8_copyOf_18 : decode cX8_copyOf 18 = .ok (.putfield 32, 3) := by decide +kernel
theorem dX8_copyOf_21 : decode cX8_copyOf 21 = .ok (.aload_n 2, 1) := by decide +kernel
theorem dX8_copyOf_22 : decode cX8_copyOf 22 = .ok (.aload_n 1, 1) := by decide +kernel
theorem dX8_copyOf_23 : decode cX8_copyOf 23 = .ok (.getfield 35, 3) := by decide +kernel
theorem dX8_copyOf_26 : decode cX8_copyOf 26 = .ok (.putfield 35, 3) := by decide +kernel
theorem dX8_copyOf_29 : decode cX8_copyOf 29 = .ok (.aload_n 2, 1) := by decide +kernel
theorem dX8_copyOf_30 : decode cX8_copyOf 30 = .ok (.aload_n 1, 1) := by decide +kernel
theorem dX8_copyOf_31 : decode cX8_copyOf 31 = .ok (.getfield 39, 3) := by decide +kernel
theorem dX8_copyOf_34 : decode cX8_copyOf 34 = .ok (.putfield 39, 3) := by decide +kernel
theorem dX8_copyOf_37 : decode cX8_copyOf 37 = .ok (.aload_n 2, 1) := by decide +kernel
theorem dX8_copyOf_38 : decode cX8_copyOf 38 = .ok (.aload_n 1, 1) := by decide +kernel
theorem dX8_copyOf_39 : decode cX8_copyOf 39 = .ok (.getfield 42, 3) := by decide +kernel
theorem dX8_copyOf_42 : decode cX8_copyOf 42 = .ok (.putfield 42, 3) := by decide +kernel
theorem dX8_copyOf_45 : decode cX8_copyOf 45 = .ok (.aload_n 1, 1) := by decide +kernel
theorem dX8_copyOf_46 : decode cX8_copyOf 46 = .ok (.getfield 49, 3) := by decide +kernel
theorem dX8_copyOf_49 : decode cX8_copyOf 49 = .ok (.iconst 0, 1) := by decide +kernel
theorem dX8_copyOf_50 : decode cX8_copyOf 50 = .ok (.aload_n 2, 1) := by decide +kernel
theorem dX8_copyOf_51 : decode cX8_copyOf 51 = .ok (.getfield 49, 3) := by decide +kernel
theorem dX8_copyOf_54 : decode cX8_copyOf 54 = .ok (.iconst 0, 1) := by decide +kernel
theorem dX8_copyOf_55 : decode cX8_copyOf 55 = .ok (.bipush 8, 2) := by decide +kernel
theorem dX8_copyOf_57 : decode cX8_copyOf 57 = .ok (.invokestatic 52, 3) := by decide +kernel
theorem dX8_copyOf_60 : decode cX8_copyOf 60 = .ok (.aload_n 2, 1) := by decide +kernel
theorem dX8_copyOf_61 : decode cX8_copyOf 61 = .ok (.areturn, 1) := by decide +kernel
set_option maxRecDepth 20000 in
theorem a_X8_copyOf_0 {Q : Sg → Option Nat → Prop} {X : Sg → String → Prop} {th : Nat} (K : MD l R p s m args c cX8_copyOf 3 RX8 D cA tys A n0 s0 3 60 []) (hQ : CQA p l e R s m args below meth c cX8_copyOf D cA A n0 s0 QM σi 0 Q) (hX : CX p l e R s m args below meth c 3 D cA A n0 s0 QM σi X) (hTh : CT p l e R s m args below meth c cX8_copyOf 3 D cA A n0 s0 QM σi RX8 X) : ∀ (σ : Sg) (v1 : Option Nat) (g1 : tyV σ 0 v1), w_X8_copyOf_0 th Q X σ v1 → RG σ → TY σ → Ext σi σ → kO σ th 8 → JJ p l e R s m args below meth c 3 D cA A n0 s0 QM σ 0 [(0, .ref th), (1, va_rf v1)] [] := by
  intro σ v1 g1 h hGσ hYσ hE hth H locs ls hH hl hc
  have B := K.1
  have hl9 := K.2.2.2.2.2.2
  unfold w_X8_copyOf_0 at h
  refine lv_aload_n B.1 B.2.1 dX8_copyOf_0 rfl (lv_at hl 0 rfl) ?_
  refine W.eq (g2 := F0 m 1 ls [.ref th]) (rfl) ?_
  refine c_V B hH hl hc K.2.2.1 (C := RX8) (T := TX8) (N := 3) (ci := 8) (As := []) (ok_X8_fresh hl9 K.2.1 σ th hth hGσ hYσ h) wc_X8_45 0 hd_X8_fresh ⟨Nat.le_trans (Nat.le_of_ble_eq_true rfl) K.2.2.2.1, Nat.le_trans (Nat.le_of_ble_eq_true rfl) K.2.2.2.2.1⟩ hth.1 hth.2 (by decide) rfl rfl (rest := []) rfl (Nat.le_of_ble_eq_true rfl) dX8_copyOf_1 (fun σ25 w hq => ?_) (fun σ9 E9 hx9 => hX σ9 E9 _ _ _ (tb_out K.2.2.2.2.2.1 rfl) hx9.1 hx9.2.1 hx9.2.2.1 (hE.trans hx9.2.2.2))
  obtain ⟨r26, rfl, tr26, h, hGσ25, hYσ25, xσ25⟩ := hq
  have h := h xσ25 tr26
  intro H locs ls hH hl hc
  refine W.eq (g2 := F0 m 4 ls [va_rf r26]) (rfl) ?_
  try dsimp only at h
  refine lv_astore_nQ (lv' := [(2, va_rf r26), (0, .ref th), (1, va_rf v1)]) B.1 B.2.1 dX8_copyOf_4 rfl hl (by decide) (by generalize v1 = w9; cases w9 <;> rfl) (fun ls hl => ?_)
  refine lv_aload_nQ B.1 B.2.1 dX8_copyOf_5 rfl (lv_at hl 0 rfl) ?_
  refine lv_aload_nQ B.1 B.2.1 dX8_copyOf_6 rfl (lv_at hl 2 rfl) ?_
  obtain ⟨a27, ea27, h⟩ := h
  have ka27 : kO σ25 a27 0 := (g1.up xσ25) a27 ea27
  have h := h ka27
  refine W.eq (g2 := F0 m 7 ls [.ref a27, va_rf r26]) (by rw [ea27]; rfl) ?_
  refine f_geti B hH ka27 (by decide) rfl wu_X0 2 (by decide) wf_X8_25 rfl rfl dX8_copyOf_7 ?_
  obtain ⟨a28, ea28, h⟩ := h
  have ka28 : kO σ25 a28 0 := tr26 a28 ea28
  have h := h ka28
  obtain ⟨σ29, eσ29⟩ : ∃ z, z = pI σ25 a28 2 (gI σ25 a27 2) := ⟨_, rfl⟩
  have h := h σ29 eσ29
  refine W.eq (g2 := F0 m 10 ls [.int (i32 (gI σ25 a27 2)), .ref a28]) (by rw [ea28]; rfl) ?_
  refine f_puti B hH ka28 (by decide) rfl wu_X0 tyX0 tyX0_ok nmX0 2 (by decide) wf_X8_25 rfl (ty := .int) rfl rfl rfl rfl rfl dX8_copyOf_10 (fun H locs hH => ?_)
  have hH : Hd D cA A s (pI σ25 a28 2 (gI σ25 a27 2)) H locs := hH
  rw [← eσ29] at hH
  have hGσ29 : RG σ29 := by rw [eσ29]; exact hGσ25.pI (hGσ25 _ _)
  have hYσ29 : TY σ29 := by rw [eσ29]; exact hYσ25.pI
  have xσ29 : Ext σ25 σ29 := by rw [eσ29]; exact Ext.pI
  have hc : CB n0 s0 σ29 := by rw [eσ29]; exact hc
  rw [show gc σ25 = gc σ29 by rw [eσ29]; try rfl, show gs σ25 = gs σ29 by rw [eσ29]; try rfl]
  refine lv_aload_nQ B.1 B.2.1 dX8_copyOf_13 rfl (lv_at hl 0 rfl) ?_
  refine lv_aload_nQ B.1 B.2.1 dX8_copyOf_14 rfl (lv_at hl 2 rfl) ?_
  refine W.eq (g2 := F0 m 15 ls [.ref a27, va_rf r26]) (by rw [ea27]; rfl) ?_
  refine f_geti B hH (ka27.up xσ29) (by decide) rfl wu_X0 4 (by decide) wf_X8_32 rfl rfl dX8_copyOf_15 ?_
  obtain ⟨σ30, eσ30⟩ : ∃ z, z = pI σ29 a28 4 (gI σ29 a27 4) := ⟨_, rfl⟩
  have h := h σ30 eσ30
  refine W.eq (g2 := F0 m 18 ls [.int (i32 (gI σ29 a27 4)), .ref a28]) (by rw [ea28]; rfl) ?_
  refine f_puti B hH (ka28.up xσ29) (by decide) rfl wu_X0 tyX0 tyX0_ok nmX0 4 (by decide) wf_X8_32 rfl (ty := .int) rfl rfl rfl rfl rfl dX8_copyOf_18 (fun H locs hH => ?_)
  have hH : Hd D cA A s (pI σ29 a28 4 (gI σ29 a27 4)) H locs := hH
  rw [← eσ30] at hH
  have hGσ30 : RG σ30 := by rw [eσ30]; exact hGσ29.pI (hGσ29 _ _)
  have hYσ30 : TY σ30 := by rw [eσ30]; exact hYσ29.pI
  have xσ30 : Ext σ29 σ30 := by rw [eσ30]; exact Ext.pI
  have hc : CB n0 s0 σ30 := by rw [eσ30]; exact hc
  rw [show gc σ29 = gc σ30 by rw [eσ30]; try rfl, show gs σ29 = gs σ30 by rw [eσ30]; try rfl]
  refine lv_aload_nQ B.1 B.2.1 dX8_copyOf_21 rfl (lv_at hl 0 rfl) ?_
  refine lv_aload_nQ B.1 B.2.1 dX8_copyOf_22 rfl (lv_at hl 2 rfl) ?_
  refine W.eq (g2 := F0 m 23 ls [.ref a27, va_rf r26]) (by rw [ea27]; rfl) ?_
  refine f_getl B hH (ka27.up (xσ29.trans xσ30)) (by decide) rfl wu_X0 5 (by decide) wf_X8_35 rfl rfl dX8_copyOf_23 ?_
  obtain ⟨σ31, eσ31⟩ : ∃ z, z = pJ σ30 a28 5 (gJ σ30 a27 5) := ⟨_, rfl⟩
  have h := h σ31 eσ31
  refine W.eq (g2 := F0 m 26 ls [.long (gJ σ30 a27 5), .ref a28]) (by rw [ea28]; rfl) ?_
  refine f_putl B hH (ka28.up (xσ29.trans xσ30)) (by decide) rfl wu_X0 tyX0 tyX0_ok nmX0 5 (by decide) wf_X8_35 rfl (ty := .long) rfl rfl rfl rfl rfl dX8_copyOf_26 (fun H locs hH => ?_)
  have hH : Hd D cA A s (pJ σ30 a28 5 (gJ σ30 a27 5)) H locs := hH
  rw [← eσ31] at hH
  have hGσ31 : RG σ31 := by rw [eσ31]; exact hGσ30.pJ
  have hYσ31 : TY σ31 := by rw [eσ31]; exact hYσ30.pJ
  have xσ31 : Ext σ30 σ31 := by rw [eσ31]; exact Ext.pJ
  have hc : CB n0 s0 σ31 := by rw [eσ31]; exact hc
  rw [show gc σ30 = gc σ31 by rw [eσ31]; try rfl, show gs σ30 = gs σ31 by rw [eσ31]; try rfl]
  refine lv_aload_nQ B.1 B.2.1 dX8_copyOf_29 rfl (lv_at hl 0 rfl) ?_
  refine lv_aload_nQ B.1 B.2.1 dX8_copyOf_30 rfl (lv_at hl 2 rfl) ?_
  refine W.eq (g2 := F0 m 31 ls [.ref a27, va_rf r26]) (by rw [ea27]; rfl) ?_
  refine f_getl B hH (ka27.up (xσ29.trans (xσ30.trans xσ31))) (by decide) rfl wu_X0 6 (by decide) wf_X8_39 rfl rfl dX8_copyOf_31 ?_
  obtain ⟨σ32, eσ32⟩ : ∃ z, z = pJ σ31 a28 6 (gJ σ31 a27 6) := ⟨_, rfl⟩
  have h := h σ32 eσ32
  refine W.eq (g2 := F0 m 34 ls [.long (gJ σ31 a27 6), .ref a28]) (by rw [ea28]; rfl) ?_
  refine f_putl B hH (ka28.up (xσ29.trans (xσ30.trans xσ31))) (by decide) rfl wu_X0 tyX0 tyX0_ok nmX0 6 (by decide) wf_X8_39 rfl (ty := .long) rfl rfl rfl rfl rfl dX8_copyOf_34 (fun H locs hH => ?_)
  have hH : Hd D cA A s (pJ σ31 a28 6 (gJ σ31 a27 6)) H locs := hH
  rw [← eσ32] at hH
  have hGσ32 : RG σ32 := by rw [eσ32]; exact hGσ31.pJ
  have hYσ32 : TY σ32 := by rw [eσ32]; exact hYσ31.pJ
  have xσ32 : Ext σ31 σ32 := by rw [eσ32]; exact Ext.pJ
  have hc : CB n0 s0 σ32 := by rw [eσ32]; exact hc
  rw [show gc σ31 = gc σ32 by rw [eσ32]; try rfl, show gs σ31 = gs σ32 by rw [eσ32]; try rfl]
  refine lv_aload_nQ B.1 B.2.1 dX8_copyOf_37 rfl (lv_at hl 0 rfl) ?_
  refine lv_aload_nQ B.1 B.2.1 dX8_copyOf_38 rfl (lv_at hl 2 rfl) ?_
  refine W.eq (g2 := F0 m 39 ls [.ref a27, va_rf r26]) (by rw [ea27]; rfl) ?_
  refine f_getl B hH (ka27.up (xσ29.trans (xσ30.trans (xσ31.trans xσ32)))) (by decide) rfl wu_X0 7 (by decide) wf_X8_42 rfl rfl dX8_copyOf_39 ?_
  obtain ⟨σ33, eσ33⟩ : ∃ z, z = pJ σ32 a28 7 (gJ σ32 a27 7) := ⟨_, rfl⟩
  have h := h σ33 eσ33
  refine W.eq (g2 := F0 m 42 ls [.long (gJ σ32 a27 7), .ref a28]) (by rw [ea28]; rfl) ?_
  refine f_putl B hH (ka28.up (xσ29.trans (xσ30.trans (xσ31.trans xσ32)))) (by decide) rfl wu_X0 tyX0 tyX0_ok nmX0 7 (by decide) wf_X8_42 rfl (ty := .long) rfl rfl rfl rfl rfl dX8_copyOf_42 (fun H locs hH => ?_)
  have hH : Hd D cA A s (pJ σ32 a28 7 (gJ σ32 a27 7)) H locs := hH
  rw [← eσ33] at hH
  have hGσ33 : RG σ33 := by rw [eσ33]; exact hGσ32.pJ
  have hYσ33 : TY σ33 := by rw [eσ33]; exact hYσ32.pJ
  have xσ33 : Ext σ32 σ33 := by rw [eσ33]; exact Ext.pJ
  have hc : CB n0 s0 σ33 := by rw [eσ33]; exact hc
  rw [show gc σ32 = gc σ33 by rw [eσ33]; try rfl, show gs σ32 = gs σ33 by rw [eσ33]; try rfl]
  refine lv_aload_nQ B.1 B.2.1 dX8_copyOf_45 rfl (lv_at hl 2 rfl) ?_
  refine W.eq (g2 := F0 m 46 ls [.ref a27]) (by rw [ea27]; rfl) ?_
  refine f_getp B hH (ka27.up (xσ29.trans (xσ30.trans (xσ31.trans (xσ32.trans xσ33))))) (by decide) rfl wu_X0 0 (by decide) wf_X8_49 rfl rfl dX8_copyOf_46 ?_
  refine lv_iconst (v := i32 0) B.1 B.2.1 dX8_copyOf_49 (by decide) ?_
  refine lv_aload_nQ B.1 B.2.1 dX8_copyOf_50 rfl (lv_at hl 0 rfl) ?_
  refine W.eq (g2 := F0 m 51 ls [.ref a28, .int (i32 0), va_rf (gP σ33 a27 0)]) (by rw [ea28]; rfl) ?_
  refine f_getp B hH (ka28.up (xσ29.trans (xσ30.trans (xσ31.trans (xσ32.trans xσ33))))) (by decide) rfl wu_X0 0 (by decide) wf_X8_49 rfl rfl dX8_copyOf_51 ?_
  refine lv_iconst (v := i32 0) B.1 B.2.1 dX8_copyOf_54 (by decide) ?_
  refine lv_bipush (v := i32 8) B.1 B.2.1 dX8_copyOf_55 (by decide) ?_
  obtain ⟨a34, ea34, h⟩ := h
  have ka34 : kO σ33 a34 101 := (hYσ33.get (ka27.up (xσ29.trans (xσ30.trans (xσ31.trans (xσ32.trans xσ33))))) (by decide)) a34 ea34
  have h := h ka34
  obtain ⟨a35, ea35, h⟩ := h
  have ka35 : kO σ33 a35 101 := (hYσ33.get (ka28.up (xσ29.trans (xσ30.trans (xσ31.trans (xσ32.trans xσ33))))) (by decide)) a35 ea35
  have h := h ka35
  obtain ⟨q1, h⟩ := h
  obtain ⟨σ36, eσ36⟩ : ∃ z, z = cpJ σ33 a34 (0 : Int) a35 (0 : Int) (8 : Int) := ⟨_, rfl⟩
  have h := h σ36 eσ36
  refine W.eq (g2 := F0 m 57 ls [.int (i32 8), .int (i32 0), .ref a35, .int (i32 0), .ref a34]) (by rw [ea34, ea35]; rfl) ?_
  refine c_copy B K.2.1 hH hl ws_X8_52 ka34 ka35 q1.1 q1.2.1 q1.2.2 ⟨by have := hYσ33.2 a34; omega, by have := hYσ33.2 a35; omega⟩ (by have := K.2.2.2.1; omega) (Nat.le_trans (Nat.le_of_ble_eq_true rfl) K.2.2.2.2.1) dX8_copyOf_57 (fun H locs hH => ?_)
  have hH : Hd D cA A s (cpJ σ33 a34 (0 : Int) a35 (0 : Int) (8 : Int)) H locs := hH
  rw [← eσ36] at hH
  have hGσ36 : RG σ36 := by rw [eσ36]; exact hGσ33.cpJ
  have hYσ36 : TY σ36 := by rw [eσ36]; exact hYσ33.cpJ
  have xσ36 : Ext σ33 σ36 := by rw [eσ36]; exact Ext.cpJ
  have hc : CB n0 s0 σ36 := by rw [eσ36]; exact hc
  rw [show gc σ33 = gc σ36 by rw [eσ36]; try rfl, show gs σ33 = gs σ36 by rw [eσ36]; try rfl]
  refine lv_aload_nQ B.1 B.2.1 dX8_copyOf_60 rfl (lv_at hl 0 rfl) ?_
  exact hQ _ _ _ _ _ _ (tr26.up (xσ29.trans (xσ30.trans (xσ31.trans (xσ32.trans (xσ33.trans xσ36)))))) dX8_copyOf_61 hH hc h hGσ36 hYσ36 (((((((hE.trans xσ25).trans xσ29).trans xσ30).trans xσ31).trans xσ32).trans xσ33).trans xσ36)
theorem ok_X8_copyOf (hl0 : l.stackTraces = false) (hT : TyC cA tys) {Q : Sg → Option Nat → Prop} {X : Sg → String → Prop} (σ : Sg) (th : Nat) (v1 : Option Nat) (g1 : tyV σ 0 v1) (hth : kO σ th 8) (hG : RG σ) (hY : TY σ) (h : wp_X8_copyOf th v1 σ Q X) : Ok l D cA tys A yX8_copyOf (.code yX8_copyOf cX8_copyOf 3 (some (.object "StreamHouse$Cell"))) 3 60 [.ref th, va_rf v1] σ (QcA σ 0 Q) (QxC σ X) := by
  unfold wp_X8_copyOf at h
  exact oc_A hl0 (by decide) (by cases v1 <;> exact Nat.le_of_ble_eq_true rfl) hT (fun p e R s m args below meth c K hQ hX hTh H locs ls hH hl hc => a_X8_copyOf_0 K hQ hX hTh σ v1 g1 h hG hY (Ext.rfl' σ) hth H locs ls hH (lv_sub (l' := [(0, .ref th), (1, va_rf v1)]) hl [0, 1] (by cases v1 <;> rfl)) hc)
theorem dX9_restoreRecords_0 : decode cX9_restoreRecords 0 = .ok (.aload_n 0, 1) := by decide +kernel
theorem dX9_restoreRecords_1 : decode cX9_restoreRecords 1 = .ok (.getfield 100, 3) := by decide +kernel
theorem dX9_restoreRecords_4 : decode cX9_restoreRecords 4 = .ok (.getfield 160, 3) := by decide +kernel
theorem dX9_restoreRecords_7 : decode cX9_restoreRecords 7 = .ok (.iload_n 1, 1) := by decide +kernel
theorem dX9_restoreRecords_8 : decode cX9_restoreRecords 8 = .ok (.aaload, 1) := by decide +kernel
theorem dX9_restoreRecords_9 : decode cX9_restoreRecords 9 = .ok (.astore 4, 2) := by decide +kernel
theorem dX9_restoreRecords_11 : decode cX9_restoreRecords 11 = .ok (.aload_n 2, 1) := by decide +kernel
theorem dX9_restoreRecords_12 : decode cX9_restoreRecords 12 = .ok (.getfield 234, 3) := by decide +kernel
theorem dX9_restoreRecords_15 : decode cX9_restoreRecords 15 = .ok (.astore 5, 2) := by decide +kernel
theorem dX9_restoreRecords_17 : decode cX9_restoreRecords 17 = .ok (.aload 5, 2) := by decide +kernel
theorem dX9_restoreRecords_19 : decode cX9_restoreRecords 19 = .ok (.ifnull 75, 3) := by decide +kernel
theorem dX9_restoreRecords_22 : decode cX9_restoreRecords 22 = .ok (.aload 4, 2) := by decide +kernel
theorem dX9_restoreRecords_24 : decode cX9_restoreRecords 24 = .ok (.getfield 164, 3) := by decide +kernel
theorem dX9_restoreRecords_27 : decode cX9_restoreRecords 27 = .ok (.invokestatic 196, 3) := by decide +kernel
theorem dX9_restoreRecords_30 : decode cX9_restoreRecords 30 = .ok (.ifCond .eq 18, 3) := by decide +kernel
theorem dX9_restoreRecords_33 : decode cX9_restoreRecords 33 = .ok (.aload 5, 2) := by decide +kernel
theorem dX9_restoreRecords_35 : decode cX9_restoreRecords 35 = .ok (.getfield 239, 3) := by decide +kernel
theorem dX9_restoreRecords_38 : decode cX9_restoreRecords 38 = .ok (.aload_n 0, 1) := by decide +kernel
theorem dX9_restoreRecords_39 : decode cX9_restoreRecords 39 = .ok (.getfield 157, 3) := by decide +kernel
theorem dX9_restoreRecords_42 : decode cX9_restoreRecords 42 = .ok (.invokestatic 242, 3) := by decide +kernel
theorem dX9_restoreRecords_45 : decode cX9_restoreRecords 45 = .ok (.goto 4, 3) := by decide +kernel
theorem dX9_restoreRecords_48 : decode cX9_restoreRecords 48 = .ok (.iconst 0, 1) := by decide +kernel
theorem dX9_restoreRecords_49 : decode cX9_restoreRecords 49 = .ok (.istore 6, 2) := by decide +kernel
theorem dX9_restoreRecords_51 : decode cX9_restoreRecords 51 = .ok (.aload_n 0, 1) := by decide +kernel
theorem dX9_restoreRecords_52 : decode cX9_restoreRecords 52 = .ok (.getfield 57, 3) := by decide +kernel
theorem dX9_restoreRecords_55 : decode cX9_restoreRecords 55 = .ok (.aload 4, 2) := by decide +kernel
theorem dX9_restoreRecords_57 : decode cX9_restoreRecords 57 = .ok (.aload_n 0, 1) := by decide +kernel
theorem dX9_restoreRecords_58 : decode cX9_restoreRecords 58 = .ok (.getfield 20, 3) := by decide +kernel
theorem dX9_restoreRecords_61 : decode cX9_restoreRecords 61 = .ok (.aload_n 0, 1) := by decide +kernel
theorem dX9_restoreRecords_62 : decode cX9_restoreRecords 62 = .ok (.getfield 30, 3) := by decide +kernel
theorem dX9_restoreRecords_65 : decode cX9_restoreRecords 65 = .ok (.iload_n 1, 1) := by decide +kernel
theorem dX9_restoreRecords_66 : decode cX9_restoreRecords 66 = .ok (.iaload, 1) := by decide +kernel
theorem dX9_restoreRecords_67 : decode cX9_restoreRecords 67 = .ok (.iload 6, 2) := by decide +kernel
theorem dX9_restoreRecords_69 : decode cX9_restoreRecords 69 = .ok (.iadd, 1) := by decide +kernel
theorem dX9_restoreRecords_70 : decode cX9_restoreRecords 70 = .ok (.aaload, 1) := by decide +kernel
theorem dX9_restoreRecords_71 : decode cX9_restoreRecords 71 = .ok (.iload_n 3, 1) := by decide +kernel
theorem dX9_restoreRecords_72 : decode cX9_restoreRecords 72 = .ok (.aload_n 0, 1) := by decide +kernel
theorem dX9_restoreRecords_73 : decode cX9_restoreRecords 73 = .ok (.getfield 48, 3) := by decide +kernel
theorem dX9_restoreRecords_76 : decode cX9_restoreRecords 76 = .ok (.aload 5, 2) := by decide +kernel
theorem dX9_restoreRecords_78 : decode cX9_restoreRecords 78 = .ok (.invokevirtual 246, 3) := by decide +kernel
theorem dX9_restoreRecords_81 : decode cX9_restoreRecords 81 = .ok (.invokevirtual 250, 3) := by decide +kernel
theorem dX9_restoreRecords_84 : decode cX9_restoreRecords 84 = .ok (.aload 5, 2) := by decide +kernel
theorem dX9_restoreRecords_86 : decode cX9_restoreRecords 86 = .ok (.getfield 254, 3) := by decide +kernel
theorem dX9_restoreRecords_89 : decode cX9_restoreRecords 89 = .ok (.astore 5, 2) := by decide +kernel
theorem dX9_restoreRecords_91 : decode cX9_restoreRecords 91 = .ok (.goto (-74), 3) := by decide +kernel
theorem dX9_restoreRecords_94 : decode cX9_restoreRecords 94 = .ok (.return_, 1) := by decide +kernel
set_option maxRecDepth 20000 in
theorem a_X9_restoreRecords_94 {Q : Sg → Unit → Prop} {X : Sg → String → Prop} {th : Nat} (K : MD l R p s m args c cX9_restoreRecords 7 RX9 D cA tys A n0 s0 8 135 []) (hQ : CQV p l e R s m args below meth c cX9_restoreRecords D cA A n0 s0 QM σi Q) (hX : CX p l e R s m args below meth c 7 D cA A n0 s0 QM σi X) (hTh : CT p l e R s m args below meth c cX9_restoreRecords 7 D cA A n0 s0 QM σi RX9 X) : ∀ (σ : Sg), w_X9_restoreRecords_94 th Q X σ → RG σ → TY σ → Ext σi σ → kO σ th 9 → JJ p l e R s m args below meth c 7 D cA A n0 s0 QM σ 94 [(0, .ref th)] [] := by
  intro σ h hGσ hYσ hE hth H locs ls hH hl hc
  have B := K.1
  have hl9 := K.2.2.2.2.2.2
  unfold w_X9_restoreRecords_94 at h
  exact hQ _ _ _ _ _ dX9_restoreRecords_94 hH hc h hGσ hYσ hE
set_option maxRecDepth 20000 in
theorem a_X9_restoreRecords_49 {Q : Sg → Unit → Prop} {X : Sg → String → Prop} {th : Nat} (K : MD l R p s m args c cX9_restoreRecords 7 RX9 D cA tys A n0 s0 8 135 []) (hQ : CQV p l e R s m args below meth c cX9_restoreRecords D cA A n0 s0 QM σi Q) (hX : CX p l e R s m args below meth c 7 D cA A n0 s0 QM σi X) (hTh : CT p l e R s m args below meth c cX9_restoreRecords 7 D cA A n0 s0 QM σi RX9 X) {K17 : Sg → Int → Int → Option Nat → Option Nat → Prop} (hK17 : ∀ (σ : Sg) (v1 : Int) (v3 : Int) (v4 : Option Nat) (v5 : Option Nat) (g1 : rng v1) (g3 : rng v3) (g4 : tyV σ 5 v4) (g5 : tyV σ 0 v5), K17 σ v1 v3 v4 v5 → RG σ → TY σ → Ext σi σ → kO σ th 9 → JJ p l e R s m args below meth c 7 D cA A n0 s0 QM σ 17 [(0, .ref th), (1, .int (i32 v1)), (3, .int (i32 v3)), (4, va_rf v4), (5, va_rf v5)] []) : ∀ (σ : Sg) (v1 : Int) (v3 : Int) (v4 : Option Nat) (v5 : Option Nat) (u0 : Int) (g1 : rng v1) (g3 : rng v3) (g4 : tyV σ 5 v4) (g5 : tyV σ 0 v5) (gu0 : rng u0), w_X9_restoreRecords_49 th K17 Q X σ v1 v3 v4 v5 u0 → RG σ → TY σ → Ext σi σ → kO σ th 9 → JJ p l e R s m args below meth c 7 D cA A n0 s0 QM σ 49 [(0, .ref th), (1, .int (i32 v1)), (3, .int (i32 v3)), (4, va_rf v4), (5, va_rf v5)] [.int (i32 u0)] := by
  intro σ v1 v3 v4 v5 u0 g1 g3 g4 g5 gu0 h hGσ hYσ hE hth H locs ls hH hl hc
  have B := K.1
  have hl9 := K.2.2.2.2.2.2
  unfold w_X9_restoreRecords_49 at h
  refine lv_istore (lv' := [(6, .int (i32 u0)), (0, .ref th), (1, .int (i32 v1)), (3, .int (i32 v3)), (4, va_rf v4), (5, va_rf v5)]) B.1 B.2.1 dX9_restoreRecords_49 hl (by decide) (by generalize v5 = w9; cases w9 <;> rfl) (fun ls hl => ?_)
  refine lv_aload_n B.1 B.2.1 dX9_restoreRecords_51 rfl (lv_at hl 1 rfl) ?_
  refine f_getp B hH hth (by decide) rfl wu_X9 1 (by decide) wf_X9_57 rfl rfl dX9_restoreRecords_52 ?_
  refine lv_aloadQ B.1 B.2.1 dX9_restoreRecords_55 (lv_at hl 4 rfl) ?_
  refine lv_aload_n B.1 B.2.1 dX9_restoreRecords_57 rfl (lv_at hl 1 rfl) ?_
  refine f_getp B hH hth (by decide) rfl wu_X9 3 (by decide) wf_X9_20 rfl rfl dX9_restoreRecords_58 ?_
  refine lv_aload_n B.1 B.2.1 dX9_restoreRecords_61 rfl (lv_at hl 1 rfl) ?_
  refine f_getp B hH hth (by decide) rfl wu_X9 5 (by decide) wf_X9_30 rfl rfl dX9_restoreRecords_62 ?_
  refine lv_iload_n B.1 B.2.1 dX9_restoreRecords_65 rfl (lv_at hl 2 rfl) ?_
  obtain ⟨a35, ea35, h⟩ := h
  have ka35 : kO σ a35 100 := (hYσ.get hth (by decide)) a35 ea35
  have h := h ka35
  obtain ⟨q1, h⟩ := h
  refine W.eq (g2 := F0 m 66 ls [.int (i32 v1), .ref a35, va_rf (gP σ th 3), va_rf v4, va_rf (gP σ th 1)]) (by rw [ea35]; rfl) ?_
  refine y_iald B K.2.1 hH ka35 q1 dX9_restoreRecords_66 (hYσ.2 _) ?_
  refine lv_iload B.1 B.2.1 dX9_restoreRecords_67 (lv_at hl 0 rfl) ?_
  obtain ⟨q2, h⟩ := h
  refine lv_iadd B.1 B.2.1 dX9_restoreRecords_69 ?_
  rw [i32_add]
  obtain ⟨a36, ea36, h⟩ := h
  have ka36 : kO σ a36 120 := (hYσ.get hth (by decide)) a36 ea36
  have h := h ka36
  obtain ⟨q3, h⟩ := h
  refine W.eq (g2 := F0 m 70 ls [.int (i32 ((gI σ a35 v1.toNat) + u0)), .ref a36, va_rf v4, va_rf (gP σ th 1)]) (by rw [ea36]; rfl) ?_
  refine y_aald B hH (t0 := 7) ka36 (by decide) K.2.1.2.2.2.2.1 q3 (hYσ.2 _) dX9_restoreRecords_70 ?_
  refine lv_iload_n B.1 B.2.1 dX9_restoreRecords_71 rfl (lv_at hl 3 rfl) ?_
  refine lv_aload_n B.1 B.2.1 dX9_restoreRecords_72 rfl (lv_at hl 1 rfl) ?_
  refine f_getp B hH hth (by decide) rfl wu_X9 0 (by decide) wf_X9_48 rfl rfl dX9_restoreRecords_73 ?_
  refine lv_aloadQ B.1 B.2.1 dX9_restoreRecords_76 (lv_at hl 5 rfl) ?_
  obtain ⟨a39, ea39, h⟩ := h
  have ka39 : kO σ a39 8 := (hYσ.get hth (by decide)) a39 ea39
  have h := h ka39
  refine W.eq (g2 := F0 m 78 ls [va_rf v5, .ref a39, .int (i32 v3), va_rf (gP σ a36 ((gI σ a35 v1.toNat) + u0).toNat), va_rf v4, va_rf (gP σ th 1)]) (by rw [ea39]; rfl) ?_
  refine c_V B hH hl hc K.2.2.1 (C := RX8) (T := TX8) (N := 3) (ci := 8) (As := [va_rf v5]) (ok_X8_copyOf hl9 K.2.1 σ a39 v5 g5 ka39 hGσ hYσ h) wc_X9_246 1 hd_X8_copyOf ⟨Nat.le_trans (Nat.le_of_ble_eq_true rfl) K.2.2.2.1, Nat.le_trans (Nat.le_of_ble_eq_true rfl) K.2.2.2.2.1⟩ ka39.1 ka39.2 (by decide) rfl rfl (rest := [.int (i32 v3), va_rf (gP σ a36 ((gI σ a35 v1.toNat) + u0).toNat), va_rf v4, va_rf (gP σ th 1)]) rfl (by simp only [List.map_cons, List.map_nil, rf_cat]; exact Nat.le_of_ble_eq_true rfl) dX9_restoreRecords_78 (fun σ37 w hq => ?_) (fun σ9 E9 hx9 => hX σ9 E9 _ _ _ (tb_out K.2.2.2.2.2.1 rfl) hx9.1 hx9.2.1 hx9.2.2.1 (hE.trans hx9.2.2.2))
  obtain ⟨r38, rfl, tr38, h, hGσ37, hYσ37, xσ37⟩ := hq
  have h := h xσ37 tr38
  intro H locs ls hH hl hc
  refine W.eq (g2 := F0 m 81 ls [va_rf r38, .int (i32 v3), va_rf (gP σ a36 ((gI σ a35 v1.toNat) + u0).toNat), va_rf v4, va_rf (gP σ th 1)]) (rfl) ?_
  try dsimp only at h
  obtain ⟨a41, ea41, h⟩ := h
  have ka41 : kO σ37 a41 11 := ((hYσ.get hth (by decide)).up xσ37) a41 ea41
  have h := h ka41
  refine W.eq (g2 := F0 m 81 ls [va_rf r38, .int (i32 v3), va_rf (gP σ a36 ((gI σ a35 v1.toNat) + u0).toNat), va_rf v4, .ref a41]) (by rw [ea41]; rfl) ?_
  refine c_V B hH hl hc K.2.2.1 (C := RX11) (T := TX11) (N := 6) (ci := 11) (As := [va_rf v4, va_rf (gP σ a36 ((gI σ a35 v1.toNat) + u0).toNat), .int (i32 v3), va_rf r38]) (ok_X11_keep hl9 K.2.1 σ37 a41 v4 (gP σ a36 ((gI σ a35 v1.toNat) + u0).toNat) v3 r38 (g4.up xσ37) ((hYσ.get ka36 rfl).up xσ37) g3 tr38 ka41 hGσ37 hYσ37 h) wc_X9_250 4 hd_X11_keep ⟨Nat.le_trans (Nat.le_of_ble_eq_true rfl) K.2.2.2.1, Nat.le_trans (Nat.le_of_ble_eq_true rfl) K.2.2.2.2.1⟩ ka41.1 ka41.2 (by decide) rfl rfl (rest := []) rfl (Nat.le_of_ble_eq_true rfl) dX9_restoreRecords_81 (fun σ40 w hq => ?_) (fun σ9 E9 hx9 => hX σ9 E9 _ _ _ (tb_out K.2.2.2.2.2.1 rfl) hx9.1 hx9.2.1 hx9.2.2.1 ((hE.trans xσ37).trans hx9.2.2.2))
  obtain ⟨rfl, h, hGσ40, hYσ40, xσ40⟩ := hq
  have h := h xσ40
  intro H locs ls hH hl hc
  refine W.eq (g2 := F0 m 84 ls []) (rfl) ?_
  try dsimp only at h
  refine lv_aloadQ B.1 B.2.1 dX9_restoreRecords_84 (lv_at hl 5 rfl) ?_
  obtain ⟨a42, ea42, h⟩ := h
  have ka42 : kO σ40 a42 0 := (g5.up (xσ37.trans xσ40)) a42 ea42
  have h := h ka42
  refine W.eq (g2 := F0 m 86 ls [.ref a42]) (by rw [ea42]; rfl) ?_
  refine f_getp B hH ka42 (by decide) rfl wu_X0 1 (by decide) wf_X9_254 rfl rfl dX9_restoreRecords_86 ?_
  refine lv_astoreQ (lv' := [(5, va_rf (gP σ40 a42 1)), (6, .int (i32 u0)), (0, .ref th), (1, .int (i32 v1)), (3, .int (i32 v3)), (4, va_rf v4)]) B.1 B.2.1 dX9_restoreRecords_89 hl (by decide) (by generalize v4 = w9; cases w9 <;> rfl) (fun ls hl => ?_)
  refine lv_goto (tgt := 17) B.1 B.2.1 dX9_restoreRecords_91 (by decide) ?_
  exact hK17 _ _ _ _ _ g1 g3 (g4.up (xσ37.trans xσ40)) (hYσ40.get ka42 (by decide)) h hGσ40 hYσ40 ((hE.trans xσ37).trans xσ40) (hth.up (xσ37.trans xσ40)) _ _ _ hH (lv_sub (l' := [(0, .ref th), (1, .int (i32 v1)), (3, .int (i32 v3)), (4, va_rf v4), (5, va_rf (gP σ40 a42 1))]) hl [2, 3, 4, 5, 0] rfl) hc
set_option maxRecDepth 20000 in
theorem a_X9_restoreRecords_48 {Q : Sg → Unit → Prop} {X : Sg → String → Prop} {th : Nat} (K : MD l R p s m args c cX9_restoreRecords 7 RX9 D cA tys A n0 s0 8 135 []) (hQ : CQV p l e R s m args below meth c cX9_restoreRecords D cA A n0 s0 QM σi Q) (hX : CX p l e R s m args below meth c 7 D cA A n0 s0 QM σi X) (hTh : CT p l e R s m args below meth c cX9_restoreRecords 7 D cA A n0 s0 QM σi RX9 X) {K17 : Sg → Int → Int → Option Nat → Option Nat → Prop} (hK17 : ∀ (σ : Sg) (v1 : Int) (v3 : Int) (v4 : Option Nat) (v5 : Option Nat) (g1 : rng v1) (g3 : rng v3) (g4 : tyV σ 5 v4) (g5 : tyV σ 0 v5), K17 σ v1 v3 v4 v5 → RG σ → TY σ → Ext σi σ → kO σ th 9 → JJ p l e R s m args below meth c 7 D cA A n0 s0 QM σ 17 [(0, .ref th), (1, .int (i32 v1)), (3, .int (i32 v3)), (4, va_rf v4), (5, va_rf v5)] []) : ∀ (σ : Sg) (v1 : Int) (v3 : Int) (v4 : Option Nat) (v5 : Option Nat) (g1 : rng v1) (g3 : rng v3) (g4 : tyV σ 5 v4) (g5 : tyV σ 0 v5), w_X9_restoreRecords_48 th K17 Q X σ v1 v3 v4 v5 → RG σ → TY σ → Ext σi σ → kO σ th 9 → JJ p l e R s m args below meth c 7 D cA A n0 s0 QM σ 48 [(0, .ref th), (1, .int (i32 v1)), (3, .int (i32 v3)), (4, va_rf v4), (5, va_rf v5)] [] := by
  intro σ v1 v3 v4 v5 g1 g3 g4 g5 h hGσ hYσ hE hth H locs ls hH hl hc
  have B := K.1
  have hl9 := K.2.2.2.2.2.2
  unfold w_X9_restoreRecords_48 at h
  refine lv_iconst (v := i32 0) B.1 B.2.1 dX9_restoreRecords_48 (by decide) ?_
  exact a_X9_restoreRecords_49 K hQ hX hTh hK17 _ _ _ _ _ _ g1 g3 g4 g5 (by unfold rng; omega) h hGσ hYσ hE hth _ _ _ hH (lv_sub (l' := [(0, .ref th), (1, .int (i32 v1)), (3, .int (i32 v3)), (4, va_rf v4), (5, va_rf v5)]) hl [0, 1, 2, 3, 4] rfl) hc
set_option maxRecDepth 20000 in
theorem a_X9_restoreRecords_33 {Q : Sg → Unit → Prop} {X : Sg → String → Prop} {th : Nat} (K : MD l R p s m args c cX9_restoreRecords 7 RX9 D cA tys A n0 s0 8 135 []) (hQ : CQV p l e R s m args below meth c cX9_restoreRecords D cA A n0 s0 QM σi Q) (hX : CX p l e R s m args below meth c 7 D cA A n0 s0 QM σi X) (hTh : CT p l e R s m args below meth c cX9_restoreRecords 7 D cA A n0 s0 QM σi RX9 X) {K17 : Sg → Int → Int → Option Nat → Option Nat → Prop} (hK17 : ∀ (σ : Sg) (v1 : Int) (v3 : Int) (v4 : Option Nat) (v5 : Option Nat) (g1 : rng v1) (g3 : rng v3) (g4 : tyV σ 5 v4) (g5 : tyV σ 0 v5), K17 σ v1 v3 v4 v5 → RG σ → TY σ → Ext σi σ → kO σ th 9 → JJ p l e R s m args below meth c 7 D cA A n0 s0 QM σ 17 [(0, .ref th), (1, .int (i32 v1)), (3, .int (i32 v3)), (4, va_rf v4), (5, va_rf v5)] []) : ∀ (σ : Sg) (v1 : Int) (v3 : Int) (v4 : Option Nat) (v5 : Option Nat) (g1 : rng v1) (g3 : rng v3) (g4 : tyV σ 5 v4) (g5 : tyV σ 0 v5), w_X9_restoreRecords_33 th K17 Q X σ v1 v3 v4 v5 → RG σ → TY σ → Ext σi σ → kO σ th 9 → JJ p l e R s m args below meth c 7 D cA A n0 s0 QM σ 33 [(0, .ref th), (1, .int (i32 v1)), (3, .int (i32 v3)), (4, va_rf v4), (5, va_rf v5)] [] := by
  intro σ v1 v3 v4 v5 g1 g3 g4 g5 h hGσ hYσ hE hth H locs ls hH hl hc
  have B := K.1
  have hl9 := K.2.2.2.2.2.2
  unfold w_X9_restoreRecords_33 at h
  refine lv_aloadQ B.1 B.2.1 dX9_restoreRecords_33 (lv_at hl 4 rfl) ?_
  obtain ⟨a43, ea43, h⟩ := h
  have ka43 : kO σ a43 0 := g5 a43 ea43
  have h := h ka43
  refine W.eq (g2 := F0 m 35 ls [.ref a43]) (by rw [ea43]; rfl) ?_
  refine f_getl B hH ka43 (by decide) rfl wu_X0 7 (by decide) wf_X9_239 rfl rfl dX9_restoreRecords_35 ?_
  refine lv_aload_n B.1 B.2.1 dX9_restoreRecords_38 rfl (lv_at hl 0 rfl) ?_
  refine f_geti B hH hth (by decide) rfl wu_X9 12 (by decide) wf_X9_157 rfl rfl dX9_restoreRecords_39 ?_
  refine c_SN B hH hl hc K.2.2.1 (As := [.long (gJ σ a43 7), .int (i32 (gI σ th 12))]) (ok_X12_partOf hl9 K.2.1 σ (gJ σ a43 7) (gI σ th 12) (hGσ _ _) hGσ hYσ (nx_X12_partOf h)) (fun _ _ h9 => h9.1) (List.mem_of_getElem? (l := nmL) (i := 18) rfl) wq_X12_partOf 2 hd_X12_partOf ⟨Nat.le_trans (Nat.le_of_ble_eq_true rfl) K.2.2.2.1, Nat.le_trans (Nat.le_of_ble_eq_true rfl) K.2.2.2.2.1⟩ rfl (rest := []) rfl (Nat.le_of_ble_eq_true rfl) dX9_restoreRecords_42 (fun σ44 w hq => ?_)
  obtain ⟨r45, rfl, gr45, h, hGσ44, hYσ44, xσ44⟩ := hq
  have h := h xσ44
  intro H locs ls hH hl hc
  refine W.eq (g2 := F0 m 45 ls [.int (i32 r45)]) (rfl) ?_
  try dsimp only at h
  refine lv_goto (tgt := 49) B.1 B.2.1 dX9_restoreRecords_45 (by decide) ?_
  exact a_X9_restoreRecords_49 K hQ hX hTh hK17 _ _ _ _ _ _ g1 g3 (g4.up xσ44) (g5.up xσ44) gr45 h hGσ44 hYσ44 (hE.trans xσ44) (hth.up xσ44) _ _ _ hH (lv_sub (l' := [(0, .ref th), (1, .int (i32 v1)), (3, .int (i32 v3)), (4, va_rf v4), (5, va_rf v5)]) hl [0, 1, 2, 3, 4] rfl) hc
set_option maxRecDepth 20000 in
theorem a_X9_restoreRecords_22 {Q : Sg → Unit → Prop} {X : Sg → String → Prop} {th : Nat} (K : MD l R p s m args c cX9_restoreRecords 7 RX9 D cA tys A n0 s0 8 135 []) (hQ : CQV p l e R s m args below meth c cX9_restoreRecords D cA A n0 s0 QM σi Q) (hX : CX p l e R s m args below meth c 7 D cA A n0 s0 QM σi X) (hTh : CT p l e R s m args below meth c cX9_restoreRecords 7 D cA A n0 s0 QM σi RX9 X) {K17 : Sg → Int → Int → Option Nat → Option Nat → Prop} (hK17 : ∀ (σ : Sg) (v1 : Int) (v3 : Int) (v4 : Option Nat) (v5 : Option Nat) (g1 : rng v1) (g3 : rng v3) (g4 : tyV σ 5 v4) (g5 : tyV σ 0 v5), K17 σ v1 v3 v4 v5 → RG σ → TY σ → Ext σi σ → kO σ th 9 → JJ p l e R s m args below meth c 7 D cA A n0 s0 QM σ 17 [(0, .ref th), (1, .int (i32 v1)), (3, .int (i32 v3)), (4, va_rf v4), (5, va_rf v5)] []) : ∀ (σ : Sg) (v1 : Int) (v3 : Int) (v4 : Option Nat) (v5 : Option Nat) (g1 : rng v1) (g3 : rng v3) (g4 : tyV σ 5 v4) (g5 : tyV σ 0 v5), w_X9_restoreRecords_22 th K17 Q X σ v1 v3 v4 v5 → RG σ → TY σ → Ext σi σ → kO σ th 9 → JJ p l e R s m args below meth c 7 D cA A n0 s0 QM σ 22 [(0, .ref th), (1, .int (i32 v1)), (3, .int (i32 v3)), (4, va_rf v4), (5, va_rf v5)] [] := by
  intro σ v1 v3 v4 v5 g1 g3 g4 g5 h hGσ hYσ hE hth H locs ls hH hl hc
  have B := K.1
  have hl9 := K.2.2.2.2.2.2
  unfold w_X9_restoreRecords_22 at h
  refine lv_aloadQ B.1 B.2.1 dX9_restoreRecords_22 (lv_at hl 3 rfl) ?_
  obtain ⟨a46, ea46, h⟩ := h
  have ka46 : kO σ a46 5 := g4 a46 ea46
  have h := h ka46
  refine W.eq (g2 := F0 m 24 ls [.ref a46]) (by rw [ea46]; rfl) ?_
  refine f_geti B hH ka46 (by decide) rfl wu_X5 6 (by decide) wf_X9_164 rfl rfl dX9_restoreRecords_24 ?_
  refine c_SN B hH hl hc K.2.2.1 (As := [.int (i32 (gI σ a46 6))]) (ok_X12_isKeyed hl9 K.2.1 σ (gI σ a46 6) (hGσ _ _) hGσ hYσ (nx_X12_isKeyed h)) (fun _ _ h9 => h9.1) (List.mem_of_getElem? (l := nmL) (i := 13) rfl) wq_X12_isKeyed 1 hd_X12_isKeyed ⟨Nat.le_trans (Nat.le_of_ble_eq_true rfl) K.2.2.2.1, Nat.le_trans (Nat.le_of_ble_eq_true rfl) K.2.2.2.2.1⟩ rfl (rest := []) rfl (Nat.le_of_ble_eq_true rfl) dX9_restoreRecords_27 (fun σ47 w hq => ?_)
  obtain ⟨r48, rfl, ⟨gr48, gzr48⟩, h, hGσ47, hYσ47, xσ47⟩ := hq
  have h := h xσ47
  intro H locs ls hH hl hc
  refine W.eq (g2 := F0 m 30 ls [.int (i32 r48)]) (rfl) ?_
  try dsimp only at h
  refine lv_if_eq (tgt := 48) B.1 B.2.1 dX9_restoreRecords_30 (by decide) (fun h9 => ?_) (fun h9 => ?_)
  · rw [if_pos ((z_eq gr48).mp h9)] at h
    exact a_X9_restoreRecords_48 K hQ hX hTh hK17 _ _ _ _ _ g1 g3 (g4.up xσ47) (g5.up xσ47) h hGσ47 hYσ47 (hE.trans xσ47) (hth.up xσ47) _ _ _ hH (lv_sub (l' := [(0, .ref th), (1, .int (i32 v1)), (3, .int (i32 v3)), (4, va_rf v4), (5, va_rf v5)]) hl [0, 1, 2, 3, 4] rfl) hc
  · rw [if_neg (fun q => h9 ((z_eq gr48).mpr q))] at h
    exact a_X9_restoreRecords_33 K hQ hX hTh hK17 _ _ _ _ _ g1 g3 (g4.up xσ47) (g5.up xσ47) h hGσ47 hYσ47 (hE.trans xσ47) (hth.up xσ47) _ _ _ hH (lv_sub (l' := [(0, .ref th), (1, .int (i32 v1)), (3, .int (i32 v3)), (4, va_rf v4), (5, va_rf v5)]) hl [0, 1, 2, 3, 4] rfl) hc
set_option maxRecDepth 20000 in
theorem a_X9_restoreRecords_17 {Q : Sg → Unit → Prop} {X : Sg → String → Prop} {th : Nat} (K : MD l R p s m args c cX9_restoreRecords 7 RX9 D cA tys A n0 s0 8 135 []) (hQ : CQV p l e R s m args below meth c cX9_restoreRecords D cA A n0 s0 QM σi Q) (hX : CX p l e R s m args below meth c 7 D cA A n0 s0 QM σi X) (hTh : CT p l e R s m args below meth c cX9_restoreRecords 7 D cA A n0 s0 QM σi RX9 X) {K17 : Sg → Int → Int → Option Nat → Option Nat → Prop} (hK17 : ∀ (σ : Sg) (v1 : Int) (v3 : Int) (v4 : Option Nat) (v5 : Option Nat) (g1 : rng v1) (g3 : rng v3) (g4 : tyV σ 5 v4) (g5 : tyV σ 0 v5), K17 σ v1 v3 v4 v5 → RG σ → TY σ → Ext σi σ → kO σ th 9 → JJ p l e R s m args below meth c 7 D cA A n0 s0 QM σ 17 [(0, .ref th), (1, .int (i32 v1)), (3, .int (i32 v3)), (4, va_rf v4), (5, va_rf v5)] []) : ∀ (σ : Sg) (v1 : Int) (v3 : Int) (v4 : Option Nat) (v5 : Option Nat) (g1 : rng v1) (g3 : rng v3) (g4 : tyV σ 5 v4) (g5 : tyV σ 0 v5), w_X9_restoreRecords_17 th K17 Q X σ v1 v3 v4 v5 → RG σ → TY σ → Ext σi σ → kO σ th 9 → JJ p l e R s m args below meth c 7 D cA A n0 s0 QM σ 17 [(0, .ref th), (1, .int (i32 v1)), (3, .int (i32 v3)), (4, va_rf v4), (5, va_rf v5)] [] := by
  intro σ v1 v3 v4 v5 g1 g3 g4 g5 h hGσ hYσ hE hth H locs ls hH hl hc
  have B := K.1
  have hl9 := K.2.2.2.2.2.2
  unfold w_X9_restoreRecords_17 at h
  refine lv_aloadQ B.1 B.2.1 dX9_restoreRecords_17 (lv_at hl 4 rfl) ?_
  refine lv_ifnullQ (tgt := 94) B.1 B.2.1 dX9_restoreRecords_19 (by decide) (fun h9 => ?_) (fun h9 => ?_)
  · rw [if_pos (h9)] at h
    exact a_X9_restoreRecords_94 K hQ hX hTh _ h hGσ hYσ hE hth _ _ _ hH (lv_sub (l' := [(0, .ref th)]) hl [0] rfl) hc
  · rw [if_neg (h9)] at h
    exact a_X9_restoreRecords_22 K hQ hX hTh hK17 _ _ _ _ _ g1 g3 g4 g5 h hGσ hYσ hE hth _ _ _ hH (lv_sub (l' := [(0, .ref th), (1, .int (i32 v1)), (3, .int (i32 v3)), (4, va_rf v4), (5, va_rf v5)]) hl [0, 1, 2, 3, 4] rfl) hc
theorem al_X9_restoreRecords_17 {Q : Sg → Unit → Prop} {X : Sg → String → Prop} {th : Nat} (K : MD l R p s m args c cX9_restoreRecords 7 RX9 D cA tys A n0 s0 8 135 []) (hQ : CQV p l e R s m args below meth c cX9_restoreRecords D cA A n0 s0 QM σi Q) (hX : CX p l e R s m args below meth c 7 D cA A n0 s0 QM σi X) (hTh : CT p l e R s m args below meth c cX9_restoreRecords 7 D cA A n0 s0 QM σi RX9 X) : ∀ (n : Nat), ∀ (σ : Sg) (v1 : Int) (v3 : Int) (v4 : Option Nat) (v5 : Option Nat) (g1 : rng v1) (g3 : rng v3) (g4 : tyV σ 5 v4) (g5 : tyV σ 0 v5), wl_X9_restoreRecords_17 th Q X n σ v1 v3 v4 v5 → RG σ → TY σ → Ext σi σ → kO σ th 9 → JJ p l e R s m args below meth c 7 D cA A n0 s0 QM σ 17 [(0, .ref th), (1, .int (i32 v1)), (3, .int (i32 v3)), (4, va_rf v4), (5, va_rf v5)] [] := by
  intro n
  induction n with
  | zero => intro σ v1 v3 v4 v5 g1 g3 g4 g5 h; exact h.elim
  | succ n ih => exact fun σ v1 v3 v4 v5 g1 g3 g4 g5 h => a_X9_restoreRecords_17 K hQ hX hTh ih σ v1 v3 v4 v5 g1 g3 g4 g5 h
set_option maxRecDepth 20000 in
theorem a_X9_restoreRecords_0 {Q : Sg → Unit → Prop} {X : Sg → String → Prop} {th : Nat} (K : MD l R p s m args c cX9_restoreRecords 7 RX9 D cA tys A n0 s0 8 135 []) (hQ : CQV p l e R s m args below meth c cX9_restoreRecords D cA A n0 s0 QM σi Q) (hX : CX p l e R s m args below meth c 7 D cA A n0 s0 QM σi X) (hTh : CT p l e R s m args below meth c cX9_restoreRecords 7 D cA A n0 s0 QM σi RX9 X) : ∀ (σ : Sg) (v1 : Int) (v2 : Option Nat) (v3 : Int) (g1 : rng v1) (g2 : tyV σ 1 v2) (g3 : rng v3), w_X9_restoreRecords_0 th Q X σ v1 v2 v3 → RG σ → TY σ → Ext σi σ → kO σ th 9 → JJ p l e R s m args below meth c 7 D cA A n0 s0 QM σ 0 [(0, .ref th), (1, .int (i32 v1)), (2, va_rf v2), (3, .int (i32 v3))] [] := by
  intro σ v1 v2 v3 g1 g2 g3 h hGσ hYσ hE hth H locs ls hH hl hc
  have B := K.1
  have hl9 := K.2.2.2.2.2.2
  unfold w_X9_restoreRecords_0 at h
  refine lv_aload_n B.1 B.2.1 dX9_restoreRecords_0 rfl (lv_at hl 0 rfl) ?_
  refine f_getp B hH hth (by decide) rfl wu_X9 9 (by decide) wf_X9_100 rfl rfl dX9_restoreRecords_1 ?_
  obtain ⟨a49, ea49, h⟩ := h
  have ka49 : kO σ a49 4 := (hYσ.get hth (by decide)) a49 ea49
  have h := h ka49
  refine W.eq (g2 := F0 m 4 ls [.ref a49]) (by rw [ea49]; rfl) ?_
  refine f_getp B hH ka49 (by decide) rfl wu_X4 0 (by decide) wf_X9_160 rfl rfl dX9_restoreRecords_4 ?_
  refine lv_iload_n B.1 B.2.1 dX9_restoreRecords_7 rfl (lv_at hl 1 rfl) ?_
  obtain ⟨a50, ea50, h⟩ := h
  have ka50 : kO σ a50 115 := (hYσ.get ka49 (by decide)) a50 ea50
  have h := h ka50
  obtain ⟨q1, h⟩ := h
  refine W.eq (g2 := F0 m 8 ls [.int (i32 v1), .ref a50]) (by rw [ea50]; rfl) ?_
  refine y_aald B hH (t0 := 6) ka50 (by decide) K.2.1.2.2.2.1 q1 (hYσ.2 _) dX9_restoreRecords_8 ?_
  refine lv_astoreQ (lv' := [(4, va_rf (gP σ a50 v1.toNat)), (0, .ref th), (1, .int (i32 v1)), (2, va_rf v2), (3, .int (i32 v3))]) B.1 B.2.1 dX9_restoreRecords_9 hl (by decide) rfl (fun ls hl => ?_)
  refine lv_aload_nQ B.1 B.2.1 dX9_restoreRecords_11 rfl (lv_at hl 3 rfl) ?_
  obtain ⟨a51, ea51, h⟩ := h
  have ka51 : kO σ a51 1 := g2 a51 ea51
  have h := h ka51
  refine W.eq (g2 := F0 m 12 ls [.ref a51]) (by rw [ea51]; rfl) ?_
  refine f_getp B hH ka51 (by decide) rfl wu_X1 0 (by decide) wf_X9_234 rfl rfl dX9_restoreRecords_12 ?_
  refine lv_astoreQ (lv' := [(5, va_rf (gP σ a51 0)), (4, va_rf (gP σ a50 v1.toNat)), (0, .ref th), (1, .int (i32 v1)), (2, va_rf v2), (3, .int (i32 v3))]) B.1 B.2.1 dX9_restoreRecords_15 hl (by decide) (by generalize (gP σ a50 v1.toNat) = w9; cases w9 <;> rfl) (fun ls hl => ?_)
  obtain ⟨n9, h⟩ := h
  exact al_X9_restoreRecords_17 K hQ hX hTh n9 _ _ _ _ _ g1 g3 (hYσ.get ka50 rfl) (hYσ.get ka51 (by decide)) h hGσ hYσ hE hth _ _ _ hH (lv_sub (l' := [(0, .ref th), (1, .int (i32 v1)), (3, .int (i32 v3)), (4, va_rf (gP σ a50 v1.toNat)), (5, va_rf (gP σ a51 0))]) hl [2, 3, 5, 1, 0] rfl) hc
theorem ok_X9_restoreRecords (hl0 : l.stackTraces = false) (hT : TyC cA tys) {Q : Sg → Unit → Prop} {X : Sg → String → Prop} (σ : Sg) (th : Nat) (v1 : Int) (v2 : Option Nat) (v3 : Int) (g1 : rng v1) (g2 : tyV σ 1 v2) (g3 : rng v3) (hth : kO σ th 9) (hG : RG σ) (hY : TY σ) (h : wp_X9_restoreRecords th v1 v2 v3 σ Q X) : Ok l D cA tys A yX9_restoreRecords (.code yX9_restoreRecords cX9_restoreRecords 7 none) 8 135 [.ref th, .int (i32 v1), va_rf v2, .int (i32 v3)] σ (QcV σ Q) (QxC σ X) := by
  unfold wp_X9_restoreRecords at h
  exact oc_V hl0 (by decide) (by cases v2 <;> exact Nat.le_of_ble_eq_true rfl) hT (fun p e R s m args below meth c K hQ hX hTh hin9 H locs ls hH hl hc => a_X9_restoreRecords_0 K hQ hX hTh σ v1 v2 v3 g1 g2 g3 h hG hY (Ext.rfl' σ) hth H locs ls hH (lv_sub (l' := [(0, .ref th), (1, .int (i32 v1)), (2, va_rf v2), (3, .int (i32 v3))]) hl [0, 1, 2, 3] (by cases v2 <;> rfl)) hc)
theorem dX9_restore_0 : decode cX9_restore 0 = .ok (.aload_n 0, 1) := by decide +kernel
theorem dX9_restore_1 : decode cX9_restore 1 = .ok (.getfield 100, 3) := by decide +kernel
theorem dX9_restore_4 : decode cX9_restore 4 = .ok (.getfield 160, 3) := by decide +kernel
theorem dX9_restore_7 : decode cX9_restore 7 = .ok (.iload_n 1, 1) := by decide +kernel
theorem dX9_restore_8 : decode cX9_restore 8 = .ok (.aaload, 1) := by decide +kernel
theorem dX9_restore_9 : decode cX9_restore 9 = .ok (.getfield 164, 3) := by decide +kernel
theorem dX9_restore_12 : decode cX9_restore 12 = .ok (.invokestatic 169, 3) := by decide +kernel
theorem dX9_restore_15 : decode cX9_restore 15 = .ok (.ifCond .eq 7, 3) := by decide +kernel
theorem dX9_restore_18 : decode cX9_restore 18 = .ok (.iconst 1, 1) := by decide +kernel
theorem dX9_restore_19 : decode cX9_restore 19 = .ok (.goto 10, 3) := by decide +kernel
theorem dX9_restore_22 : decode cX9_restore 22 = .ok (.aload_n 0, 1) := by decide +kernel
theorem dX9_restore_23 : decode cX9_restore 23 = .ok (.getfield 12, 3) := by decide +kernel
theorem dX9_restore_26 : decode cX9_restore 26 = .ok (.getfield 217, 3) := by decide +kernel
theorem dX9_restore_29 : decode cX9_restore 29 = .ok (.istore_n 2, 1) := by decide +kernel
theorem dX9_restore_30 : decode cX9_restore 30 = .ok (.iconst 0, 1) := by decide +kernel
theorem dX9_restore_31 : decode cX9_restore 31 = .ok (.istore_n 3, 1) := by decide +kernel
theorem dX9_restore_32 : decode cX9_restore 32 = .ok (.iload_n 3, 1) := by decide +kernel
theorem dX9_restore_33 : decode cX9_restore 33 = .ok (.iload_n 2, 1) := by decide +kernel
theorem dX9_restore_34 : decode cX9_restore 34 = .ok (.if_icmp .ge 135, 3) := by decide +kernel
theorem dX9_restore_37 : decode cX9_restore 37 = .ok (.iload_n 3, 1) := by decide +kernel
theorem dX9_restore_38 : decode cX9_restore 38 = .ok (.iconst 4, 1) := by decide +kernel
theorem dX9_restore_39 : decode cX9_restore 39 = .ok (.if_icmp .ge 130, 3) := by decide +kernel
theorem dX9_restore_42 : decode cX9_restore 42 = .ok (.aload_n 0, 1) := by decide +kernel
theorem dX9_restore_43 : decode cX9_restore 43 = .ok (.getfield 12, 3) := by decide +kernel
theorem dX9_restore_46 : decode cX9_restore 46 = .ok (.iload_n 1, 1) := by decide +kernel
theorem dX9_restore_47 : decode cX9_restore 47 = .ok (.iload_n 3, 1) := by decide +kernel
theorem dX9_restore_48 : decode cX9_restore 48 = .ok (.invokevirtual 220, 3) := by decide +kernel
theorem dX9_restore_51 : decode cX9_restore 51 = .ok (.astore 4, 2) := by decide +kernel
theorem dX9_restore_53 : decode cX9_restore 53 = .ok (.aload 4, 2) := by decide +kernel
theorem dX9_restore_55 : decode cX9_restore 55 = .ok (.ifnull 108, 3) := by decide +kernel
theorem dX9_restore_58 : decode cX9_restore 58 = .ok (.aload_n 0, 1) := by decide +kernel
theorem dX9_restore_59 : decode cX9_restore 59 = .ok (.getfield 20, 3) := by decide +kernel
theorem dX9_restore_62 : decode cX9_restore 62 = .ok (.aload_n 0, 1) := by decide +kernel
theorem dX9_restore_63 : decode cX9_restore 63 = .ok (.getfield 30, 3) := by decide +kernel
theorem dX9_restore_66 : decode cX9_restore 66 = .ok (.iload_n 1, 1) := by decide +kernel
theorem dX9_restore_67 : decode cX9_restore 67 = .ok (.iaload, 1) := by decide +kernel
theorem dX9_restore_68 : decode cX9_restore 68 = .ok (.aload_n 0, 1) := by decide +kernel
theorem dX9_restore_69 : decode cX9_restore 69 = .ok (.getfield 157, 3) := by decide +kernel
theorem dX9_restore_72 : decode cX9_restore 72 = .ok (.aload_n 0, 1) := by decide +kernel
theorem dX9_restore_73 : decode cX9_restore 73 = .ok (.getfield 12, 3) := by decide +kernel
theorem dX9_restore_76 : decode cX9_restore 76 = .ok (.getfield 217, 3) := by decide +kernel
theorem dX9_restore_79 : decode cX9_restore 79 = .ok (.if_icmp .ne 7, 3) := by decide +kernel
theorem dX9_restore_82 : decode cX9_restore 82 = .ok (.iload_n 3, 1) := by decide +kernel
theorem dX9_restore_83 : decode cX9_restore 83 = .ok (.goto 4, 3) := by decide +kernel
theorem dX9_restore_86 : decode cX9_restore 86 = .ok (.iconst 0, 1) := by decide +kernel
theorem dX9_restore_87 : decode cX9_restore 87 = .ok (.iadd, 1) := by decide +kernel
theorem dX9_restore_88 : decode cX9_restore 88 = .ok (.aaload, 1) := by decide +kernel
theorem dX9_restore_89 : decode cX9_restore 89 = .ok (.astore 5, 2) := by decide +kernel
theorem dX9_restore_91 : decode cX9_restore 91 = .ok (.aload 5, 2) := by decide +kernel
theorem dX9_restore_93 : decode cX9_restore 93 = .ok (.dup, 1) := by decide +kernel
theorem dX9_restore_94 : decode cX9_restore 94 = .ok (.getfield 224, 3) := by decide +kernel
theorem dX9_restore_97 : decode cX9_restore 97 = .ok (.aload 4, 2) := by decide +kernel
theorem dX9_restore_99 : decode cX9_restore 99 = .ok (.getfield 224, 3) := by decide +kernel
theorem dX9_restore_102 : decode cX9_restore 102 = .ok (.iadd, 1) := by decide +kernel
theorem dX9_restore_103 : decode cX9_restore 103 = .ok (.putfield 224, 3) := by decide +kernel
theorem dX9_restore_106 : decode cX9_restore 106 = .ok (.aload_n 0, 1) := by decide +kernel
theorem dX9_restore_107 : decode cX9_restore 107 = .ok (.getfield 100, 3) := by decide +kernel
theorem dX9_restore_110 : decode cX9_restore 110 = .ok (.getfield 160, 3) := by decide +kernel
theorem dX9_restore_113 : decode cX9_restore 113 = .ok (.iload_n 1, 1) := by decide +kernel
theorem dX9_restore_114 : decode cX9_restore 114 = .ok (.aaload, 1) := by decide +kernel
theorem dX9_restore_115 : decode cX9_restore 115 = .ok (.getfield 164, 3) := by decide +kernel
theorem dX9_restore_118 : decode cX9_restore 118 = .ok (.ifCond .ne 23, 3) := by decide +kernel
theorem dX9_restore_121 : decode cX9_restore 121 = .ok (.aload 5, 2) := by decide +kernel
theorem dX9_restore_123 : decode cX9_restore 123 = .ok (.aload 4, 2) := by decide +kernel
theorem dX9_restore_125 : decode cX9_restore 125 = .ok (.getfield 227, 3) := by decide +kernel
theorem dX9_restore_128 : decode cX9_restore 128 = .ok (.putfield 227, 3) := by decide +kernel
theorem dX9_restore_131 : decode cX9_restore 131 = .ok (.aload 5, 2) := by decide +kernel
theorem dX9_restore_133 : decode cX9_restore 133 = .ok (.aload 4, 2) := by decide +kernel
theorem dX9_restore_135 : decode cX9_restore 135 = .ok (.getfield 127, 3) := by decide +kernel
theorem dX9_restore_138 : decode cX9_restore 138 = .ok (.putfield 127, 3) := by decide +kernel
theorem dX9_restore_141 : decode cX9_restore 141 = .ok (.aload_n 0, 1) := by decide +kernel
theorem dX9_restore_142 : decode cX9_restore 142 = .ok (.iload_n 1, 1) := by decide +kernel
theorem dX9_restore_143 : decode cX9_restore 143 = .ok (.aload 4, 2) := by decide +kernel
theorem dX9_restore_145 : decode cX9_restore 145 = .ok (.getfield 138, 3) := by decide +kernel
theorem dX9_restore_148 : decode cX9_restore 148 = .ok (.iconst 0, 1) := by decide +kernel
theorem dX9_restore_149 : decode cX9_restore 149 = .ok (.invokevirtual 230, 3) := by decide +kernel
theorem dX9_restore_152 : decode cX9_restore 152 = .ok (.aload_n 0, 1) := by decide +kernel
theorem dX9_restore_153 : decode cX9_restore 153 = .ok (.iload_n 1, 1) := by decide +kernel
theorem dX9_restore_154 : decode cX9_restore 154 = .ok (.aload 4, 2) := by decide +kernel
theorem dX9_restore_156 : decode cX9_restore 156 = .ok (.getfield 142, 3) := by decide +kernel
theorem dX9_restore_159 : decode cX9_restore 159 = .ok (.iconst 1, 1) := by decide +kernel
theorem dX9_restore_160 : decode cX9_restore 160 = .ok (.invokevirtual 230, 3) := by decide +kernel
theorem dX9_restore_163 : decode cX9_restore 163 = .ok (.iinc 3 1, 3) := by decide +kernel
theorem dX9_restore_166 : decode cX9_restore 166 = .ok (.goto (-134), 3) := by decide +kernel
theorem dX9_restore_169 : decode cX9_restore 169 = .ok (.return_, 1) := by decide +kernel
set_option maxRecDepth 20000 in
theorem a_X9_restore_169 {Q : Sg → Unit → Prop} {X : Sg → String → Prop} {th : Nat} (K : MD l R p s m args c cX9_restore 6 RX9 D cA tys A n0 s0 9 161 []) (hQ : CQV p l e R s m args below meth c cX9_restore D cA A n0 s0 QM σi Q) (hX : CX p l e R s m args below meth c 6 D cA A n0 s0 QM σi X) (hTh : CT p l e R s m args below meth c cX9_restore 6 D cA A n0 s0 QM σi RX9 X) : ∀ (σ : Sg), w_X9_restore_169 th Q X σ → RG σ → TY σ → Ext σi σ → kO σ th 9 → JJ p l e R s m args below meth c 6 D cA A n0 s0 QM σ 169 [(0, .ref th)] [] := by
  intro σ h hGσ hYσ hE hth H locs ls hH hl hc
  have B := K.1
  have hl9 := K.2.2.2.2.2.2
  unfold w_X9_restore_169 at h
  exact hQ _ _ _ _ _ dX9_restore_169 hH hc h hGσ hYσ hE
set_option maxRecDepth 20000 in
theorem a_X9_restore_163 {Q : Sg → Unit → Prop} {X : Sg → String → Prop} {th : Nat} (K : MD l R p s m args c cX9_restore 6 RX9 D cA tys A n0 s0 9 161 []) (hQ : CQV p l e R s m args below meth c cX9_restore D cA A n0 s0 QM σi Q) (hX : CX p l e R s m args below meth c 6 D cA A n0 s0 QM σi X) (hTh : CT p l e R s m args below meth c cX9_restore 6 D cA A n0 s0 QM σi RX9 X) {K32 : Sg → Int → Int → Int → Prop} (hK32 : ∀ (σ : Sg) (v1 : Int) (v2 : Int) (v3 : Int) (g1 : rng v1) (g2 : rng v2) (g3 : rng v3), K32 σ v1 v2 v3 → RG σ → TY σ → Ext σi σ → kO σ th 9 → JJ p l e R s m args below meth c 6 D cA A n0 s0 QM σ 32 [(0, .ref th), (1, .int (i32 v1)), (2, .int (i32 v2)), (3, .int (i32 v3))] []) : ∀ (σ : Sg) (v1 : Int) (v2 : Int) (v3 : Int) (g1 : rng v1) (g2 : rng v2) (g3 : rng v3), w_X9_restore_163 th K32 Q X σ v1 v2 v3 → RG σ → TY σ → Ext σi σ → kO σ th 9 → JJ p l e R s m args below meth c 6 D cA A n0 s0 QM σ 163 [(0, .ref th), (1, .int (i32 v1)), (2, .int (i32 v2)), (3, .int (i32 v3))] [] := by
  intro σ v1 v2 v3 g1 g2 g3 h hGσ hYσ hE hth H locs ls hH hl hc
  have B := K.1
  have hl9 := K.2.2.2.2.2.2
  unfold w_X9_restore_163 at h
  obtain ⟨q1, h⟩ := h
  refine lv_iinc (k := 3) (v := i32 (v3 + 1)) (lv' := [(3, .int (i32 (v3 + 1))), (0, .ref th), (1, .int (i32 v1)), (2, .int (i32 v2))]) B.1 B.2.1 dX9_restore_163 hl rfl (i32_add _ _) (by decide) rfl (fun ls hl => ?_)
  refine lv_goto (tgt := 32) B.1 B.2.1 dX9_restore_166 (by decide) ?_
  exact hK32 _ _ _ _ g1 g2 q1 h hGσ hYσ hE hth _ _ _ hH (lv_sub (l' := [(0, .ref th), (1, .int (i32 v1)), (2, .int (i32 v2)), (3, .int (i32 (v3 + 1)))]) hl [1, 2, 3, 0] rfl) hc
set_option maxRecDepth 20000 in
theorem a_X9_restore_141 {Q : Sg → Unit → Prop} {X : Sg → String → Prop} {th : Nat} (K : MD l R p s m args c cX9_restore 6 RX9 D cA tys A n0 s0 9 161 []) (hQ : CQV p l e R s m args below meth c cX9_restore D cA A n0 s0 QM σi Q) (hX : CX p l e R s m args below meth c 6 D cA A n0 s0 QM σi X) (hTh : CT p l e R s m args below meth c cX9_restore 6 D cA A n0 s0 QM σi RX9 X) {K32 : Sg → Int → Int → Int → Prop} (hK32 : ∀ (σ : Sg) (v1 : Int) (v2 : Int) (v3 : Int) (g1 : rng v1) (g2 : rng v2) (g3 : rng v3), K32 σ v1 v2 v3 → RG σ → TY σ → Ext σi σ → kO σ th 9 → JJ p l e R s m args below meth c 6 D cA A n0 s0 QM σ 32 [(0, .ref th), (1, .int (i32 v1)), (2, .int (i32 v2)), (3, .int (i32 v3))] []) : ∀ (σ : Sg) (v1 : Int) (v2 : Int) (v3 : Int) (v4 : Option Nat) (g1 : rng v1) (g2 : rng v2) (g3 : rng v3) (g4 : tyV σ 10 v4), w_X9_restore_141 th K32 Q X σ v1 v2 v3 v4 → RG σ → TY σ → Ext σi σ → kO σ th 9 → JJ p l e R s m args below meth c 6 D cA A n0 s0 QM σ 141 [(0, .ref th), (1, .int (i32 v1)), (2, .int (i32 v2)), (3, .int (i32 v3)), (4, va_rf v4)] [] := by
  intro σ v1 v2 v3 v4 g1 g2 g3 g4 h hGσ hYσ hE hth H locs ls hH hl hc
  have B := K.1
  have hl9 := K.2.2.2.2.2.2
  unfold w_X9_restore_141 at h
  refine lv_aload_n B.1 B.2.1 dX9_restore_141 rfl (lv_at hl 0 rfl) ?_
  refine lv_iload_n B.1 B.2.1 dX9_restore_142 rfl (lv_at hl 1 rfl) ?_
  refine lv_aloadQ B.1 B.2.1 dX9_restore_143 (lv_at hl 4 rfl) ?_
  obtain ⟨a51, ea51, h⟩ := h
  have ka51 : kO σ a51 10 := g4 a51 ea51
  have h := h ka51
  refine W.eq (g2 := F0 m 145 ls [.ref a51, .int (i32 v1), .ref th]) (by rw [ea51]; rfl) ?_
  refine f_getp B hH ka51 (by decide) rfl wu_X10 2 (by decide) wf_X9_138 rfl rfl dX9_restore_145 ?_
  refine lv_iconst (v := i32 0) B.1 B.2.1 dX9_restore_148 (by decide) ?_
  refine W.eq (g2 := F0 m 149 ls [.int (i32 0), va_rf (gP σ a51 2), .int (i32 v1), .ref th]) (rfl) ?_
  refine c_V B hH hl hc K.2.2.1 (C := RX9) (T := TX9) (N := 20) (ci := 9) (As := [.int (i32 v1), va_rf (gP σ a51 2), .int (i32 0)]) (ok_X9_restoreRecords hl9 K.2.1 σ th v1 (gP σ a51 2) 0 g1 (hYσ.get ka51 (by decide)) (by unfold rng; omega) hth hGσ hYσ h) wc_X9_230 3 hd_X9_restoreRecords ⟨Nat.le_trans (Nat.le_of_ble_eq_true rfl) K.2.2.2.1, Nat.le_trans (Nat.le_of_ble_eq_true rfl) K.2.2.2.2.1⟩ hth.1 hth.2 (by decide) rfl rfl (rest := []) rfl (Nat.le_of_ble_eq_true rfl) dX9_restore_149 (fun σ52 w hq => ?_) (fun σ9 E9 hx9 => hX σ9 E9 _ _ _ (tb_out K.2.2.2.2.2.1 rfl) hx9.1 hx9.2.1 hx9.2.2.1 (hE.trans hx9.2.2.2))
  obtain ⟨rfl, h, hGσ52, hYσ52, xσ52⟩ := hq
  have h := h xσ52
  intro H locs ls hH hl hc
  refine W.eq (g2 := F0 m 152 ls []) (rfl) ?_
  try dsimp only at h
  refine lv_aload_n B.1 B.2.1 dX9_restore_152 rfl (lv_at hl 0 rfl) ?_
  refine lv_iload_n B.1 B.2.1 dX9_restore_153 rfl (lv_at hl 1 rfl) ?_
  refine lv_aloadQ B.1 B.2.1 dX9_restore_154 (lv_at hl 4 rfl) ?_
  refine W.eq (g2 := F0 m 156 ls [.ref a51, .int (i32 v1), .ref th]) (by rw [ea51]; rfl) ?_
  refine f_getp B hH (ka51.up xσ52) (by decide) rfl wu_X10 3 (by decide) wf_X9_142 rfl rfl dX9_restore_156 ?_
  refine lv_iconst (v := i32 1) B.1 B.2.1 dX9_restore_159 (by decide) ?_
  refine W.eq (g2 := F0 m 160 ls [.int (i32 1), va_rf (gP σ52 a51 3), .int (i32 v1), .ref th]) (rfl) ?_
  refine c_V B hH hl hc K.2.2.1 (C := RX9) (T := TX9) (N := 20) (ci := 9) (As := [.int (i32 v1), va_rf (gP σ52 a51 3), .int (i32 1)]) (ok_X9_restoreRecords hl9 K.2.1 σ52 th v1 (gP σ52 a51 3) 1 g1 (hYσ52.get (ka51.up xσ52) (by decide)) (by unfold rng; omega) (hth.up xσ52) hGσ52 hYσ52 h) wc_X9_230 3 hd_X9_restoreRecords ⟨Nat.le_trans (Nat.le_of_ble_eq_true rfl) K.2.2.2.1, Nat.le_trans (Nat.le_of_ble_eq_true rfl) K.2.2.2.2.1⟩ (hth.up xσ52).1 (hth.up xσ52).2 (by decide) rfl rfl (rest := []) rfl (Nat.le_of_ble_eq_true rfl) dX9_restore_160 (fun σ53 w hq => ?_) (fun σ9 E9 hx9 => hX σ9 E9 _ _ _ (tb_out K.2.2.2.2.2.1 rfl) hx9.1 hx9.2.1 hx9.2.2.1 ((hE.trans xσ52).trans hx9.2.2.2))
  obtain ⟨rfl, h, hGσ53, hYσ53, xσ53⟩ := hq
  have h := h xσ53
  intro H locs ls hH hl hc
  refine W.eq (g2 := F0 m 163 ls []) (rfl) ?_
  try dsimp only at h
  exact a_X9_restore_163 K hQ hX hTh hK32 _ _ _ _ g1 g2 g3 h hGσ53 hYσ53 ((hE.trans xσ52).trans xσ53) (hth.up (xσ52.trans xσ53)) _ _ _ hH (lv_sub (l' := [(0, .ref th), (1, .int (i32 v1)), (2, .int (i32 v2)), (3, .int (i32 v3))]) hl [0, 1, 2, 3] rfl) hc
set_option maxRecDepth 20000 in
theorem a_X9_restore_121 {Q : Sg → Unit → Prop} {X : Sg → String → Prop} {th : Nat} (K : MD l R p s m args c cX9_restore 6 RX9 D cA tys A n0 s0 9 161 []) (hQ : CQV p l e R s m args below meth c cX9_restore D cA A n0 s0 QM σi Q) (hX : CX p l e R s m args below meth c 6 D cA A n0 s0 QM σi X) (hTh : CT p l e R s m args below meth c cX9_restore 6 D cA A n0 s0 QM σi RX9 X) {K32 : Sg → Int → Int → Int → Prop} (hK32 : ∀ (σ : Sg) (v1 : Int) (v2 : Int) (v3 : Int) (g1 : rng v1) (g2 : rng v2) (g3 : rng v3), K32 σ v1 v2 v3 → RG σ → TY σ → Ext σi σ → kO σ th 9 → JJ p l e R s m args below meth c 6 D cA A n0 s0 QM σ 32 [(0, .ref th), (1, .int (i32 v1)), (2, .int (i32 v2)), (3, .int (i32 v3))] []) : ∀ (σ : Sg) (v1 : Int) (v2 : Int) (v3 : Int) (v4 : Option Nat) (v5 : Option Nat) (g1 : rng v1) (g2 : rng v2) (g3 : rng v3) (g4 : tyV σ 10 v4) (g5 : tyV σ 10 v5), w_X9_restore_121 th K32 Q X σ v1 v2 v3 v4 v5 → RG σ → TY σ → Ext σi σ → kO σ th 9 → JJ p l e R s m args below meth c 6 D cA A n0 s0 QM σ 121 [(0, .ref th), (1, .int (i32 v1)), (2, .int (i32 v2)), (3, .int (i32 v3)), (4, va_rf v4), (5, va_rf v5)] [] := by
  intro σ v1 v2 v3 v4 v5 g1 g2 g3 g4 g5 h hGσ hYσ hE hth H locs ls hH hl hc
  have B := K.1
  have hl9 := K.2.2.2.2.2.2
  unfold w_X9_restore_121 at h
  refine lv_aloadQ B.1 B.2.1 dX9_restore_121 (lv_at hl 5 rfl) ?_
  refine lv_aloadQ B.1 B.2.1 dX9_restore_123 (lv_at hl 4 rfl) ?_
  obtain ⟨a54, ea54, h⟩ := h
  have ka54 : kO σ a54 10 := g4 a54 ea54
  have h := h ka54
  refine W.eq (g2 := F0 m 125 ls [.ref a54, va_rf v5]) (by rw [ea54]; rfl) ?_
  refine f_geti B hH ka54 (by decide) rfl wu_X10 6 (by decide) wf_X9_227 rfl rfl dX9_restore_125 ?_
  obtain ⟨a55, ea55, h⟩ := h
  have ka55 : kO σ a55 10 := g5 a55 ea55
  have h := h ka55
  obtain ⟨σ56, eσ56⟩ : ∃ z, z = pI σ a55 6 (gI σ a54 6) := ⟨_, rfl⟩
  have h := h σ56 eσ56
  refine W.eq (g2 := F0 m 128 ls [.int (i32 (gI σ a54 6)), .ref a55]) (by rw [ea55]; rfl) ?_
  refine f_puti B hH ka55 (by decide) rfl wu_X10 tyX10 tyX10_ok nmX10 6 (by decide) wf_X9_227 rfl (ty := .int) rfl rfl rfl rfl rfl dX9_restore_128 (fun H locs hH => ?_)
  have hH : Hd D cA A s (pI σ a55 6 (gI σ a54 6)) H locs := hH
  rw [← eσ56] at hH
  have hGσ56 : RG σ56 := by rw [eσ56]; exact hGσ.pI (hGσ _ _)
  have hYσ56 : TY σ56 := by rw [eσ56]; exact hYσ.pI
  have xσ56 : Ext σ σ56 := by rw [eσ56]; exact Ext.pI
  have hc : CB n0 s0 σ56 := by rw [eσ56]; exact hc
  rw [show gc σ = gc σ56 by rw [eσ56]; try rfl, show gs σ = gs σ56 by rw [eσ56]; try rfl]
  refine lv_aloadQ B.1 B.2.1 dX9_restore_131 (lv_at hl 5 rfl) ?_
  refine lv_aloadQ B.1 B.2.1 dX9_restore_133 (lv_at hl 4 rfl) ?_
  refine W.eq (g2 := F0 m 135 ls [.ref a54, va_rf v5]) (by rw [ea54]; rfl) ?_
  refine f_getl B hH (ka54.up xσ56) (by decide) rfl wu_X10 7 (by decide) wf_X9_127 rfl rfl dX9_restore_135 ?_
  obtain ⟨σ57, eσ57⟩ : ∃ z, z = pJ σ56 a55 7 (gJ σ56 a54 7) := ⟨_, rfl⟩
  have h := h σ57 eσ57
  refine W.eq (g2 := F0 m 138 ls [.long (gJ σ56 a54 7), .ref a55]) (by rw [ea55]; rfl) ?_
  refine f_putl B hH (ka55.up xσ56) (by decide) rfl wu_X10 tyX10 tyX10_ok nmX10 7 (by decide) wf_X9_127 rfl (ty := .long) rfl rfl rfl rfl rfl dX9_restore_138 (fun H locs hH => ?_)
  have hH : Hd D cA A s (pJ σ56 a55 7 (gJ σ56 a54 7)) H locs := hH
  rw [← eσ57] at hH
  have hGσ57 : RG σ57 := by rw [eσ57]; exact hGσ56.pJ
  have hYσ57 : TY σ57 := by rw [eσ57]; exact hYσ56.pJ
  have xσ57 : Ext σ56 σ57 := by rw [eσ57]; exact Ext.pJ
  have hc : CB n0 s0 σ57 := by rw [eσ57]; exact hc
  rw [show gc σ56 = gc σ57 by rw [eσ57]; try rfl, show gs σ56 = gs σ57 by rw [eσ57]; try rfl]
  exact a_X9_restore_141 K hQ hX hTh hK32 _ _ _ _ _ g1 g2 g3 (g4.up (xσ56.trans xσ57)) h hGσ57 hYσ57 ((hE.trans xσ56).trans xσ57) (hth.up (xσ56.trans xσ57)) _ _ _ hH (lv_sub (l' := [(0, .ref th), (1, .int (i32 v1)), (2, .int (i32 v2)), (3, .int (i32 v3)), (4, va_rf v4)]) hl [0, 1, 2, 3, 4] rfl) hc
set_option maxRecDepth 20000 in
theorem a_X9_restore_87 {Q : Sg → Unit → Prop} {X : Sg → String → Prop} {th : Nat} (K : MD l R p s m args c cX9_restore 6 RX9 D cA tys A n0 s0 9 161 []) (hQ : CQV p l e R s m args below meth c cX9_restore D cA A n0 s0 QM σi Q) (hX : CX p l e R s m args below meth c 6 D cA A n0 s0 QM σi X) (hTh : CT p l e R s m args below meth c cX9_restore 6 D cA A n0 s0 QM σi RX9 X) {K32 : Sg → Int → Int → Int → Prop} (hK32 : ∀ (σ : Sg) (v1 : Int) (v2 : Int) (v3 : Int) (g1 : rng v1) (g2 : rng v2) (g3 : rng v3), K32 σ v1 v2 v3 → RG σ → TY σ → Ext σi σ → kO σ th 9 → JJ p l e R s m args below meth c 6 D cA A n0 s0 QM σ 32 [(0, .ref th), (1, .int (i32 v1)), (2, .int (i32 v2)), (3, .int (i32 v3))] []) : ∀ (σ : Sg) (v1 : Int) (v2 : Int) (v3 : Int) (v4 : Option Nat) (u0 : Int) (u1 : Int) (u2 : Option Nat) (g1 : rng v1) (g2 : rng v2) (g3 : rng v3) (g4 : tyV σ 10 v4) (gu0 : rng u0) (gu1 : rng u1) (gu2 : tyV σ 120 u2), w_X9_restore_87 th K32 Q X σ v1 v2 v3 v4 u0 u1 u2 → RG σ → TY σ → Ext σi σ → kO σ th 9 → JJ p l e R s m args below meth c 6 D cA A n0 s0 QM σ 87 [(0, .ref th), (1, .int (i32 v1)), (2, .int (i32 v2)), (3, .int (i32 v3)), (4, va_rf v4)] [.int (i32 u0), .int (i32 u1), va_rf u2] := by
  intro σ v1 v2 v3 v4 u0 u1 u2 g1 g2 g3 g4 gu0 gu1 gu2 h hGσ hYσ hE hth H locs ls hH hl hc
  have B := K.1
  have hl9 := K.2.2.2.2.2.2
  unfold w_X9_restore_87 at h
  obtain ⟨q1, h⟩ := h
  refine lv_iadd B.1 B.2.1 dX9_restore_87 ?_
  rw [i32_add]
  obtain ⟨a58, ea58, h⟩ := h
  have ka58 : kO σ a58 120 := gu2 a58 ea58
  have h := h ka58
  obtain ⟨q2, h⟩ := h
  refine W.eq (g2 := F0 m 88 ls [.int (i32 (u1 + u0)), .ref a58]) (by rw [ea58]; rfl) ?_
  refine y_aald B hH (t0 := 7) ka58 (by decide) K.2.1.2.2.2.2.1 q2 (hYσ.2 _) dX9_restore_88 ?_
  refine lv_astoreQ (lv' := [(5, va_rf (gP σ a58 (u1 + u0).toNat)), (0, .ref th), (1, .int (i32 v1)), (2, .int (i32 v2)), (3, .int (i32 v3)), (4, va_rf v4)]) B.1 B.2.1 dX9_restore_89 hl (by decide) (by generalize v4 = w9; cases w9 <;> rfl) (fun ls hl => ?_)
  refine lv_aloadQ B.1 B.2.1 dX9_restore_91 (lv_at hl 0 rfl) ?_
  refine lv_dup B.1 B.2.1 dX9_restore_93 (rf_cat _) ?_
  obtain ⟨a59, ea59, h⟩ := h
  have ka59 : kO σ a59 10 := (hYσ.get ka58 rfl) a59 ea59
  have h := h ka59
  refine W.eq (g2 := F0 m 94 ls [.ref a59, va_rf (gP σ a58 (u1 + u0).toNat)]) (by rw [ea59]; rfl) ?_
  refine f_geti B hH ka59 (by decide) rfl wu_X10 5 (by decide) wf_X9_224 rfl rfl dX9_restore_94 ?_
  refine lv_aloadQ B.1 B.2.1 dX9_restore_97 (lv_at hl 5 rfl) ?_
  obtain ⟨a60, ea60, h⟩ := h
  have ka60 : kO σ a60 10 := g4 a60 ea60
  have h := h ka60
  refine W.eq (g2 := F0 m 99 ls [.ref a60, .int (i32 (gI σ a59 5)), va_rf (gP σ a58 (u1 + u0).toNat)]) (by rw [ea60]; rfl) ?_
  refine f_geti B hH ka60 (by decide) rfl wu_X10 5 (by decide) wf_X9_224 rfl rfl dX9_restore_99 ?_
  refine lv_iadd B.1 B.2.1 dX9_restore_102 ?_
  rw [i32_add]
  refine W.eq (g2 := F0 m 103 ls [.int (i32 (wr (gI σ a59 5 + gI σ a60 5))), va_rf (gP σ a58 (u1 + u0).toNat)]) (by rw [i32_wr]) ?_
  obtain ⟨σ61, eσ61⟩ : ∃ z, z = pI σ a59 5 (wr (gI σ a59 5 + gI σ a60 5)) := ⟨_, rfl⟩
  have h := h σ61 eσ61
  refine W.eq (g2 := F0 m 103 ls [.int (i32 (wr (gI σ a59 5 + gI σ a60 5))), .ref a59]) (by rw [ea59]; rfl) ?_
  refine f_puti B hH ka59 (by decide) rfl wu_X10 tyX10 tyX10_ok nmX10 5 (by decide) wf_X9_224 rfl (ty := .int) rfl rfl rfl rfl rfl dX9_restore_103 (fun H locs hH => ?_)
  have hH : Hd D cA A s (pI σ a59 5 (wr (gI σ a59 5 + gI σ a60 5))) H locs := hH
  rw [← eσ61] at hH
  have hGσ61 : RG σ61 := by rw [eσ61]; exact hGσ.pI (rng_wr _)
  have hYσ61 : TY σ61 := by rw [eσ61]; exact hYσ.pI
  have xσ61 : Ext σ σ61 := by rw [eσ61]; exact Ext.pI
  have hc : CB n0 s0 σ61 := by rw [eσ61]; exact hc
  rw [show gc σ = gc σ61 by rw [eσ61]; try rfl, show gs σ = gs σ61 by rw [eσ61]; try rfl]
  refine lv_aload_n B.1 B.2.1 dX9_restore_106 rfl (lv_at hl 1 rfl) ?_
  refine f_getp B hH (hth.up xσ61) (by decide) rfl wu_X9 9 (by decide) wf_X9_100 rfl rfl dX9_restore_107 ?_
  obtain ⟨a62, ea62, h⟩ := h
  have ka62 : kO σ61 a62 4 := (hYσ61.get (hth.up xσ61) (by decide)) a62 ea62
  have h := h ka62
  refine W.eq (g2 := F0 m 110 ls [.ref a62]) (by rw [ea62]; rfl) ?_
  refine f_getp B hH ka62 (by decide) rfl wu_X4 0 (by decide) wf_X9_160 rfl rfl dX9_restore_110 ?_
  refine lv_iload_n B.1 B.2.1 dX9_restore_113 rfl (lv_at hl 2 rfl) ?_
  obtain ⟨a63, ea63, h⟩ := h
  have ka63 : kO σ61 a63 115 := (hYσ61.get ka62 (by decide)) a63 ea63
  have h := h ka63
  obtain ⟨q3, h⟩ := h
  refine W.eq (g2 := F0 m 114 ls [.int (i32 v1), .ref a63]) (by rw [ea63]; rfl) ?_
  refine y_aald B hH (t0 := 6) ka63 (by decide) K.2.1.2.2.2.1 q3 (hYσ61.2 _) dX9_restore_114 ?_
  obtain ⟨a64, ea64, h⟩ := h
  have ka64 : kO σ61 a64 5 := (hYσ61.get ka63 rfl) a64 ea64
  have h := h ka64
  refine W.eq (g2 := F0 m 115 ls [.ref a64]) (by rw [ea64]; rfl) ?_
  refine f_geti B hH ka64 (by decide) rfl wu_X5 6 (by decide) wf_X9_164 rfl rfl dX9_restore_115 ?_
  refine lv_if_ne (tgt := 141) B.1 B.2.1 dX9_restore_118 (by decide) (fun h9 => ?_) (fun h9 => ?_)
  · rw [if_pos (fun q => h9 ((z_eq (hGσ61 _ _)).mpr q))] at h
    exact a_X9_restore_141 K hQ hX hTh hK32 _ _ _ _ _ g1 g2 g3 (g4.up xσ61) h hGσ61 hYσ61 (hE.trans xσ61) (hth.up xσ61) _ _ _ hH (lv_sub (l' := [(0, .ref th), (1, .int (i32 v1)), (2, .int (i32 v2)), (3, .int (i32 v3)), (4, va_rf v4)]) hl [1, 2, 3, 4, 5] rfl) hc
  · rw [if_neg (fun q => q ((z_eq (hGσ61 _ _)).mp h9))] at h
    exact a_X9_restore_121 K hQ hX hTh hK32 _ _ _ _ _ _ g1 g2 g3 (g4.up xσ61) ((hYσ.get ka58 rfl).up xσ61) h hGσ61 hYσ61 (hE.trans xσ61) (hth.up xσ61) _ _ _ hH (lv_sub (l' := [(0, .ref th), (1, .int (i32 v1)), (2, .int (i32 v2)), (3, .int (i32 v3)), (4, va_rf v4), (5, va_rf (gP σ a58 (u1 + u0).toNat))]) hl [1, 2, 3, 4, 5, 0] rfl) hc
set_option maxRecDepth 20000 in
theorem a_X9_restore_86 {Q : Sg → Unit → Prop} {X : Sg → String → Prop} {th : Nat} (K : MD l R p s m args c cX9_restore 6 RX9 D cA tys A n0 s0 9 161 []) (hQ : CQV p l e R s m args below meth c cX9_restore D cA A n0 s0 QM σi Q) (hX : CX p l e R s m args below meth c 6 D cA A n0 s0 QM σi X) (hTh : CT p l e R s m args below meth c cX9_restore 6 D cA A n0 s0 QM σi RX9 X) {K32 : Sg → Int → Int → Int → Prop} (hK32 : ∀ (σ : Sg) (v1 : Int) (v2 : Int) (v3 : Int) (g1 : rng v1) (g2 : rng v2) (g3 : rng v3), K32 σ v1 v2 v3 → RG σ → TY σ → Ext σi σ → kO σ th 9 → JJ p l e R s m args below meth c 6 D cA A n0 s0 QM σ 32 [(0, .ref th), (1, .int (i32 v1)), (2, .int (i32 v2)), (3, .int (i32 v3))] []) : ∀ (σ : Sg) (v1 : Int) (v2 : Int) (v3 : Int) (v4 : Option Nat) (u0 : Int) (u1 : Option Nat) (g1 : rng v1) (g2 : rng v2) (g3 : rng v3) (g4 : tyV σ 10 v4) (gu0 : rng u0) (gu1 : tyV σ 120 u1), w_X9_restore_86 th K32 Q X σ v1 v2 v3 v4 u0 u1 → RG σ → TY σ → Ext σi σ → kO σ th 9 → JJ p l e R s m args below meth c 6 D cA A n0 s0 QM σ 86 [(0, .ref th), (1, .int (i32 v1)), (2, .int (i32 v2)), (3, .int (i32 v3)), (4, va_rf v4)] [.int (i32 u0), va_rf u1] := by
  intro σ v1 v2 v3 v4 u0 u1 g1 g2 g3 g4 gu0 gu1 h hGσ hYσ hE hth H locs ls hH hl hc
  have B := K.1
  have hl9 := K.2.2.2.2.2.2
  unfold w_X9_restore_86 at h
  refine lv_iconst (v := i32 0) B.1 B.2.1 dX9_restore_86 (by decide) ?_
  exact a_X9_restore_87 K hQ hX hTh hK32 _ _ _ _ _ _ _ _ g1 g2 g3 g4 (by unfold rng; omega) gu0 gu1 h hGσ hYσ hE hth _ _ _ hH (lv_sub (l' := [(0, .ref th), (1, .int (i32 v1)), (2, .int (i32 v2)), (3, .int (i32 v3)), (4, va_rf v4)]) hl [0, 1, 2, 3, 4] rfl) hc
set_option maxRecDepth 20000 in
theorem a_X9_restore_82 {Q : Sg → Unit → Prop} {X : Sg → String → Prop} {th : Nat} (K : MD l R p s m args c cX9_restore 6 RX9 D cA tys A n0 s0 9 161 []) (hQ : CQV p l e R s m args below meth c cX9_restore D cA A n0 s0 QM σi Q) (hX : CX p l e R s m args below meth c 6 D cA A n0 s0 QM σi X) (hTh : CT p l e R s m args below meth c cX9_restore 6 D cA A n0 s0 QM σi RX9 X) {K32 : Sg → Int → Int → Int → Prop} (hK32 : ∀ (σ : Sg) (v1 : Int) (v2 : Int) (v3 : Int) (g1 : rng v1) (g2 : rng v2) (g3 : rng v3), K32 σ v1 v2 v3 → RG σ → TY σ → Ext σi σ → kO σ th 9 → JJ p l e R s m args below meth c 6 D cA A n0 s0 QM σ 32 [(0, .ref th), (1, .int (i32 v1)), (2, .int (i32 v2)), (3, .int (i32 v3))] []) : ∀ (σ : Sg) (v1 : Int) (v2 : Int) (v3 : Int) (v4 : Option Nat) (u0 : Int) (u1 : Option Nat) (g1 : rng v1) (g2 : rng v2) (g3 : rng v3) (g4 : tyV σ 10 v4) (gu0 : rng u0) (gu1 : tyV σ 120 u1), w_X9_restore_82 th K32 Q X σ v1 v2 v3 v4 u0 u1 → RG σ → TY σ → Ext σi σ → kO σ th 9 → JJ p l e R s m args below meth c 6 D cA A n0 s0 QM σ 82 [(0, .ref th), (1, .int (i32 v1)), (2, .int (i32 v2)), (3, .int (i32 v3)), (4, va_rf v4)] [.int (i32 u0), va_rf u1] := by
  intro σ v1 v2 v3 v4 u0 u1 g1 g2 g3 g4 gu0 gu1 h hGσ hYσ hE hth H locs ls hH hl hc
  have B := K.1
  have hl9 := K.2.2.2.2.2.2
  unfold w_X9_restore_82 at h
  refine lv_iload_n B.1 B.2.1 dX9_restore_82 rfl (lv_at hl 3 rfl) ?_
  refine lv_goto (tgt := 87) B.1 B.2.1 dX9_restore_83 (by decide) ?_
  exact a_X9_restore_87 K hQ hX hTh hK32 _ _ _ _ _ _ _ _ g1 g2 g3 g4 g3 gu0 gu1 h hGσ hYσ hE hth _ _ _ hH (lv_sub (l' := [(0, .ref th), (1, .int (i32 v1)), (2, .int (i32 v2)), (3, .int (i32 v3)), (4, va_rf v4)]) hl [0, 1, 2, 3, 4] rfl) hc
set_option maxRecDepth 20000 in
theorem a_X9_restore_58 {Q : Sg → Unit → Prop} {X : Sg → String → Prop} {th : Nat} (K : MD l R p s m args c cX9_restore 6 RX9 D cA tys A n0 s0 9 161 []) (hQ : CQV p l e R s m args below meth c cX9_restore D cA A n0 s0 QM σi Q) (hX : CX p l e R s m args below meth c 6 D cA A n0 s0 QM σi X) (hTh : CT p l e R s m args below meth c cX9_restore 6 D cA A n0 s0 QM σi RX9 X) {K32 : Sg → Int → Int → Int → Prop} (hK32 : ∀ (σ : Sg) (v1 : Int) (v2 : Int) (v3 : Int) (g1 : rng v1) (g2 : rng v2) (g3 : rng v3), K32 σ v1 v2 v3 → RG σ → TY σ → Ext σi σ → kO σ th 9 → JJ p l e R s m args below meth c 6 D cA A n0 s0 QM σ 32 [(0, .ref th), (1, .int (i32 v1)), (2, .int (i32 v2)), (3, .int (i32 v3))] []) : ∀ (σ : Sg) (v1 : Int) (v2 : Int) (v3 : Int) (v4 : Option Nat) (g1 : rng v1) (g2 : rng v2) (g3 : rng v3) (g4 : tyV σ 10 v4), w_X9_restore_58 th K32 Q X σ v1 v2 v3 v4 → RG σ → TY σ → Ext σi σ → kO σ th 9 → JJ p l e R s m args below meth c 6 D cA A n0 s0 QM σ 58 [(0, .ref th), (1, .int (i32 v1)), (2, .int (i32 v2)), (3, .int (i32 v3)), (4, va_rf v4)] [] := by
  intro σ v1 v2 v3 v4 g1 g2 g3 g4 h hGσ hYσ hE hth H locs ls hH hl hc
  have B := K.1
  have hl9 := K.2.2.2.2.2.2
  unfold w_X9_restore_58 at h
  refine lv_aload_n B.1 B.2.1 dX9_restore_58 rfl (lv_at hl 0 rfl) ?_
  refine f_getp B hH hth (by decide) rfl wu_X9 3 (by decide) wf_X9_20 rfl rfl dX9_restore_59 ?_
  refine lv_aload_n B.1 B.2.1 dX9_restore_62 rfl (lv_at hl 0 rfl) ?_
  refine f_getp B hH hth (by decide) rfl wu_X9 5 (by decide) wf_X9_30 rfl rfl dX9_restore_63 ?_
  refine lv_iload_n B.1 B.2.1 dX9_restore_66 rfl (lv_at hl 1 rfl) ?_
  obtain ⟨a65, ea65, h⟩ := h
  have ka65 : kO σ a65 100 := (hYσ.get hth (by decide)) a65 ea65
  have h := h ka65
  obtain ⟨q1, h⟩ := h
  refine W.eq (g2 := F0 m 67 ls [.int (i32 v1), .ref a65, va_rf (gP σ th 3)]) (by rw [ea65]; rfl) ?_
  refine y_iald B K.2.1 hH ka65 q1 dX9_restore_67 (hYσ.2 _) ?_
  refine lv_aload_n B.1 B.2.1 dX9_restore_68 rfl (lv_at hl 0 rfl) ?_
  refine f_geti B hH hth (by decide) rfl wu_X9 12 (by decide) wf_X9_157 rfl rfl dX9_restore_69 ?_
  refine lv_aload_n B.1 B.2.1 dX9_restore_72 rfl (lv_at hl 0 rfl) ?_
  refine f_getp B hH hth (by decide) rfl wu_X9 2 (by decide) wf_X9_12 rfl rfl dX9_restore_73 ?_
  obtain ⟨a66, ea66, h⟩ := h
  have ka66 : kO σ a66 3 := (hYσ.get hth (by decide)) a66 ea66
  have h := h ka66
  refine W.eq (g2 := F0 m 76 ls [.ref a66, .int (i32 (gI σ th 12)), .int (i32 (gI σ a65 v1.toNat)), va_rf (gP σ th 3)]) (by rw [ea66]; rfl) ?_
  refine f_geti B hH ka66 (by decide) rfl wu_X3 5 (by decide) wf_X9_217 rfl rfl dX9_restore_76 ?_
  refine lv_icmp_ne (tgt := 86) B.1 B.2.1 dX9_restore_79 (by decide) (fun h9 => ?_) (fun h9 => ?_)
  · rw [if_pos (fun q => h9 ((i32_eq (hGσ _ _) (hGσ _ _)).mpr q))] at h
    exact a_X9_restore_86 K hQ hX hTh hK32 _ _ _ _ _ _ _ g1 g2 g3 g4 (hGσ _ _) (hYσ.get hth (by decide)) h hGσ hYσ hE hth _ _ _ hH (lv_sub (l' := [(0, .ref th), (1, .int (i32 v1)), (2, .int (i32 v2)), (3, .int (i32 v3)), (4, va_rf v4)]) hl [0, 1, 2, 3, 4] rfl) hc
  · rw [if_neg (fun q => q ((i32_eq (hGσ _ _) (hGσ _ _)).mp h9))] at h
    exact a_X9_restore_82 K hQ hX hTh hK32 _ _ _ _ _ _ _ g1 g2 g3 g4 (hGσ _ _) (hYσ.get hth (by decide)) h hGσ hYσ hE hth _ _ _ hH (lv_sub (l' := [(0, .ref th), (1, .int (i32 v1)), (2, .int (i32 v2)), (3, .int (i32 v3)), (4, va_rf v4)]) hl [0, 1, 2, 3, 4] rfl) hc
set_option maxRecDepth 20000 in
theorem a_X9_restore_42 {Q : Sg → Unit → Prop} {X : Sg → String → Prop} {th : Nat} (K : MD l R p s m args c cX9_restore 6 RX9 D cA tys A n0 s0 9 161 []) (hQ : CQV p l e R s m args below meth c cX9_restore D cA A n0 s0 QM σi Q) (hX : CX p l e R s m args below meth c 6 D cA A n0 s0 QM σi X) (hTh : CT p l e R s m args below meth c cX9_restore 6 D cA A n0 s0 QM σi RX9 X) {K32 : Sg → Int → Int → Int → Prop} (hK32 : ∀ (σ : Sg) (v1 : Int) (v2 : Int) (v3 : Int) (g1 : rng v1) (g2 : rng v2) (g3 : rng v3), K32 σ v1 v2 v3 → RG σ → TY σ → Ext σi σ → kO σ th 9 → JJ p l e R s m args below meth c 6 D cA A n0 s0 QM σ 32 [(0, .ref th), (1, .int (i32 v1)), (2, .int (i32 v2)), (3, .int (i32 v3))] []) : ∀ (σ : Sg) (v1 : Int) (v2 : Int) (v3 : Int) (g1 : rng v1) (g2 : rng v2) (g3 : rng v3), w_X9_restore_42 th K32 Q X σ v1 v2 v3 → RG σ → TY σ → Ext σi σ → kO σ th 9 → JJ p l e R s m args below meth c 6 D cA A n0 s0 QM σ 42 [(0, .ref th), (1, .int (i32 v1)), (2, .int (i32 v2)), (3, .int (i32 v3))] [] := by
  intro σ v1 v2 v3 g1 g2 g3 h hGσ hYσ hE hth H locs ls hH hl hc
  have B := K.1
  have hl9 := K.2.2.2.2.2.2
  unfold w_X9_restore_42 at h
  refine lv_aload_n B.1 B.2.1 dX9_restore_42 rfl (lv_at hl 0 rfl) ?_
  refine f_getp B hH hth (by decide) rfl wu_X9 2 (by decide) wf_X9_12 rfl rfl dX9_restore_43 ?_
  refine lv_iload_n B.1 B.2.1 dX9_restore_46 rfl (lv_at hl 1 rfl) ?_
  refine lv_iload_n B.1 B.2.1 dX9_restore_47 rfl (lv_at hl 3 rfl) ?_
  obtain ⟨a69, ea69, h⟩ := h
  have ka69 : kO σ a69 3 := (hYσ.get hth (by decide)) a69 ea69
  have h := h ka69
  refine W.eq (g2 := F0 m 48 ls [.int (i32 v3), .int (i32 v1), .ref a69]) (by rw [ea69]; rfl) ?_
  refine c_V B hH hl hc K.2.2.1 (C := RX3) (T := TX3) (N := 10) (ci := 3) (As := [.int (i32 v1), .int (i32 v3)]) (ok_X3_partOfLatest hl9 K.2.1 σ a69 v1 v3 g1 g3 ka69 hGσ hYσ h) wc_X9_220 2 hd_X3_partOfLatest ⟨Nat.le_trans (Nat.le_of_ble_eq_true rfl) K.2.2.2.1, Nat.le_trans (Nat.le_of_ble_eq_true rfl) K.2.2.2.2.1⟩ ka69.1 ka69.2 (by decide) rfl rfl (rest := []) rfl (Nat.le_of_ble_eq_true rfl) dX9_restore_48 (fun σ67 w hq => ?_) (fun σ9 E9 hx9 => hX σ9 E9 _ _ _ (tb_out K.2.2.2.2.2.1 rfl) hx9.1 hx9.2.1 hx9.2.2.1 (hE.trans hx9.2.2.2))
  obtain ⟨r68, rfl, tr68, h, hGσ67, hYσ67, xσ67⟩ := hq
  have h := h xσ67 tr68
  intro H locs ls hH hl hc
  refine W.eq (g2 := F0 m 51 ls [va_rf r68]) (rfl) ?_
  try dsimp only at h
  refine lv_astoreQ (lv' := [(4, va_rf r68), (0, .ref th), (1, .int (i32 v1)), (2, .int (i32 v2)), (3, .int (i32 v3))]) B.1 B.2.1 dX9_restore_51 hl (by decide) rfl (fun ls hl => ?_)
  refine lv_aloadQ B.1 B.2.1 dX9_restore_53 (lv_at hl 0 rfl) ?_
  refine lv_ifnullQ (tgt := 163) B.1 B.2.1 dX9_restore_55 (by decide) (fun h9 => ?_) (fun h9 => ?_)
  · rw [if_pos (h9)] at h
    exact a_X9_restore_163 K hQ hX hTh hK32 _ _ _ _ g1 g2 g3 h hGσ67 hYσ67 (hE.trans xσ67) (hth.up xσ67) _ _ _ hH (lv_sub (l' := [(0, .ref th), (1, .int (i32 v1)), (2, .int (i32 v2)), (3, .int (i32 v3))]) hl [1, 2, 3, 4] rfl) hc
  · rw [if_neg (h9)] at h
    exact a_X9_restore_58 K hQ hX hTh hK32 _ _ _ _ _ g1 g2 g3 tr68 h hGσ67 hYσ67 (hE.trans xσ67) (hth.up xσ67) _ _ _ hH (lv_sub (l' := [(0, .ref th), (1, .int (i32 v1)), (2, .int (i32 v2)), (3, .int (i32 v3)), (4, va_rf r68)]) hl [1, 2, 3, 4, 0] rfl) hc
set_option maxRecDepth 20000 in
theorem a_X9_restore_37 {Q : Sg → Unit → Prop} {X : Sg → String → Prop} {th : Nat} (K : MD l R p s m args c cX9_restore 6 RX9 D cA tys A n0 s0 9 161 []) (hQ : CQV p l e R s m args below meth c cX9_restore D cA A n0 s0 QM σi Q) (hX : CX p l e R s m args below meth c 6 D cA A n0 s0 QM σi X) (hTh : CT p l e R s m args below meth c cX9_restore 6 D cA A n0 s0 QM σi RX9 X) {K32 : Sg → Int → Int → Int → Prop} (hK32 : ∀ (σ : Sg) (v1 : Int) (v2 : Int) (v3 : Int) (g1 : rng v1) (g2 : rng v2) (g3 : rng v3), K32 σ v1 v2 v3 → RG σ → TY σ → Ext σi σ → kO σ th 9 → JJ p l e R s m args below meth c 6 D cA A n0 s0 QM σ 32 [(0, .ref th), (1, .int (i32 v1)), (2, .int (i32 v2)), (3, .int (i32 v3))] []) : ∀ (σ : Sg) (v1 : Int) (v2 : Int) (v3 : Int) (g1 : rng v1) (g2 : rng v2) (g3 : rng v3), w_X9_restore_37 th K32 Q X σ v1 v2 v3 → RG σ → TY σ → Ext σi σ → kO σ th 9 → JJ p l e R s m args below meth c 6 D cA A n0 s0 QM σ 37 [(0, .ref th), (1, .int (i32 v1)), (2, .int (i32 v2)), (3, .int (i32 v3))] [] := by
  intro σ v1 v2 v3 g1 g2 g3 h hGσ hYσ hE hth H locs ls hH hl hc
  have B := K.1
  have hl9 := K.2.2.2.2.2.2
  unfold w_X9_restore_37 at h
  refine lv_iload_n B.1 B.2.1 dX9_restore_37 rfl (lv_at hl 3 rfl) ?_
  refine lv_iconst (v := i32 4) B.1 B.2.1 dX9_restore_38 (by decide) ?_
  refine lv_icmp_ge (tgt := 169) B.1 B.2.1 dX9_restore_39 (by decide) (fun h9 => ?_) (fun h9 => ?_)
  · rw [if_pos ((i32_le (by unfold rng; omega) g3).mp h9)] at h
    exact a_X9_restore_169 K hQ hX hTh _ h hGσ hYσ hE hth _ _ _ hH (lv_sub (l' := [(0, .ref th)]) hl [0] rfl) hc
  · rw [if_neg (fun q => h9 ((i32_le (by unfold rng; omega) g3).mpr q))] at h
    exact a_X9_restore_42 K hQ hX hTh hK32 _ _ _ _ g1 g2 g3 h hGσ hYσ hE hth _ _ _ hH (lv_sub (l' := [(0, .ref th), (1, .int (i32 v1)), (2, .int (i32 v2)), (3, .int (i32 v3))]) hl [0, 1, 2, 3] rfl) hc
set_option maxRecDepth 20000 in
theorem a_X9_restore_32 {Q : Sg → Unit → Prop} {X : Sg → String → Prop} {th : Nat} (K : MD l R p s m args c cX9_restore 6 RX9 D cA tys A n0 s0 9 161 []) (hQ : CQV p l e R s m args below meth c cX9_restore D cA A n0 s0 QM σi Q) (hX : CX p l e R s m args below meth c 6 D cA A n0 s0 QM σi X) (hTh : CT p l e R s m args below meth c cX9_restore 6 D cA A n0 s0 QM σi RX9 X) {K32 : Sg → Int → Int → Int → Prop} (hK32 : ∀ (σ : Sg) (v1 : Int) (v2 : Int) (v3 : Int) (g1 : rng v1) (g2 : rng v2) (g3 : rng v3), K32 σ v1 v2 v3 → RG σ → TY σ → Ext σi σ → kO σ th 9 → JJ p l e R s m args below meth c 6 D cA A n0 s0 QM σ 32 [(0, .ref th), (1, .int (i32 v1)), (2, .int (i32 v2)), (3, .int (i32 v3))] []) : ∀ (σ : Sg) (v1 : Int) (v2 : Int) (v3 : Int) (g1 : rng v1) (g2 : rng v2) (g3 : rng v3), w_X9_restore_32 th K32 Q X σ v1 v2 v3 → RG σ → TY σ → Ext σi σ → kO σ th 9 → JJ p l e R s m args below meth c 6 D cA A n0 s0 QM σ 32 [(0, .ref th), (1, .int (i32 v1)), (2, .int (i32 v2)), (3, .int (i32 v3))] [] := by
  intro σ v1 v2 v3 g1 g2 g3 h hGσ hYσ hE hth H locs ls hH hl hc
  have B := K.1
  have hl9 := K.2.2.2.2.2.2
  unfold w_X9_restore_32 at h
  refine lv_iload_n B.1 B.2.1 dX9_restore_32 rfl (lv_at hl 3 rfl) ?_
  refine lv_iload_n B.1 B.2.1 dX9_restore_33 rfl (lv_at hl 2 rfl) ?_
  refine lv_icmp_ge (tgt := 169) B.1 B.2.1 dX9_restore_34 (by decide) (fun h9 => ?_) (fun h9 => ?_)
  · rw [if_pos ((i32_le g2 g3).mp h9)] at h
    exact a_X9_restore_169 K hQ hX hTh _ h hGσ hYσ hE hth _ _ _ hH (lv_sub (l' := [(0, .ref th)]) hl [0] rfl) hc
  · rw [if_neg (fun q => h9 ((i32_le g2 g3).mpr q))] at h
    exact a_X9_restore_37 K hQ hX hTh hK32 _ _ _ _ g1 g2 g3 h hGσ hYσ hE hth _ _ _ hH (lv_sub (l' := [(0, .ref th), (1, .int (i32 v1)), (2, .int (i32 v2)), (3, .int (i32 v3))]) hl [0, 1, 2, 3] rfl) hc
theorem al_X9_restore_32 {Q : Sg → Unit → Prop} {X : Sg → String → Prop} {th : Nat} (K : MD l R p s m args c cX9_restore 6 RX9 D cA tys A n0 s0 9 161 []) (hQ : CQV p l e R s m args below meth c cX9_restore D cA A n0 s0 QM σi Q) (hX : CX p l e R s m args below meth c 6 D cA A n0 s0 QM σi X) (hTh : CT p l e R s m args below meth c cX9_restore 6 D cA A n0 s0 QM σi RX9 X) : ∀ (n : Nat), ∀ (σ : Sg) (v1 : Int) (v2 : Int) (v3 : Int) (g1 : rng v1) (g2 : rng v2) (g3 : rng v3), wl_X9_restore_32 th Q X n σ v1 v2 v3 → RG σ → TY σ → Ext σi σ → kO σ th 9 → JJ p l e R s m args below meth c 6 D cA A n0 s0 QM σ 32 [(0, .ref th), (1, .int (i32 v1)), (2, .int (i32 v2)), (3, .int (i32 v3))] [] := by
  intro n
  induction n with
  | zero => intro σ v1 v2 v3 g1 g2 g3 h; exact h.elim
  | succ n ih => exact fun σ v1 v2 v3 g1 g2 g3 h => a_X9_restore_32 K hQ hX hTh ih σ v1 v2 v3 g1 g2 g3 h
set_option maxRecDepth 20000 in
theorem a_X9_restore_29 {Q : Sg → Unit → Prop} {X : Sg → String → Prop} {th : Nat} (K : MD l R p s m args c cX9_restore 6 RX9 D cA tys A n0 s0 9 161 []) (hQ : CQV p l e R s m args below meth c cX9_restore D cA A n0 s0 QM σi Q) (hX : CX p l e R s m args below meth c 6 D cA A n0 s0 QM σi X) (hTh : CT p l e R s m args below meth c cX9_restore 6 D cA A n0 s0 QM σi RX9 X) : ∀ (σ : Sg) (v1 : Int) (u0 : Int) (g1 : rng v1) (gu0 : rng u0), w_X9_restore_29 th Q X σ v1 u0 → RG σ → TY σ → Ext σi σ → kO σ th 9 → JJ p l e R s m args below meth c 6 D cA A n0 s0 QM σ 29 [(0, .ref th), (1, .int (i32 v1))] [.int (i32 u0)] := by
  intro σ v1 u0 g1 gu0 h hGσ hYσ hE hth H locs ls hH hl hc
  have B := K.1
  have hl9 := K.2.2.2.2.2.2
  unfold w_X9_restore_29 at h
  refine lv_istore_n (lv' := [(2, .int (i32 u0)), (0, .ref th), (1, .int (i32 v1))]) B.1 B.2.1 dX9_restore_29 rfl hl (by decide) rfl (fun ls hl => ?_)
  refine lv_iconst (v := i32 0) B.1 B.2.1 dX9_restore_30 (by decide) ?_
  refine lv_istore_n (lv' := [(3, .int (i32 0)), (2, .int (i32 u0)), (0, .ref th), (1, .int (i32 v1))]) B.1 B.2.1 dX9_restore_31 rfl hl (by decide) rfl (fun ls hl => ?_)
  obtain ⟨n9, h⟩ := h
  exact al_X9_restore_32 K hQ hX hTh n9 _ _ _ _ g1 gu0 (by unfold rng; omega) h hGσ hYσ hE hth _ _ _ hH (lv_sub (l' := [(0, .ref th), (1, .int (i32 v1)), (2, .int (i32 u0)), (3, .int (i32 0))]) hl [2, 3, 1, 0] rfl) hc
set_option maxRecDepth 20000 in
theorem a_X9_restore_22 {Q : Sg → Unit → Prop} {X : Sg → String → Prop} {th : Nat} (K : MD l R p s m args c cX9_restore 6 RX9 D cA tys A n0 s0 9 161 []) (hQ : CQV p l e R s m args below meth c cX9_restore D cA A n0 s0 QM σi Q) (hX : CX p l e R s m args below meth c 6 D cA A n0 s0 QM σi X) (hTh : CT p l e R s m args below meth c cX9_restore 6 D cA A n0 s0 QM σi RX9 X) : ∀ (σ : Sg) (v1 : Int) (g1 : rng v1), w_X9_restore_22 th Q X σ v1 → RG σ → TY σ → Ext σi σ → kO σ th 9 → JJ p l e R s m args below meth c 6 D cA A n0 s0 QM σ 22 [(0, .ref th), (1, .int (i32 v1))] [] := by
  intro σ v1 g1 h hGσ hYσ hE hth H locs ls hH hl hc
  have B := K.1
  have hl9 := K.2.2.2.2.2.2
  unfold w_X9_restore_22 at h
  refine lv_aload_n B.1 B.2.1 dX9_restore_22 rfl (lv_at hl 0 rfl) ?_
  refine f_getp B hH hth (by decide) rfl wu_X9 2 (by decide) wf_X9_12 rfl rfl dX9_restore_23 ?_
  obtain ⟨a70, ea70, h⟩ := h
  have ka70 : kO σ a70 3 := (hYσ.get hth (by decide)) a70 ea70
  have h := h ka70
  refine W.eq (g2 := F0 m 26 ls [.ref a70]) (by rw [ea70]; rfl) ?_
  refine f_geti B hH ka70 (by decide) rfl wu_X3 5 (by decide) wf_X9_217 rfl rfl dX9_restore_26 ?_
  exact a_X9_restore_29 K hQ hX hTh _ _ _ g1 (hGσ _ _) h hGσ hYσ hE hth _ _ _ hH (lv_sub (l' := [(0, .ref th), (1, .int (i32 v1))]) hl [0, 1] rfl) hc
set_option maxRecDepth 20000 in
theorem a_X9_restore_18 {Q : Sg → Unit → Prop} {X : Sg → String → Prop} {th : Nat} (K : MD l R p s m args c cX9_restore 6 RX9 D cA tys A n0 s0 9 161 []) (hQ : CQV p l e R s m args below meth c cX9_restore D cA A n0 s0 QM σi Q) (hX : CX p l e R s m args below meth c 6 D cA A n0 s0 QM σi X) (hTh : CT p l e R s m args below meth c cX9_restore 6 D cA A n0 s0 QM σi RX9 X) : ∀ (σ : Sg) (v1 : Int) (g1 : rng v1), w_X9_restore_18 th Q X σ v1 → RG σ → TY σ → Ext σi σ → kO σ th 9 → JJ p l e R s m args below meth c 6 D cA A n0 s0 QM σ 18 [(0, .ref th), (1, .int (i32 v1))] [] := by
  intro σ v1 g1 h hGσ hYσ hE hth H locs ls hH hl hc
  have B := K.1
  have hl9 := K.2.2.2.2.2.2
  unfold w_X9_restore_18 at h
  refine lv_iconst (v := i32 1) B.1 B.2.1 dX9_restore_18 (by decide) ?_
  refine lv_goto (tgt := 29) B.1 B.2.1 dX9_restore_19 (by decide) ?_
  exact a_X9_restore_29 K hQ hX hTh _ _ _ g1 (by unfold rng; omega) h hGσ hYσ hE hth _ _ _ hH (lv_sub (l' := [(0, .ref th), (1, .int (i32 v1))]) hl [0, 1] rfl) hc
set_option maxRecDepth 20000 in
theorem a_X9_restore_0 {Q : Sg → Unit → Prop} {X : Sg → String → Prop} {th : Nat} (K : MD l R p s m args c cX9_restore 6 RX9 D cA tys A n0 s0 9 161 []) (hQ : CQV p l e R s m args below meth c cX9_restore D cA A n0 s0 QM σi Q) (hX : CX p l e R s m args below meth c 6 D cA A n0 s0 QM σi X) (hTh : CT p l e R s m args below meth c cX9_restore 6 D cA A n0 s0 QM σi RX9 X) : ∀ (σ : Sg) (v1 : Int) (g1 : rng v1), w_X9_restore_0 th Q X σ v1 → RG σ → TY σ → Ext σi σ → kO σ th 9 → JJ p l e R s m args below meth c 6 D cA A n0 s0 QM σ 0 [(0, .ref th), (1, .int (i32 v1))] [] := by
  intro σ v1 g1 h hGσ hYσ hE hth H locs ls hH hl hc
  have B := K.1
  have hl9 := K.2.2.2.2.2.2
  unfold w_X9_restore_0 at h
  refine lv_aload_n B.1 B.2.1 dX9_restore_0 rfl (lv_at hl 0 rfl) ?_
  refine f_getp B hH hth (by decide) rfl wu_X9 9 (by decide) wf_X9_100 rfl rfl dX9_restore_1 ?_
  obtain ⟨a71, ea71, h⟩ := h
  have ka71 : kO σ a71 4 := (hYσ.get hth (by decide)) a71 ea71
  have h := h ka71
  refine W.eq (g2 := F0 m 4 ls [.ref a71]) (by rw [ea71]; rfl) ?_
  refine f_getp B hH ka71 (by decide) rfl wu_X4 0 (by decide) wf_X9_160 rfl rfl dX9_restore_4 ?_
  refine lv_iload_n B.1 B.2.1 dX9_restore_7 rfl (lv_at hl 1 rfl) ?_
  obtain ⟨a72, ea72, h⟩ := h
  have ka72 : kO σ a72 115 := (hYσ.get ka71 (by decide)) a72 ea72
  have h := h ka72
  obtain ⟨q1, h⟩ := h
  refine W.eq (g2 := F0 m 8 ls [.int (i32 v1), .ref a72]) (by rw [ea72]; rfl) ?_
  refine y_aald B hH (t0 := 6) ka72 (by decide) K.2.1.2.2.2.1 q1 (hYσ.2 _) dX9_restore_8 ?_
  obtain ⟨a73, ea73, h⟩ := h
  have ka73 : kO σ a73 5 := (hYσ.get ka72 rfl) a73 ea73
  have h := h ka73
  refine W.eq (g2 := F0 m 9 ls [.ref a73]) (by rw [ea73]; rfl) ?_
  refine f_geti B hH ka73 (by decide) rfl wu_X5 6 (by decide) wf_X9_164 rfl rfl dX9_restore_9 ?_
  refine c_SN B hH hl hc K.2.2.1 (As := [.int (i32 (gI σ a73 6))]) (ok_X12_hasOneTask hl9 K.2.1 σ (gI σ a73 6) (hGσ _ _) hGσ hYσ (nx_X12_hasOneTask h)) (fun _ _ h9 => h9.1) (List.mem_of_getElem? (l := nmL) (i := 11) rfl) wq_X12_hasOneTask 1 hd_X12_hasOneTask ⟨Nat.le_trans (Nat.le_of_ble_eq_true rfl) K.2.2.2.1, Nat.le_trans (Nat.le_of_ble_eq_true rfl) K.2.2.2.2.1⟩ rfl (rest := []) rfl (Nat.le_of_ble_eq_true rfl) dX9_restore_12 (fun σ74 w hq => ?_)
  obtain ⟨r75, rfl, ⟨gr75, gzr75⟩, h, hGσ74, hYσ74, xσ74⟩ := hq
  have h := h xσ74
  intro H locs ls hH hl hc
  refine W.eq (g2 := F0 m 15 ls [.int (i32 r75)]) (rfl) ?_
  try dsimp only at h
  refine lv_if_eq (tgt := 22) B.1 B.2.1 dX9_restore_15 (by decide) (fun h9 => ?_) (fun h9 => ?_)
  · rw [if_pos ((z_eq gr75).mp h9)] at h
    exact a_X9_restore_22 K hQ hX hTh _ _ g1 h hGσ74 hYσ74 (hE.trans xσ74) (hth.up xσ74) _ _ _ hH (lv_sub (l' := [(0, .ref th), (1, .int (i32 v1))]) hl [0, 1] rfl) hc
  · rw [if_neg (fun q => h9 ((z_eq gr75).mpr q))] at h
    exact a_X9_restore_18 K hQ hX hTh _ _ g1 h hGσ74 hYσ74 (hE.trans xσ74) (hth.up xσ74) _ _ _ hH (lv_sub (l' := [(0, .ref th), (1, .int (i32 v1))]) hl [0, 1] rfl) hc
theorem ok_X9_restore (hl0 : l.stackTraces = false) (hT : TyC cA tys) {Q : Sg → Unit → Prop} {X : Sg → String → Prop} (σ : Sg) (th : Nat) (v1 : Int) (g1 : rng v1) (hth : kO σ th 9) (hG : RG σ) (hY : TY σ) (h : wp_X9_restore th v1 σ Q X) : Ok l D cA tys A yX9_restore (.code yX9_restore cX9_restore 6 none) 9 161 [.ref th, .int (i32 v1)] σ (QcV σ Q) (QxC σ X) := by
  unfold wp_X9_restore at h
  exact oc_V hl0 (by decide) (by exact Nat.le_of_ble_eq_true rfl) hT (fun p e R s m args below meth c K hQ hX hTh hin9 H locs ls hH hl hc => a_X9_restore_0 K hQ hX hTh σ v1 g1 h hG hY (Ext.rfl' σ) hth H locs ls hH (lv_sub (l' := [(0, .ref th), (1, .int (i32 v1))]) hl [0, 1] rfl) hc)
end C81

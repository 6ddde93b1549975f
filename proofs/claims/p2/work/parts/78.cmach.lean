section C78
variable {p : Program} {l : Launch} {e : Env} {R : Room} {s : State} {m : MethodId} {args : Array Value} {below : List Frame} {meth : Method} {c : Code} {D : va_G} {cA : Nat → ClassId} {tys : List (ClassId × FieldType)} {A : Nat → Prop} {n0 s0 : Nat} {QM : State → Prop} {σi : Sg}
theorem dX0_init_0 : decode cX0_init 0 = .ok (.aload_n 0, 1) := by decide +kernel
theorem dX0_init_1 : decode cX0_init 1 = .ok (.invokespecial 3, 3) := by decide +kernel
theorem dX0_init_4 : decode cX0_init 4 = .ok (.aload_n 0, 1) := by decide +kernel
theorem dX0_init_5 : decode cX0_init 5 = .ok (.bipush 8, 2) := by decide +kernel
theorem dX0_init_7 : decode cX0_init 7 = .ok (.newarray .long, 2) := by decide +kernel
theorem dX0_init_9 : decode cX0_init 9 = .ok (.putfield 9, 3) := by decide +kernel
theorem dX0_init_12 : decode cX0_init 12 = .ok (.return_, 1) := by decide +kernel
set_option maxRecDepth 20000 in
theorem a_X0_init_0 {Q : Sg → Unit → Prop} {X : Sg → String → Prop} {th : Nat} (K : MD l R p s m args c cX0_init 1 RX0 D cA tys A n0 s0 1 12 []) (hQ : CQV p l e R s m args below meth c cX0_init D cA A n0 s0 QM σi Q) (hX : CX p l e R s m args below meth c 1 D cA A n0 s0 QM σi X) (hTh : CT p l e R s m args below meth c cX0_init 1 D cA A n0 s0 QM σi RX0 X) (hin9 : yX0_init.name = "<init>" → meth.name = "<init>") : ∀ (σ : Sg), w_X0_init_0 th Q X σ → RG σ → TY σ → Ext σi σ → kO σ th 0 → JJ p l e R s m args below meth c 1 D cA A n0 s0 QM σ 0 [(0, .ref th)] [] := by
  intro σ h hGσ hYσ hE hth H locs ls hH hl hc
  have B := K.1
  have hl9 := K.2.2.2.2.2.2
  unfold w_X0_init_0 at h
  refine lv_aload_n B.1 B.2.1 dX0_init_0 rfl (lv_at hl 0 rfl) ?_
  refine h_oinit B hl wo_X0_3 (by have := K.2.2.2.1; omega) (by have := K.2.2.2.2.1; omega) dX0_init_1 ?_
  refine lv_aload_n B.1 B.2.1 dX0_init_4 rfl (lv_at hl 0 rfl) ?_
  refine lv_bipush (v := i32 8) B.1 B.2.1 dX0_init_5 (by decide) ?_
  obtain ⟨zq7, h⟩ := h
  refine c_newJ B K.2.1 hH hc K.2.2.1 wa_101 (n := (8 : Int)) ⟨(by omega), by have : gs σ + 8 ≤ 7000000 := zq7.2; omega⟩ zq7 dX0_init_7 (fun q7 H hq7 hH hc => ?_)
  obtain ⟨σ8, eσ8⟩ : ∃ z, z = newA σ q7 101 8 := ⟨_, rfl⟩
  have h := h q7 hq7 σ8 eσ8
  have hH : Hd D cA A s (newA σ q7 101 8) H locs := hH
  have hc : CB n0 s0 (newA σ q7 101 8) := hc
  show W p l e R s m args below meth c H locs (gc (newA σ q7 101 8) - n0) (gs (newA σ q7 101 8) - s0) QM _
  rw [← eσ8] at hH hc ⊢
  have hGσ8 : RG σ8 := by rw [eσ8]; exact hGσ.newA
  have hYσ8 : TY σ8 := by rw [eσ8]; exact hYσ.newA hq7 (by have : gs σ + 8 ≤ 7000000 := zq7.2; omega)
  have xσ8 : Ext σ σ8 := by rw [eσ8]; exact Ext.newA hq7
  have kq7 : kO σ8 q7 101 := by rw [eσ8]; exact kO.newA
  obtain ⟨σ9, eσ9⟩ : ∃ z, z = pP σ8 th 0 (some q7) := ⟨_, rfl⟩
  have h := h σ9 eσ9
  refine W.eq (g2 := F0 m 9 ls [va_rf (some q7), .ref th]) (rfl) ?_
  refine f_putF B hH (hth.up xσ8) (by decide) rfl wu_X0 tyX0 tyX0_ok nmX0 0 (by decide) wf_X0_9 rfl (r := (some q7)) (ty := .array .long) rfl (hin9 rfl) rfl rfl rfl (nrA _ _) (ftA _ _) dX0_init_9 (fun H locs hH => ?_)
  have hH : Hd D cA A s (pP σ8 th 0 (some q7)) H locs := hH
  rw [← eσ9] at hH
  have hGσ9 : RG σ9 := by rw [eσ9]; exact hGσ8.pP
  have hYσ9 : TY σ9 := by rw [eσ9]; exact hYσ8.pP (hth.up xσ8) (d := 101) (by decide) (tyS1 kq7)
  have xσ9 : Ext σ8 σ9 := by rw [eσ9]; exact Ext.pP
  have hc : CB n0 s0 σ9 := by rw [eσ9]; exact hc
  rw [show gc σ8 = gc σ9 by rw [eσ9]; try rfl, show gs σ8 = gs σ9 by rw [eσ9]; try rfl]
  exact hQ _ _ _ _ _ dX0_init_12 hH hc h hGσ9 hYσ9 ((hE.trans xσ8).trans xσ9)
theorem ok_X0_init (hl0 : l.stackTraces = false) (hT : TyC cA tys) {Q : Sg → Unit → Prop} {X : Sg → String → Prop} (σ : Sg) (th : Nat) (hth : kO σ th 0) (hG : RG σ) (hY : TY σ) (h : wp_X0_init th σ Q X) : Ok l D cA tys A yX0_init (.code yX0_init cX0_init 1 none) 1 12 [.ref th] σ (QcV σ Q) (QxC σ X) := by
  unfold wp_X0_init at h
  exact oc_V hl0 (by decide) (by exact Nat.le_of_ble_eq_true rfl) hT (fun p e R s m args below meth c K hQ hX hTh hin9 H locs ls hH hl hc => a_X0_init_0 K hQ hX hTh hin9 σ h hG hY (Ext.rfl' σ) hth H locs ls hH (lv_sub (l' := [(0, .ref th)]) hl [0] rfl) hc)
theorem dX10_held_0 : decode cX10_held 0 = .ok (.aload_n 0, 1) := by decide +kernel
theorem dX10_held_1 : decode cX10_held 1 = .ok (.getfield 12, 3) := by decide +kernel
theorem dX10_held_4 : decode cX10_held 4 = .ok (.getfield 68, 3) := by decide +kernel
theorem dX10_held_7 : decode cX10_held 7 = .ok (.aload_n 0, 1) := by decide +kernel
theorem dX10_held_8 : decode cX10_held 8 = .ok (.getfield 18, 3) := by decide +kernel
theorem dX10_held_11 : decode cX10_held 11 = .ok (.getfield 68, 3) := by decide +kernel
theorem dX10_held_14 : decode cX10_held 14 = .ok (.iadd, 1) := by decide +kernel
theorem dX10_held_15 : decode cX10_held 15 = .ok (.ireturn, 1) := by decide +kernel
set_option maxRecDepth 20000 in
theorem a_X10_held_0 {Q : Sg → Int → Prop} {X : Sg → String → Prop} {th : Nat} (K : MD l R p s m args c cX10_held 1 RX10 D cA tys A n0 s0 0 0 []) (hQ : CQI p l e R s m args below meth c cX10_held D cA A n0 s0 QM σi Q) (hX : CX p l e R s m args below meth c 1 D cA A n0 s0 QM σi X) (hTh : CT p l e R s m args below meth c cX10_held 1 D cA A n0 s0 QM σi RX10 X) : ∀ (σ : Sg), w_X10_held_0 th Q X σ → RG σ → TY σ → Ext σi σ → kO σ th 10 → JJ p l e R s m args below meth c 1 D cA A n0 s0 QM σ 0 [(0, .ref th)] [] := by
  intro σ h hGσ hYσ hE hth H locs ls hH hl hc
  have B := K.1
  have hl9 := K.2.2.2.2.2.2
  unfold w_X10_held_0 at h
  refine lv_aload_n B.1 B.2.1 dX10_held_0 rfl (lv_at hl 0 rfl) ?_
  refine f_getp B hH hth (by decide) rfl wu_X10 2 (by decide) wf_X10_12 rfl rfl dX10_held_1 ?_
  obtain ⟨a5, ea5, h⟩ := h
  have ka5 : kO σ a5 1 := (hYσ.get hth (by decide)) a5 ea5
  have h := h ka5
  refine W.eq (g2 := F0 m 4 ls [.ref a5]) (by rw [ea5]; rfl) ?_
  refine f_geti B hH ka5 (by decide) rfl wu_X1 2 (by decide) wf_X10_68 rfl rfl dX10_held_4 ?_
  refine lv_aload_n B.1 B.2.1 dX10_held_7 rfl (lv_at hl 0 rfl) ?_
  refine f_getp B hH hth (by decide) rfl wu_X10 3 (by decide) wf_X10_18 rfl rfl dX10_held_8 ?_
  obtain ⟨a6, ea6, h⟩ := h
  have ka6 : kO σ a6 1 := (hYσ.get hth (by decide)) a6 ea6
  have h := h ka6
  refine W.eq (g2 := F0 m 11 ls [.ref a6, .int (i32 (gI σ a5 2))]) (by rw [ea6]; rfl) ?_
  refine f_geti B hH ka6 (by decide) rfl wu_X1 2 (by decide) wf_X10_68 rfl rfl dX10_held_11 ?_
  obtain ⟨q1, h⟩ := h
  refine lv_iadd B.1 B.2.1 dX10_held_14 ?_
  rw [i32_add]
  exact hQ _ _ _ _ _ _ q1 dX10_held_15 hH hc h hGσ hYσ hE
theorem ok_X10_held (hl0 : l.stackTraces = false) (hT : TyC cA tys) {Q : Sg → Int → Prop} {X : Sg → String → Prop} (σ : Sg) (th : Nat) (hth : kO σ th 10) (hG : RG σ) (hY : TY σ) (h : wp_X10_held th σ Q X) : Ok l D cA tys A yX10_held (.code yX10_held cX10_held 1 (some .int)) 0 0 [.ref th] σ (QcI σ Q) (QxC σ X) := by
  unfold wp_X10_held at h
  exact oc_I hl0 (by decide) (by exact Nat.le_of_ble_eq_true rfl) hT (fun p e R s m args below meth c K hQ hX hTh H locs ls hH hl hc => a_X10_held_0 K hQ hX hTh σ h hG hY (Ext.rfl' σ) hth H locs ls hH (lv_sub (l' := [(0, .ref th)]) hl [0] rfl) hc)
theorem dX1_init_0 : decode cX1_init 0 = .ok (.aload_n 0, 1) := by decide +kernel
theorem dX1_init_1 : decode cX1_init 1 = .ok (.invokespecial 3, 3) := by decide +kernel
theorem dX1_init_4 : decode cX1_init 4 = .ok (.return_, 1) := by decide +kernel
set_option maxRecDepth 20000 in
theorem a_X1_init_0 {Q : Sg → Unit → Prop} {X : Sg → String → Prop} {th : Nat} (K : MD l R p s m args c cX1_init 1 RX1 D cA tys A n0 s0 1 12 []) (hQ : CQV p l e R s m args below meth c cX1_init D cA A n0 s0 QM σi Q) (hX : CX p l e R s m args below meth c 1 D cA A n0 s0 QM σi X) (hTh : CT p l e R s m args below meth c cX1_init 1 D cA A n0 s0 QM σi RX1 X) (hin9 : yX1_init.name = "<init>" → meth.name = "<init>") : ∀ (σ : Sg), w_X1_init_0 th Q X σ → RG σ → TY σ → Ext σi σ → kO σ th 1 → JJ p l e R s m args below meth c 1 D cA A n0 s0 QM σ 0 [(0, .ref th)] [] := by
  intro σ h hGσ hYσ hE hth H locs ls hH hl hc
  have B := K.1
  have hl9 := K.2.2.2.2.2.2
  unfold w_X1_init_0 at h
  refine lv_aload_n B.1 B.2.1 dX1_init_0 rfl (lv_at hl 0 rfl) ?_
  refine h_oinit B hl wo_X1_3 (by have := K.2.2.2.1; omega) (by have := K.2.2.2.2.1; omega) dX1_init_1 ?_
  exact hQ _ _ _ _ _ dX1_init_4 hH hc h hGσ hYσ hE
theorem ok_X1_init (hl0 : l.stackTraces = false) (hT : TyC cA tys) {Q : Sg → Unit → Prop} {X : Sg → String → Prop} (σ : Sg) (th : Nat) (hth : kO σ th 1) (hG : RG σ) (hY : TY σ) (h : wp_X1_init th σ Q X) : Ok l D cA tys A yX1_init (.code yX1_init cX1_init 1 none) 1 12 [.ref th] σ (QcV σ Q) (QxC σ X) := by
  unfold wp_X1_init at h
  exact oc_V hl0 (by decide) (by exact Nat.le_of_ble_eq_true rfl) hT (fun p e R s m args below meth c K hQ hX hTh hin9 H locs ls hH hl hc => a_X1_init_0 K hQ hX hTh hin9 σ h hG hY (Ext.rfl' σ) hth H locs ls hH (lv_sub (l' := [(0, .ref th)]) hl [0] rfl) hc)
theorem dX10_init_0 : decode cX10_init 0 = .ok (.aload_n 0, 1) := by decide +kernel
theorem dX10_init_1 : decode cX10_init 1 = .ok (.invokespecial 3, 3) := by decide +kernel
theorem dX10_init_4 : decode cX10_init 4 = .ok (.aload_n 0, 1) := by decide +kernel
theorem dX10_init_5 : decode cX10_init 5 = .ok (.new 9, 3) := by decide +kernel
theorem dX10_init_8 : decode cX10_init 8 = .ok (.dup, 1) := by decide +kernel
theorem dX10_init_9 : decode cX10_init 9 = .ok (.invokespecial 11, 3) := by decide +kernel
theorem dX10_init_12 : decode cX10_init 12 = .ok (.putfield 12, 3) := by decide +kernel
theorem dX10_init_15 : decode cX10_init 15 = .ok (.aload_n 0, 1) := by decide +kernel
theorem dX10_init_16 : decode cX10_init 16 = .ok (.new 9, 3) := by decide +kernel
theorem dX10_init_19 : decode cX10_init 19 = .ok (.dup, 1) := by decide +kernel
theorem dX10_init_20 : decode cX10_init 20 = .ok (.invokespecial 11, 3) := by decide +kernel
theorem dX10_init_23 : decode cX10_init 23 = .ok (.putfield 18, 3) := by decide +kernel
theorem dX10_init_26 : decode cX10_init 26 = .ok (.aload_n 0, 1) := by decide +kernel
theorem dX10_init_27 : decode cX10_init 27 = .ok (.new 9, 3) := by decide +kernel
theorem dX10_init_30 : decode cX10_init 30 = .ok (.dup, 1) := by decide +kernel
theorem dX10_init_31 : decode cX10_init 31 = .ok (.invokespecial 11, 3) := by decide +kernel
theorem dX10_init_34 : decode cX10_init 34 = .ok (.putfield 21, 3) := by decide +kernel
theorem dX10_init_37 : decode cX10_init 37 = .ok (.return_, 1) := by decide +kernel
set_option maxRecDepth 20000 in
theorem a_X10_init_0 {Q : Sg → Unit → Prop} {X : Sg → String → Prop} {th : Nat} (K : MD l R p s m args c cX10_init 1 RX10 D cA tys A n0 s0 2 32 []) (hQ : CQV p l e R s m args below meth c cX10_init D cA A n0 s0 QM σi Q) (hX : CX p l e R s m args below meth c 1 D cA A n0 s0 QM σi X) (hTh : CT p l e R s m args below meth c cX10_init 1 D cA A n0 s0 QM σi RX10 X) (hin9 : yX10_init.name = "<init>" → meth.name = "<init>") : ∀ (σ : Sg), w_X10_init_0 th Q X σ → RG σ → TY σ → Ext σi σ → kO σ th 10 → JJ p l e R s m args below meth c 1 D cA A n0 s0 QM σ 0 [(0, .ref th)] [] := by
  intro σ h hGσ hYσ hE hth H locs ls hH hl hc
  have B := K.1
  have hl9 := K.2.2.2.2.2.2
  unfold w_X10_init_0 at h
  refine lv_aload_n B.1 B.2.1 dX10_init_0 rfl (lv_at hl 0 rfl) ?_
  refine h_oinit B hl wo_X10_3 (by have := K.2.2.2.1; omega) (by have := K.2.2.2.2.1; omega) dX10_init_1 ?_
  refine lv_aload_n B.1 B.2.1 dX10_init_4 rfl (lv_at hl 0 rfl) ?_
  obtain ⟨zq25, h⟩ := h
  refine c_new B hH hc K.2.2.1 (ci := 1) rfl (by decide) wu_X1 tyX1 tyX1_ok (by decide) wn_X10_9 zq25 dX10_init_5 (fun q25 H hq25 hH hc => ?_)
  obtain ⟨σ26, eσ26⟩ : ∃ z, z = new1 σ q25 1 3 := ⟨_, rfl⟩
  have h := h q25 hq25 σ26 eσ26
  rw [← eσ26] at hH hc ⊢
  have hGσ26 : RG σ26 := by rw [eσ26]; exact hGσ.new1
  have hYσ26 : TY σ26 := by rw [eσ26]; exact hYσ.new1 hq25
  have xσ26 : Ext σ σ26 := by rw [eσ26]; exact Ext.new1 hq25
  have kq25 : kO σ26 q25 1 := by rw [eσ26]; exact kO.new1
  refine lv_dup B.1 B.2.1 dX10_init_8 rfl ?_
  refine W.eq (g2 := F0 m 9 ls [.ref q25, .ref q25, .ref th]) (rfl) ?_
  refine c_IN B hH hl hc K.2.2.1 (As := []) (ok_X1_init hl9 K.2.1 σ26 q25 kq25 hGσ26 hYσ26 (nx_X1_init h)) (fun _ _ h9 => h9.1) (List.mem_of_getElem? (l := nmL) (i := 8) rfl) rfl wq_X1_init 0 hd_X1_init ⟨Nat.le_trans (Nat.le_of_ble_eq_true rfl) K.2.2.2.1, Nat.le_trans (Nat.le_of_ble_eq_true rfl) K.2.2.2.2.1⟩ rfl (rest := [.ref q25, .ref th]) rfl (Nat.le_of_ble_eq_true rfl) dX10_init_9 (fun σ27 w hq => ?_)
  obtain ⟨rfl, h, hGσ27, hYσ27, xσ27⟩ := hq
  have h := h xσ27
  intro H locs ls hH hl hc
  refine W.eq (g2 := F0 m 12 ls [.ref q25, .ref th]) (rfl) ?_
  try dsimp only at h
  obtain ⟨σ28, eσ28⟩ : ∃ z, z = pP σ27 th 2 (some q25) := ⟨_, rfl⟩
  have h := h σ28 eσ28
  refine W.eq (g2 := F0 m 12 ls [va_rf (some q25), .ref th]) (rfl) ?_
  refine f_putF B hH (hth.up (xσ26.trans xσ27)) (by decide) rfl wu_X10 tyX10 tyX10_ok nmX10 2 (by decide) wf_X10_12 rfl (r := (some q25)) (ty := .object "StreamHouse$Chain") rfl (hin9 rfl) rfl rfl rfl (nrO _ _) (ftO _ _) dX10_init_12 (fun H locs hH => ?_)
  have hH : Hd D cA A s (pP σ27 th 2 (some q25)) H locs := hH
  rw [← eσ28] at hH
  have hGσ28 : RG σ28 := by rw [eσ28]; exact hGσ27.pP
  have hYσ28 : TY σ28 := by rw [eσ28]; exact hYσ27.pP (hth.up (xσ26.trans xσ27)) (d := 1) (by decide) (tyS1 (kq25.up xσ27))
  have xσ28 : Ext σ27 σ28 := by rw [eσ28]; exact Ext.pP
  have hc : CB n0 s0 σ28 := by rw [eσ28]; exact hc
  rw [show gc σ27 = gc σ28 by rw [eσ28]; try rfl, show gs σ27 = gs σ28 by rw [eσ28]; try rfl]
  refine lv_aload_n B.1 B.2.1 dX10_init_15 rfl (lv_at hl 0 rfl) ?_
  obtain ⟨zq29, h⟩ := h
  refine c_new B hH hc K.2.2.1 (ci := 1) rfl (by decide) wu_X1 tyX1 tyX1_ok (by decide) wn_X10_9 zq29 dX10_init_16 (fun q29 H hq29 hH hc => ?_)
  obtain ⟨σ30, eσ30⟩ : ∃ z, z = new1 σ28 q29 1 3 := ⟨_, rfl⟩
  have h := h q29 hq29 σ30 eσ30
  rw [← eσ30] at hH hc ⊢
  have hGσ30 : RG σ30 := by rw [eσ30]; exact hGσ28.new1
  have hYσ30 : TY σ30 := by rw [eσ30]; exact hYσ28.new1 hq29
  have xσ30 : Ext σ28 σ30 := by rw [eσ30]; exact Ext.new1 hq29
  have kq29 : kO σ30 q29 1 := by rw [eσ30]; exact kO.new1
  refine lv_dup B.1 B.2.1 dX10_init_19 rfl ?_
  refine W.eq (g2 := F0 m 20 ls [.ref q29, .ref q29, .ref th]) (rfl) ?_
  refine c_IN B hH hl hc K.2.2.1 (As := []) (ok_X1_init hl9 K.2.1 σ30 q29 kq29 hGσ30 hYσ30 (nx_X1_init h)) (fun _ _ h9 => h9.1) (List.mem_of_getElem? (l := nmL) (i := 8) rfl) rfl wq_X1_init 0 hd_X1_init ⟨Nat.le_trans (Nat.le_of_ble_eq_true rfl) K.2.2.2.1, Nat.le_trans (Nat.le_of_ble_eq_true rfl) K.2.2.2.2.1⟩ rfl (rest := [.ref q29, .ref th]) rfl (Nat.le_of_ble_eq_true rfl) dX10_init_20 (fun σ31 w hq => ?_)
  obtain ⟨rfl, h, hGσ31, hYσ31, xσ31⟩ := hq
  have h := h xσ31
  intro H locs ls hH hl hc
  refine W.eq (g2 := F0 m 23 ls [.ref q29, .ref th]) (rfl) ?_
  try dsimp only at h
  obtain ⟨σ32, eσ32⟩ : ∃ z, z = pP σ31 th 3 (some q29) := ⟨_, rfl⟩
  have h := h σ32 eσ32
  refine W.eq (g2 := F0 m 23 ls [va_rf (some q29), .ref th]) (rfl) ?_
  refine f_putF B hH (hth.up (xσ26.trans (xσ27.trans (xσ28.trans (xσ30.trans xσ31))))) (by decide) rfl wu_X10 tyX10 tyX10_ok nmX10 3 (by decide) wf_X10_18 rfl (r := (some q29)) (ty := .object "StreamHouse$Chain") rfl (hin9 rfl) rfl rfl rfl (nrO _ _) (ftO _ _) dX10_init_23 (fun H locs hH => ?_)
  have hH : Hd D cA A s (pP σ31 th 3 (some q29)) H locs := hH
  rw [← eσ32] at hH
  have hGσ32 : RG σ32 := by rw [eσ32]; exact hGσ31.pP
  have hYσ32 : TY σ32 := by rw [eσ32]; exact hYσ31.pP (hth.up (xσ26.trans (xσ27.trans (xσ28.trans (xσ30.trans xσ31))))) (d := 1) (by decide) (tyS1 (kq29.up xσ31))
  have xσ32 : Ext σ31 σ32 := by rw [eσ32]; exact Ext.pP
  have hc : CB n0 s0 σ32 := by rw [eσ32]; exact hc
  rw [show gc σ31 = gc σ32 by rw [eσ32]; try rfl, show gs σ31 = gs σ32 by rw [eσ32]; try rfl]
  refine lv_aload_n B.1 B.2.1 dX10_init_26 rfl (lv_at hl 0 rfl) ?_
  obtain ⟨zq33, h⟩ := h
  refine c_new B hH hc K.2.2.1 (ci := 1) rfl (by decide) wu_X1 tyX1 tyX1_ok (by decide) wn_X10_9 zq33 dX10_init_27 (fun q33 H hq33 hH hc => ?_)
  obtain ⟨σ34, eσ34⟩ : ∃ z, z = new1 σ32 q33 1 3 := ⟨_, rfl⟩
  have h := h q33 hq33 σ34 eσ34
  rw [← eσ34] at hH hc ⊢
  have hGσ34 : RG σ34 := by rw [eσ34]; exact hGσ32.new1
  have hYσ34 : TY σ34 := by rw [eσ34]; exact hYσ32.new1 hq33
  have xσ34 : Ext σ32 σ34 := by rw [eσ34]; exact Ext.new1 hq33
  have kq33 : kO σ34 q33 1 := by rw [eσ34]; exact kO.new1
  refine lv_dup B.1 B.2.1 dX10_init_30 rfl ?_
  refine W.eq (g2 := F0 m 31 ls [.ref q33, .ref q33, .ref th]) (rfl) ?_
  refine c_IN B hH hl hc K.2.2.1 (As := []) (ok_X1_init hl9 K.2.1 σ34 q33 kq33 hGσ34 hYσ34 (nx_X1_init h)) (fun _ _ h9 => h9.1) (List.mem_of_getElem? (l := nmL) (i := 8) rfl) rfl wq_X1_init 0 hd_X1_init ⟨Nat.le_trans (Nat.le_of_ble_eq_true rfl) K.2.2.2.1, Nat.le_trans (Nat.le_of_ble_eq_true rfl) K.2.2.2.2.1⟩ rfl (rest := [.ref q33, .ref th]) rfl (Nat.le_of_ble_eq_true rfl) dX10_init_31 (fun σ35 w hq => ?_)
  obtain ⟨rfl, h, hGσ35, hYσ35, xσ35⟩ := hq
  have h := h xσ35
  intro H locs ls hH hl hc
  refine W.eq (g2 := F0 m 34 ls [.ref q33, .ref th]) (rfl) ?_
  try dsimp only at h
  obtain ⟨σ36, eσ36⟩ : ∃ z, z = pP σ35 th 4 (some q33) := ⟨_, rfl⟩
  have h := h σ36 eσ36
  refine W.eq (g2 := F0 m 34 ls [va_rf (some q33), .ref th]) (rfl) ?_
  refine f_putF B hH (hth.up (xσ26.trans (xσ27.trans (xσ28.trans (xσ30.trans (xσ31.trans (xσ32.trans (xσ34.trans xσ35)))))))) (by decide) rfl wu_X10 tyX10 tyX10_ok nmX10 4 (by decide) wf_X10_21 rfl (r := (some q33)) (ty := .object "StreamHouse$Chain") rfl (hin9 rfl) rfl rfl rfl (nrO _ _) (ftO _ _) dX10_init_34 (fun H locs hH => ?_)
  have hH : Hd D cA A s (pP σ35 th 4 (some q33)) H locs := hH
  rw [← eσ36] at hH
  have hGσ36 : RG σ36 := by rw [eσ36]; exact hGσ35.pP
  have hYσ36 : TY σ36 := by rw [eσ36]; exact hYσ35.pP (hth.up (xσ26.trans (xσ27.trans (xσ28.trans (xσ30.trans (xσ31.trans (xσ32.trans (xσ34.trans xσ35)))))))) (d := 1) (by decide) (tyS1 (kq33.up xσ35))
  have xσ36 : Ext σ35 σ36 := by rw [eσ36]; exact Ext.pP
  have hc : CB n0 s0 σ36 := by rw [eσ36]; exact hc
  rw [show gc σ35 = gc σ36 by rw [eσ36]; try rfl, show gs σ35 = gs σ36 by rw [eσ36]; try rfl]
  exact hQ _ _ _ _ _ dX10_init_37 hH hc h hGσ36 hYσ36 (((((((((hE.trans xσ26).trans xσ27).trans xσ28).trans xσ30).trans xσ31).trans xσ32).trans xσ34).trans xσ35).trans xσ36)
theorem ok_X10_init (hl0 : l.stackTraces = false) (hT : TyC cA tys) {Q : Sg → Unit → Prop} {X : Sg → String → Prop} (σ : Sg) (th : Nat) (hth : kO σ th 10) (hG : RG σ) (hY : TY σ) (h : wp_X10_init th σ Q X) : Ok l D cA tys A yX10_init (.code yX10_init cX10_init 1 none) 2 32 [.ref th] σ (QcV σ Q) (QxC σ X) := by
  unfold wp_X10_init at h
  exact oc_V hl0 (by decide) (by exact Nat.le_of_ble_eq_true rfl) hT (fun p e R s m args below meth c K hQ hX hTh hin9 H locs ls hH hl hc => a_X10_init_0 K hQ hX hTh hin9 σ h hG hY (Ext.rfl' σ) hth H locs ls hH (lv_sub (l' := [(0, .ref th)]) hl [0] rfl) hc)
theorem dX10_lay_0 : decode cX10_lay 0 = .ok (.aload_n 0, 1) := by decide +kernel
theorem dX10_lay_1 : decode cX10_lay 1 = .ok (.iload_n 1, 1) := by decide +kernel
theorem dX10_lay_2 : decode cX10_lay 2 = .ok (.putfield 24, 3) := by decide +kernel
theorem dX10_lay_5 : decode cX10_lay 5 = .ok (.aload_n 0, 1) := by decide +kernel
theorem dX10_lay_6 : decode cX10_lay 6 = .ok (.iload_n 2, 1) := by decide +kernel
theorem dX10_lay_7 : decode cX10_lay 7 = .ok (.putfield 28, 3) := by decide +kernel
theorem dX10_lay_10 : decode cX10_lay 10 = .ok (.aload_n 0, 1) := by decide +kernel
theorem dX10_lay_11 : decode cX10_lay 11 = .ok (.iconst 0, 1) := by decide +kernel
theorem dX10_lay_12 : decode cX10_lay 12 = .ok (.putfield 31, 3) := by decide +kernel
theorem dX10_lay_15 : decode cX10_lay 15 = .ok (.aload_n 0, 1) := by decide +kernel
theorem dX10_lay_16 : decode cX10_lay 16 = .ok (.iconst 0, 1) := by decide +kernel
theorem dX10_lay_17 : decode cX10_lay 17 = .ok (.putfield 34, 3) := by decide +kernel
theorem dX10_lay_20 : decode cX10_lay 20 = .ok (.aload_n 0, 1) := by decide +kernel
theorem dX10_lay_21 : decode cX10_lay 21 = .ok (.ldc2_w 37, 3) := by decide +kernel
theorem dX10_lay_24 : decode cX10_lay 24 = .ok (.putfield 39, 3) := by decide +kernel
theorem dX10_lay_27 : decode cX10_lay 27 = .ok (.aload_n 0, 1) := by decide +kernel
theorem dX10_lay_28 : decode cX10_lay 28 = .ok (.iconst 0, 1) := by decide +kernel
theorem dX10_lay_29 : decode cX10_lay 29 = .ok (.putfield 43, 3) := by decide +kernel
theorem dX10_lay_32 : decode cX10_lay 32 = .ok (.aload_n 0, 1) := by decide +kernel
theorem dX10_lay_33 : decode cX10_lay 33 = .ok (.iconst 0, 1) := by decide +kernel
theorem dX10_lay_34 : decode cX10_lay 34 = .ok (.putfield 46, 3) := by decide +kernel
theorem dX10_lay_37 : decode cX10_lay 37 = .ok (.aload_n 0, 1) := by decide +kernel
theorem dX10_lay_38 : decode cX10_lay 38 = .ok (.iconst 0, 1) := by decide +kernel
theorem dX10_lay_39 : decode cX10_lay 39 = .ok (.putfield 49, 3) := by decide +kernel
theorem dX10_lay_42 : decode cX10_lay 42 = .ok (.aload_n 0, 1) := by decide +kernel
theorem dX10_lay_43 : decode cX10_lay 43 = .ok (.iconst 0, 1) := by decide +kernel
theorem dX10_lay_44 : decode cX10_lay 44 = .ok (.putfield 53, 3) := by decide +kernel
theorem dX10_lay_47 : decode cX10_lay 47 = .ok (.aload_n 0, 1) := by decide +kernel
theorem dX10_lay_48 : decode cX10_lay 48 = .ok (.iconst 0, 1) := by decide +kernel
theorem dX10_lay_49 : decode cX10_lay 49 = .ok (.putfield 56, 3) := by decide +kernel
theorem dX10_lay_52 : decode cX10_lay 52 = .ok (.aload_n 0, 1) := by decide +kernel
theorem dX10_lay_53 : decode cX10_lay 53 = .ok (.iconst 0, 1) := by decide +kernel
theorem dX10_lay_54 : decode cX10_lay 54 = .ok (.putfield 59, 3) := by decide +kernel
theorem dX10_lay_57 : decode cX10_lay 57 = .ok (.aload_n 0, 1) := by decide +kernel
theorem dX10_lay_58 : decode cX10_lay 58 = .ok (.iconst (-1), 1) := by decide +kernel
theorem dX10_lay_59 : decode cX10_lay 59 = .ok (.putfield 62, 3) := by decide +kernel
theorem dX10_lay_62 : decode cX10_lay 62 = .ok (.aload_n 0, 1) := by decide +kernel
theorem dX10_lay_63 : decode cX10_lay 63 = .ok (.iconst (-1), 1) := by decide +kernel
theorem dX10_lay_64 : decode cX10_lay 64 = .ok (.putfield 65, 3) := by decide +kernel
theorem dX10_lay_67 : decode cX10_lay 67 = .ok (.return_, 1) := by decide +kernel
set_option maxRecDepth 20000 in
theorem a_X10_lay_0 {Q : Sg → Unit → Prop} {X : Sg → String → Prop} {th : Nat} (K : MD l R p s m args c cX10_lay 3 RX10 D cA tys A n0 s0 0 0 []) (hQ : CQV p l e R s m args below meth c cX10_lay D cA A n0 s0 QM σi Q) (hX : CX p l e R s m args below meth c 3 D cA A n0 s0 QM σi X) (hTh : CT p l e R s m args below meth c cX10_lay 3 D cA A n0 s0 QM σi RX10 X) : ∀ (σ : Sg) (v1 : Int) (v2 : Int) (g1 : rng v1) (g2 : rng v2), w_X10_lay_0 th Q X σ v1 v2 → RG σ → TY σ → Ext σi σ → kO σ th 10 → JJ p l e R s m args below meth c 3 D cA A n0 s0 QM σ 0 [(0, .ref th), (1, .int (i32 v1)), (2, .int (i32 v2))] [] := by
  intro σ v1 v2 g1 g2 h hGσ hYσ hE hth H locs ls hH hl hc
  have B := K.1
  have hl9 := K.2.2.2.2.2.2
  unfold w_X10_lay_0 at h
  refine lv_aload_n B.1 B.2.1 dX10_lay_0 rfl (lv_at hl 0 rfl) ?_
  refine lv_iload_n B.1 B.2.1 dX10_lay_1 rfl (lv_at hl 1 rfl) ?_
  obtain ⟨σ27, eσ27⟩ : ∃ z, z = pI σ th 0 v1 := ⟨_, rfl⟩
  have h := h σ27 eσ27
  refine f_puti B hH hth (by decide) rfl wu_X10 tyX10 tyX10_ok nmX10 0 (by decide) wf_X10_24 rfl (ty := .int) rfl rfl rfl rfl rfl dX10_lay_2 (fun H locs hH => ?_)
  have hH : Hd D cA A s (pI σ th 0 v1) H locs := hH
  rw [← eσ27] at hH
  have hGσ27 : RG σ27 := by rw [eσ27]; exact hGσ.pI g1
  have hYσ27 : TY σ27 := by rw [eσ27]; exact hYσ.pI
  have xσ27 : Ext σ σ27 := by rw [eσ27]; exact Ext.pI
  have hc : CB n0 s0 σ27 := by rw [eσ27]; exact hc
  rw [show gc σ = gc σ27 by rw [eσ27]; try rfl, show gs σ = gs σ27 by rw [eσ27]; try rfl]
  refine lv_aload_n B.1 B.2.1 dX10_lay_5 rfl (lv_at hl 0 rfl) ?_
  refine lv_iload_n B.1 B.2.1 dX10_lay_6 rfl (lv_at hl 2 rfl) ?_
  obtain ⟨σ28, eσ28⟩ : ∃ z, z = pI σ27 th 1 v2 := ⟨_, rfl⟩
  have h := h σ28 eσ28
  refine f_puti B hH (hth.up xσ27) (by decide) rfl wu_X10 tyX10 tyX10_ok nmX10 1 (by decide) wf_X10_28 rfl (ty := .int) rfl rfl rfl rfl rfl dX10_lay_7 (fun H locs hH => ?_)
  have hH : Hd D cA A s (pI σ27 th 1 v2) H locs := hH
  rw [← eσ28] at hH
  have hGσ28 : RG σ28 := by rw [eσ28]; exact hGσ27.pI g2
  have hYσ28 : TY σ28 := by rw [eσ28]; exact hYσ27.pI
  have xσ28 : Ext σ27 σ28 := by rw [eσ28]; exact Ext.pI
  have hc : CB n0 s0 σ28 := by rw [eσ28]; exact hc
  rw [show gc σ27 = gc σ28 by rw [eσ28]; try rfl, show gs σ27 = gs σ28 by rw [eσ28]; try rfl]
  refine lv_aload_n B.1 B.2.1 dX10_lay_10 rfl (lv_at hl 0 rfl) ?_
  refine lv_iconst (v := i32 0) B.1 B.2.1 dX10_lay_11 (by decide) ?_
  obtain ⟨σ29, eσ29⟩ : ∃ z, z = pI σ28 th 5 0 := ⟨_, rfl⟩
  have h := h σ29 eσ29
  refine f_puti B hH (hth.up (xσ27.trans xσ28)) (by decide) rfl wu_X10 tyX10 tyX10_ok nmX10 5 (by decide) wf_X10_31 rfl (ty := .int) rfl rfl rfl rfl rfl dX10_lay_12 (fun H locs hH => ?_)
  have hH : Hd D cA A s (pI σ28 th 5 0) H locs := hH
  rw [← eσ29] at hH
  have hGσ29 : RG σ29 := by rw [eσ29]; exact hGσ28.pI (by unfold rng; omega)
  have hYσ29 : TY σ29 := by rw [eσ29]; exact hYσ28.pI
  have xσ29 : Ext σ28 σ29 := by rw [eσ29]; exact Ext.pI
  have hc : CB n0 s0 σ29 := by rw [eσ29]; exact hc
  rw [show gc σ28 = gc σ29 by rw [eσ29]; try rfl, show gs σ28 = gs σ29 by rw [eσ29]; try rfl]
  refine lv_aload_n B.1 B.2.1 dX10_lay_15 rfl (lv_at hl 0 rfl) ?_
  refine lv_iconst (v := i32 0) B.1 B.2.1 dX10_lay_16 (by decide) ?_
  obtain ⟨σ30, eσ30⟩ : ∃ z, z = pI σ29 th 6 0 := ⟨_, rfl⟩
  have h := h σ30 eσ30
  refine f_puti B hH (hth.up (xσ27.trans (xσ28.trans xσ29))) (by decide) rfl wu_X10 tyX10 tyX10_ok nmX10 6 (by decide) wf_X10_34 rfl (ty := .int) rfl rfl rfl rfl rfl dX10_lay_17 (fun H locs hH => ?_)
  have hH : Hd D cA A s (pI σ29 th 6 0) H locs := hH
  rw [← eσ30] at hH
  have hGσ30 : RG σ30 := by rw [eσ30]; exact hGσ29.pI (by unfold rng; omega)
  have hYσ30 : TY σ30 := by rw [eσ30]; exact hYσ29.pI
  have xσ30 : Ext σ29 σ30 := by rw [eσ30]; exact Ext.pI
  have hc : CB n0 s0 σ30 := by rw [eσ30]; exact hc
  rw [show gc σ29 = gc σ30 by rw [eσ30]; try rfl, show gs σ29 = gs σ30 by rw [eσ30]; try rfl]
  refine lv_aload_n B.1 B.2.1 dX10_lay_20 rfl (lv_at hl 0 rfl) ?_
  refine lv_ldc2 B.1 B.2.1 B.2.2.1 (B.2.2.2.1 _ (wk_X10_37)) dX10_lay_21 ?_
  obtain ⟨σ31, eσ31⟩ : ∃ z, z = pJ σ30 th 7 (-1) := ⟨_, rfl⟩
  have h := h σ31 eσ31
  refine f_putl B hH (hth.up (xσ27.trans (xσ28.trans (xσ29.trans xσ30)))) (by decide) rfl wu_X10 tyX10 tyX10_ok nmX10 7 (by decide) wf_X10_39 rfl (ty := .long) rfl rfl rfl rfl rfl dX10_lay_24 (fun H locs hH => ?_)
  have hH : Hd D cA A s (pJ σ30 th 7 (-1)) H locs := hH
  rw [← eσ31] at hH
  have hGσ31 : RG σ31 := by rw [eσ31]; exact hGσ30.pJ
  have hYσ31 : TY σ31 := by rw [eσ31]; exact hYσ30.pJ
  have xσ31 : Ext σ30 σ31 := by rw [eσ31]; exact Ext.pJ
  have hc : CB n0 s0 σ31 := by rw [eσ31]; exact hc
  rw [show gc σ30 = gc σ31 by rw [eσ31]; try rfl, show gs σ30 = gs σ31 by rw [eσ31]; try rfl]
  refine lv_aload_n B.1 B.2.1 dX10_lay_27 rfl (lv_at hl 0 rfl) ?_
  refine lv_iconst (v := i32 0) B.1 B.2.1 dX10_lay_28 (by decide) ?_
  obtain ⟨σ32, eσ32⟩ : ∃ z, z = pI σ31 th 8 0 := ⟨_, rfl⟩
  have h := h σ32 eσ32
  refine f_puti B hH (hth.up (xσ27.trans (xσ28.trans (xσ29.trans (xσ30.trans xσ31))))) (by decide) rfl wu_X10 tyX10 tyX10_ok nmX10 8 (by decide) wf_X10_43 rfl (ty := .int) rfl rfl rfl rfl rfl dX10_lay_29 (fun H locs hH => ?_)
  have hH : Hd D cA A s (pI σ31 th 8 0) H locs := hH
  rw [← eσ32] at hH
  have hGσ32 : RG σ32 := by rw [eσ32]; exact hGσ31.pI (by unfold rng; omega)
  have hYσ32 : TY σ32 := by rw [eσ32]; exact hYσ31.pI
  have xσ32 : Ext σ31 σ32 := by rw [eσ32]; exact Ext.pI
  have hc : CB n0 s0 σ32 := by rw [eσ32]; exact hc
  rw [show gc σ31 = gc σ32 by rw [eσ32]; try rfl, show gs σ31 = gs σ32 by rw [eσ32]; try rfl]
  refine lv_aload_n B.1 B.2.1 dX10_lay_32 rfl (lv_at hl 0 rfl) ?_
  refine lv_iconst (v := i32 0) B.1 B.2.1 dX10_lay_33 (by decide) ?_
  obtain ⟨σ33, eσ33⟩ : ∃ z, z = pI σ32 th 9 0 := ⟨_, rfl⟩
  have h := h σ33 eσ33
  refine f_puti B hH (hth.up (xσ27.trans (xσ28.trans (xσ29.trans (xσ30.trans (xσ31.trans xσ32)))))) (by decide) rfl wu_X10 tyX10 tyX10_ok nmX10 9 (by decide) wf_X10_46 rfl (ty := .int) rfl rfl rfl rfl rfl dX10_lay_34 (fun H locs hH => ?_)
  have hH : Hd D cA A s (pI σ32 th 9 0) H locs := hH
  rw [← eσ33] at hH
  have hGσ33 : RG σ33 := by rw [eσ33]; exact hGσ32.pI (by unfold rng; omega)
  have hYσ33 : TY σ33 := by rw [eσ33]; exact hYσ32.pI
  have xσ33 : Ext σ32 σ33 := by rw [eσ33]; exact Ext.pI
  have hc : CB n0 s0 σ33 := by rw [eσ33]; exact hc
  rw [show gc σ32 = gc σ33 by rw [eσ33]; try rfl, show gs σ32 = gs σ33 by rw [eσ33]; try rfl]
  refine lv_aload_n B.1 B.2.1 dX10_lay_37 rfl (lv_at hl 0 rfl) ?_
  refine lv_iconst (v := i32 0) B.1 B.2.1 dX10_lay_38 (by decide) ?_
  obtain ⟨σ34, eσ34⟩ : ∃ z, z = pI σ33 th 10 0 := ⟨_, rfl⟩
  have h := h σ34 eσ34
  refine f_puti B hH (hth.up (xσ27.trans (xσ28.trans (xσ29.trans (xσ30.trans (xσ31.trans (xσ32.trans xσ33))))))) (by decide) rfl wu_X10 tyX10 tyX10_ok nmX10 10 (by decide) wf_X10_49 rfl (ty := .boolean) rfl rfl rfl rfl rfl dX10_lay_39 (fun H locs hH => ?_)
  have hH : Hd D cA A s (pI σ33 th 10 0) H locs := hH
  rw [← eσ34] at hH
  have hGσ34 : RG σ34 := by rw [eσ34]; exact hGσ33.pI (by unfold rng; omega)
  have hYσ34 : TY σ34 := by rw [eσ34]; exact hYσ33.pI
  have xσ34 : Ext σ33 σ34 := by rw [eσ34]; exact Ext.pI
  have hc : CB n0 s0 σ34 := by rw [eσ34]; exact hc
  rw [show gc σ33 = gc σ34 by rw [eσ34]; try rfl, show gs σ33 = gs σ34 by rw [eσ34]; try rfl]
  refine lv_aload_n B.1 B.2.1 dX10_lay_42 rfl (lv_at hl 0 rfl) ?_
  refine lv_iconst (v := i32 0) B.1 B.2.1 dX10_lay_43 (by decide) ?_
  obtain ⟨σ35, eσ35⟩ : ∃ z, z = pI σ34 th 11 0 := ⟨_, rfl⟩
  have h := h σ35 eσ35
  refine f_puti B hH (hth.up (xσ27.trans (xσ28.trans (xσ29.trans (xσ30.trans (xσ31.trans (xσ32.trans (xσ33.trans xσ34)))))))) (by decide) rfl wu_X10 tyX10 tyX10_ok nmX10 11 (by decide) wf_X10_53 rfl (ty := .int) rfl rfl rfl rfl rfl dX10_lay_44 (fun H locs hH => ?_)
  have hH : Hd D cA A s (pI σ34 th 11 0) H locs := hH
  rw [← eσ35] at hH
  have hGσ35 : RG σ35 := by rw [eσ35]; exact hGσ34.pI (by unfold rng; omega)
  have hYσ35 : TY σ35 := by rw [eσ35]; exact hYσ34.pI
  have xσ35 : Ext σ34 σ35 := by rw [eσ35]; exact Ext.pI
  have hc : CB n0 s0 σ35 := by rw [eσ35]; exact hc
  rw [show gc σ34 = gc σ35 by rw [eσ35]; try rfl, show gs σ34 = gs σ35 by rw [eσ35]; try rfl]
  refine lv_aload_n B.1 B.2.1 dX10_lay_47 rfl (lv_at hl 0 rfl) ?_
  refine lv_iconst (v := i32 0) B.1 B.2.1 dX10_lay_48 (by decide) ?_
  obtain ⟨σ36, eσ36⟩ : ∃ z, z = pI σ35 th 12 0 := ⟨_, rfl⟩
  have h := h σ36 eσ36
  refine f_puti B hH (hth.up (xσ27.trans (xσ28.trans (xσ29.trans (xσ30.trans (xσ31.trans (xσ32.trans (xσ33.trans (xσ34.trans xσ35))))))))) (by decide) rfl wu_X10 tyX10 tyX10_ok nmX10 12 (by decide) wf_X10_56 rfl (ty := .int) rfl rfl rfl rfl rfl dX10_lay_49 (fun H locs hH => ?_)
  have hH : Hd D cA A s (pI σ35 th 12 0) H locs := hH
  rw [← eσ36] at hH
  have hGσ36 : RG σ36 := by rw [eσ36]; exact hGσ35.pI (by unfold rng; omega)
  have hYσ36 : TY σ36 := by rw [eσ36]; exact hYσ35.pI
  have xσ36 : Ext σ35 σ36 := by rw [eσ36]; exact Ext.pI
  have hc : CB n0 s0 σ36 := by rw [eσ36]; exact hc
  rw [show gc σ35 = gc σ36 by rw [eσ36]; try rfl, show gs σ35 = gs σ36 by rw [eσ36]; try rfl]
  refine lv_aload_n B.1 B.2.1 dX10_lay_52 rfl (lv_at hl 0 rfl) ?_
  refine lv_iconst (v := i32 0) B.1 B.2.1 dX10_lay_53 (by decide) ?_
  obtain ⟨σ37, eσ37⟩ : ∃ z, z = pI σ36 th 13 0 := ⟨_, rfl⟩
  have h := h σ37 eσ37
  refine f_puti B hH (hth.up (xσ27.trans (xσ28.trans (xσ29.trans (xσ30.trans (xσ31.trans (xσ32.trans (xσ33.trans (xσ34.trans (xσ35.trans xσ36)))))))))) (by decide) rfl wu_X10 tyX10 tyX10_ok nmX10 13 (by decide) wf_X10_59 rfl (ty := .int) rfl rfl rfl rfl rfl dX10_lay_54 (fun H locs hH => ?_)
  have hH : Hd D cA A s (pI σ36 th 13 0) H locs := hH
  rw [← eσ37] at hH
  have hGσ37 : RG σ37 := by rw [eσ37]; exact hGσ36.pI (by unfold rng; omega)
  have hYσ37 : TY σ37 := by rw [eσ37]; exact hYσ36.pI
  have xσ37 : Ext σ36 σ37 := by rw [eσ37]; exact Ext.pI
  have hc : CB n0 s0 σ37 := by rw [eσ37]; exact hc
  rw [show gc σ36 = gc σ37 by rw [eσ37]; try rfl, show gs σ36 = gs σ37 by rw [eσ37]; try rfl]
  refine lv_aload_n B.1 B.2.1 dX10_lay_57 rfl (lv_at hl 0 rfl) ?_
  refine lv_iconst (v := i32 (-1)) B.1 B.2.1 dX10_lay_58 (by decide) ?_
  obtain ⟨σ38, eσ38⟩ : ∃ z, z = pI σ37 th 14 (-1) := ⟨_, rfl⟩
  have h := h σ38 eσ38
  refine f_puti B hH (hth.up (xσ27.trans (xσ28.trans (xσ29.trans (xσ30.trans (xσ31.trans (xσ32.trans (xσ33.trans (xσ34.trans (xσ35.trans (xσ36.trans xσ37))))))))))) (by decide) rfl wu_X10 tyX10 tyX10_ok nmX10 14 (by decide) wf_X10_62 rfl (ty := .int) rfl rfl rfl rfl rfl dX10_lay_59 (fun H locs hH => ?_)
  have hH : Hd D cA A s (pI σ37 th 14 (-1)) H locs := hH
  rw [← eσ38] at hH
  have hGσ38 : RG σ38 := by rw [eσ38]; exact hGσ37.pI (by unfold rng; omega)
  have hYσ38 : TY σ38 := by rw [eσ38]; exact hYσ37.pI
  have xσ38 : Ext σ37 σ38 := by rw [eσ38]; exact Ext.pI
  have hc : CB n0 s0 σ38 := by rw [eσ38]; exact hc
  rw [show gc σ37 = gc σ38 by rw [eσ38]; try rfl, show gs σ37 = gs σ38 by rw [eσ38]; try rfl]
  refine lv_aload_n B.1 B.2.1 dX10_lay_62 rfl (lv_at hl 0 rfl) ?_
  refine lv_iconst (v := i32 (-1)) B.1 B.2.1 dX10_lay_63 (by decide) ?_
  obtain ⟨σ39, eσ39⟩ : ∃ z, z = pI σ38 th 15 (-1) := ⟨_, rfl⟩
  have h := h σ39 eσ39
  refine f_puti B hH (hth.up (xσ27.trans (xσ28.trans (xσ29.trans (xσ30.trans (xσ31.trans (xσ32.trans (xσ33.trans (xσ34.trans (xσ35.trans (xσ36.trans (xσ37.trans xσ38)))))))))))) (by decide) rfl wu_X10 tyX10 tyX10_ok nmX10 15 (by decide) wf_X10_65 rfl (ty := .int) rfl rfl rfl rfl rfl dX10_lay_64 (fun H locs hH => ?_)
  have hH : Hd D cA A s (pI σ38 th 15 (-1)) H locs := hH
  rw [← eσ39] at hH
  have hGσ39 : RG σ39 := by rw [eσ39]; exact hGσ38.pI (by unfold rng; omega)
  have hYσ39 : TY σ39 := by rw [eσ39]; exact hYσ38.pI
  have xσ39 : Ext σ38 σ39 := by rw [eσ39]; exact Ext.pI
  have hc : CB n0 s0 σ39 := by rw [eσ39]; exact hc
  rw [show gc σ38 = gc σ39 by rw [eσ39]; try rfl, show gs σ38 = gs σ39 by rw [eσ39]; try rfl]
  exact hQ _ _ _ _ _ dX10_lay_67 hH hc h hGσ39 hYσ39 (((((((((((((hE.trans xσ27).trans xσ28).trans xσ29).trans xσ30).trans xσ31).trans xσ32).trans xσ33).trans xσ34).trans xσ35).trans xσ36).trans xσ37).trans xσ38).trans xσ39)
theorem ok_X10_lay (hl0 : l.stackTraces = false) (hT : TyC cA tys) {Q : Sg → Unit → Prop} {X : Sg → String → Prop} (σ : Sg) (th : Nat) (v1 : Int) (v2 : Int) (g1 : rng v1) (g2 : rng v2) (hth : kO σ th 10) (hG : RG σ) (hY : TY σ) (h : wp_X10_lay th v1 v2 σ Q X) : Ok l D cA tys A yX10_lay (.code yX10_lay cX10_lay 3 none) 0 0 [.ref th, .int (i32 v1), .int (i32 v2)] σ (QcV σ Q) (QxC σ X) := by
  unfold wp_X10_lay at h
  exact oc_V hl0 (by decide) (by exact Nat.le_of_ble_eq_true rfl) hT (fun p e R s m args below meth c K hQ hX hTh hin9 H locs ls hH hl hc => a_X10_lay_0 K hQ hX hTh σ v1 v2 g1 g2 h hG hY (Ext.rfl' σ) hth H locs ls hH (lv_sub (l' := [(0, .ref th), (1, .int (i32 v1)), (2, .int (i32 v2))]) hl [0, 1, 2] rfl) hc)
theorem dX8_release_0 : decode cX8_release 0 = .ok (.aload_n 1, 1) := by decide +kernel
theorem dX8_release_1 : decode cX8_release 1 = .ok (.aload_n 0, 1) := by decide +kernel
theorem dX8_release_2 : decode cX8_release 2 = .ok (.getfield 15, 3) := by decide +kernel
theorem dX8_release_5 : decode cX8_release 5 = .ok (.putfield 22, 3) := by decide +kernel
theorem dX8_release_8 : decode cX8_release 8 = .ok (.aload_n 0, 1) := by decide +kernel
theorem dX8_release_9 : decode cX8_release 9 = .ok (.aload_n 1, 1) := by decide +kernel
theorem dX8_release_10 : decode cX8_release 10 = .ok (.putfield 15, 3) := by decide +kernel
theorem dX8_release_13 : decode cX8_release 13 = .ok (.return_, 1) := by decide +kernel
set_option maxRecDepth 20000 in
theorem a_X8_release_0 {Q : Sg → Unit → Prop} {X : Sg → String → Prop} {th : Nat} (K : MD l R p s m args c cX8_release 2 RX8 D cA tys A n0 s0 0 0 []) (hQ : CQV p l e R s m args below meth c cX8_release D cA A n0 s0 QM σi Q) (hX : CX p l e R s m args below meth c 2 D cA A n0 s0 QM σi X) (hTh : CT p l e R s m args below meth c cX8_release 2 D cA A n0 s0 QM σi RX8 X) : ∀ (σ : Sg) (v1 : Option Nat) (g1 : tyV σ 0 v1), w_X8_release_0 th Q X σ v1 → RG σ → TY σ → Ext σi σ → kO σ th 8 → JJ p l e R s m args below meth c 2 D cA A n0 s0 QM σ 0 [(0, .ref th), (1, va_rf v1)] [] := by
  intro σ v1 g1 h hGσ hYσ hE hth H locs ls hH hl hc
  have B := K.1
  have hl9 := K.2.2.2.2.2.2
  unfold w_X8_release_0 at h
  refine lv_aload_nQ B.1 B.2.1 dX8_release_0 rfl (lv_at hl 1 rfl) ?_
  refine lv_aload_n B.1 B.2.1 dX8_release_1 rfl (lv_at hl 0 rfl) ?_
  refine f_getp B hH hth (by decide) rfl wu_X8 0 (by decide) wf_X8_15 rfl rfl dX8_release_2 ?_
  obtain ⟨a7, ea7, h⟩ := h
  have ka7 : kO σ a7 0 := g1 a7 ea7
  have h := h ka7
  obtain ⟨σ8, eσ8⟩ : ∃ z, z = pP σ a7 1 (gP σ th 0) := ⟨_, rfl⟩
  have h := h σ8 eσ8
  refine W.eq (g2 := F0 m 5 ls [va_rf (gP σ th 0), .ref a7]) (by rw [ea7]; rfl) ?_
  refine f_putp B hH ka7 (by decide) rfl wu_X0 tyX0 tyX0_ok nmX0 1 (by decide) wf_X8_22 rfl (r := (gP σ th 0)) (ty := .object "StreamHouse$Cell") rfl rfl rfl (nrO _ _) (ftO _ _) dX8_release_5 (fun H locs hH => ?_)
  have hH : Hd D cA A s (pP σ a7 1 (gP σ th 0)) H locs := hH
  rw [← eσ8] at hH
  have hGσ8 : RG σ8 := by rw [eσ8]; exact hGσ.pP
  have hYσ8 : TY σ8 := by rw [eσ8]; exact hYσ.pP ka7 (d := 0) (by decide) (hYσ.get hth (by decide))
  have xσ8 : Ext σ σ8 := by rw [eσ8]; exact Ext.pP
  have hc : CB n0 s0 σ8 := by rw [eσ8]; exact hc
  rw [show gc σ = gc σ8 by rw [eσ8]; try rfl, show gs σ = gs σ8 by rw [eσ8]; try rfl]
  refine lv_aload_n B.1 B.2.1 dX8_release_8 rfl (lv_at hl 0 rfl) ?_
  refine lv_aload_nQ B.1 B.2.1 dX8_release_9 rfl (lv_at hl 1 rfl) ?_
  obtain ⟨σ9, eσ9⟩ : ∃ z, z = pP σ8 th 0 v1 := ⟨_, rfl⟩
  have h := h σ9 eσ9
  refine W.eq (g2 := F0 m 10 ls [va_rf v1, .ref th]) (rfl) ?_
  refine f_putp B hH (hth.up xσ8) (by decide) rfl wu_X8 tyX8 tyX8_ok nmX8 0 (by decide) wf_X8_15 rfl (r := v1) (ty := .object "StreamHouse$Cell") rfl rfl rfl (nrO _ _) (ftO _ _) dX8_release_10 (fun H locs hH => ?_)
  have hH : Hd D cA A s (pP σ8 th 0 v1) H locs := hH
  rw [← eσ9] at hH
  have hGσ9 : RG σ9 := by rw [eσ9]; exact hGσ8.pP
  have hYσ9 : TY σ9 := by rw [eσ9]; exact hYσ8.pP (hth.up xσ8) (d := 0) (by decide) (g1.up xσ8)
  have xσ9 : Ext σ8 σ9 := by rw [eσ9]; exact Ext.pP
  have hc : CB n0 s0 σ9 := by rw [eσ9]; exact hc
  rw [show gc σ8 = gc σ9 by rw [eσ9]; try rfl, show gs σ8 = gs σ9 by rw [eσ9]; try rfl]
  exact hQ _ _ _ _ _ dX8_release_13 hH hc h hGσ9 hYσ9 ((hE.trans xσ8).trans xσ9)
theorem ok_X8_release (hl0 : l.stackTraces = false) (hT : TyC cA tys) {Q : Sg → Unit → Prop} {X : Sg → String → Prop} (σ : Sg) (th : Nat) (v1 : Option Nat) (g1 : tyV σ 0 v1) (hth : kO σ th 8) (hG : RG σ) (hY : TY σ) (h : wp_X8_release th v1 σ Q X) : Ok l D cA tys A yX8_release (.code yX8_release cX8_release 2 none) 0 0 [.ref th, va_rf v1] σ (QcV σ Q) (QxC σ X) := by
  unfold wp_X8_release at h
  exact oc_V hl0 (by decide) (by cases v1 <;> exact Nat.le_of_ble_eq_true rfl) hT (fun p e R s m args below meth c K hQ hX hTh hin9 H locs ls hH hl hc => a_X8_release_0 K hQ hX hTh σ v1 g1 h hG hY (Ext.rfl' σ) hth H locs ls hH (lv_sub (l' := [(0, .ref th), (1, va_rf v1)]) hl [0, 1] (by cases v1 <;> rfl)) hc)
theorem dX11_putAside_0 : decode cX11_putAside 0 = .ok (.aload_n 1, 1) := by decide +kernel
theorem dX11_putAside_1 : decode cX11_putAside 1 = .ok (.dup, 1) := by decide +kernel
theorem dX11_putAside_2 : decode cX11_putAside 2 = .ok (.getfield 171, 3) := by decide +kernel
theorem dX11_putAside_5 : decode cX11_putAside 5 = .ok (.iconst 1, 1) := by decide +kernel
theorem dX11_putAside_6 : decode cX11_putAside 6 = .ok (.iadd, 1) := by decide +kernel
theorem dX11_putAside_7 : decode cX11_putAside 7 = .ok (.putfield 171, 3) := by decide +kernel
theorem dX11_putAside_10 : decode cX11_putAside 10 = .ok (.aload_n 0, 1) := by decide +kernel
theorem dX11_putAside_11 : decode cX11_putAside 11 = .ok (.getfield 22, 3) := by decide +kernel
theorem dX11_putAside_14 : decode cX11_putAside 14 = .ok (.aload_n 2, 1) := by decide +kernel
theorem dX11_putAside_15 : decode cX11_putAside 15 = .ok (.invokevirtual 174, 3) := by decide +kernel
theorem dX11_putAside_18 : decode cX11_putAside 18 = .ok (.return_, 1) := by decide +kernel
set_option maxRecDepth 20000 in
theorem a_X11_putAside_0 {Q : Sg → Unit → Prop} {X : Sg → String → Prop} {th : Nat} (K : MD l R p s m args c cX11_putAside 3 RX11 D cA tys A n0 s0 1 21 []) (hQ : CQV p l e R s m args below meth c cX11_putAside D cA A n0 s0 QM σi Q) (hX : CX p l e R s m args below meth c 3 D cA A n0 s0 QM σi X) (hTh : CT p l e R s m args below meth c cX11_putAside 3 D cA A n0 s0 QM σi RX11 X) : ∀ (σ : Sg) (v1 : Option Nat) (v2 : Option Nat) (g1 : tyV σ 10 v1) (g2 : tyV σ 0 v2), w_X11_putAside_0 th Q X σ v1 v2 → RG σ → TY σ → Ext σi σ → kO σ th 11 → JJ p l e R s m args below meth c 3 D cA A n0 s0 QM σ 0 [(0, .ref th), (1, va_rf v1), (2, va_rf v2)] [] := by
  intro σ v1 v2 g1 g2 h hGσ hYσ hE hth H locs ls hH hl hc
  have B := K.1
  have hl9 := K.2.2.2.2.2.2
  unfold w_X11_putAside_0 at h
  refine lv_aload_nQ B.1 B.2.1 dX11_putAside_0 rfl (lv_at hl 1 rfl) ?_
  refine lv_dup B.1 B.2.1 dX11_putAside_1 (rf_cat _) ?_
  obtain ⟨a9, ea9, h⟩ := h
  have ka9 : kO σ a9 10 := g1 a9 ea9
  have h := h ka9
  refine W.eq (g2 := F0 m 2 ls [.ref a9, va_rf v1]) (by rw [ea9]; rfl) ?_
  refine f_geti B hH ka9 (by decide) rfl wu_X10 5 (by decide) wf_X11_171 rfl rfl dX11_putAside_2 ?_
  refine lv_iconst (v := i32 1) B.1 B.2.1 dX11_putAside_5 (by decide) ?_
  refine lv_iadd B.1 B.2.1 dX11_putAside_6 ?_
  rw [i32_add]
  refine W.eq (g2 := F0 m 7 ls [.int (i32 (wr (gI σ a9 5 + 1))), va_rf v1]) (by rw [i32_wr]) ?_
  obtain ⟨σ10, eσ10⟩ : ∃ z, z = pI σ a9 5 (wr (gI σ a9 5 + 1)) := ⟨_, rfl⟩
  have h := h σ10 eσ10
  refine W.eq (g2 := F0 m 7 ls [.int (i32 (wr (gI σ a9 5 + 1))), .ref a9]) (by rw [ea9]; rfl) ?_
  refine f_puti B hH ka9 (by decide) rfl wu_X10 tyX10 tyX10_ok nmX10 5 (by decide) wf_X11_171 rfl (ty := .int) rfl rfl rfl rfl rfl dX11_putAside_7 (fun H locs hH => ?_)
  have hH : Hd D cA A s (pI σ a9 5 (wr (gI σ a9 5 + 1))) H locs := hH
  rw [← eσ10] at hH
  have hGσ10 : RG σ10 := by rw [eσ10]; exact hGσ.pI (rng_wr _)
  have hYσ10 : TY σ10 := by rw [eσ10]; exact hYσ.pI
  have xσ10 : Ext σ σ10 := by rw [eσ10]; exact Ext.pI
  have hc : CB n0 s0 σ10 := by rw [eσ10]; exact hc
  rw [show gc σ = gc σ10 by rw [eσ10]; try rfl, show gs σ = gs σ10 by rw [eσ10]; try rfl]
  refine lv_aload_n B.1 B.2.1 dX11_putAside_10 rfl (lv_at hl 0 rfl) ?_
  refine f_getp B hH (hth.up xσ10) (by decide) rfl wu_X11 0 (by decide) wf_X11_22 rfl rfl dX11_putAside_11 ?_
  refine lv_aload_nQ B.1 B.2.1 dX11_putAside_14 rfl (lv_at hl 2 rfl) ?_
  obtain ⟨a12, ea12, h⟩ := h
  have ka12 : kO σ10 a12 8 := (hYσ10.get (hth.up xσ10) (by decide)) a12 ea12
  have h := h ka12
  refine W.eq (g2 := F0 m 15 ls [va_rf v2, .ref a12]) (by rw [ea12]; rfl) ?_
  refine c_V B hH hl hc K.2.2.1 (C := RX8) (T := TX8) (N := 3) (ci := 8) (As := [va_rf v2]) (ok_X8_release hl9 K.2.1 σ10 a12 v2 (g2.up xσ10) ka12 hGσ10 hYσ10 h) wc_X11_174 1 hd_X8_release ⟨Nat.le_trans (Nat.le_of_ble_eq_true rfl) K.2.2.2.1, Nat.le_trans (Nat.le_of_ble_eq_true rfl) K.2.2.2.2.1⟩ ka12.1 ka12.2 (by decide) rfl rfl (rest := []) rfl (Nat.le_of_ble_eq_true rfl) dX11_putAside_15 (fun σ11 w hq => ?_) (fun σ9 E9 hx9 => hX σ9 E9 _ _ _ (tb_out K.2.2.2.2.2.1 rfl) hx9.1 hx9.2.1 hx9.2.2.1 ((hE.trans xσ10).trans hx9.2.2.2))
  obtain ⟨rfl, h, hGσ11, hYσ11, xσ11⟩ := hq
  have h := h xσ11
  intro H locs ls hH hl hc
  refine W.eq (g2 := F0 m 18 ls []) (rfl) ?_
  try dsimp only at h
  exact hQ _ _ _ _ _ dX11_putAside_18 hH hc h hGσ11 hYσ11 ((hE.trans xσ10).trans xσ11)
theorem ok_X11_putAside (hl0 : l.stackTraces = false) (hT : TyC cA tys) {Q : Sg → Unit → Prop} {X : Sg → String → Prop} (σ : Sg) (th : Nat) (v1 : Option Nat) (v2 : Option Nat) (g1 : tyV σ 10 v1) (g2 : tyV σ 0 v2) (hth : kO σ th 11) (hG : RG σ) (hY : TY σ) (h : wp_X11_putAside th v1 v2 σ Q X) : Ok l D cA tys A yX11_putAside (.code yX11_putAside cX11_putAside 3 none) 1 21 [.ref th, va_rf v1, va_rf v2] σ (QcV σ Q) (QxC σ X) := by
  unfold wp_X11_putAside at h
  exact oc_V hl0 (by decide) (by cases v1 <;> cases v2 <;> exact Nat.le_of_ble_eq_true rfl) hT (fun p e R s m args below meth c K hQ hX hTh hin9 H locs ls hH hl hc => a_X11_putAside_0 K hQ hX hTh σ v1 v2 g1 g2 h hG hY (Ext.rfl' σ) hth H locs ls hH (lv_sub (l' := [(0, .ref th), (1, va_rf v1), (2, va_rf v2)]) hl [0, 1, 2] (by cases v1 <;> cases v2 <;> rfl)) hc)
theorem dX1_add_0 : decode cX1_add 0 = .ok (.aload_n 1, 1) := by decide +kernel
theorem dX1_add_1 : decode cX1_add 1 = .ok (.aconst_null, 1) := by decide +kernel
theorem dX1_add_2 : decode cX1_add 2 = .ok (.putfield 9, 3) := by decide +kernel
theorem dX1_add_5 : decode cX1_add 5 = .ok (.aload_n 0, 1) := by decide +kernel
theorem dX1_add_6 : decode cX1_add 6 = .ok (.getfield 15, 3) := by decide +kernel
theorem dX1_add_9 : decode cX1_add 9 = .ok (.ifnonnull 11, 3) := by decide +kernel
theorem dX1_add_12 : decode cX1_add 12 = .ok (.aload_n 0, 1) := by decide +kernel
theorem dX1_add_13 : decode cX1_add 13 = .ok (.aload_n 1, 1) := by decide +kernel
theorem dX1_add_14 : decode cX1_add 14 = .ok (.putfield 20, 3) := by decide +kernel
theorem dX1_add_17 : decode cX1_add 17 = .ok (.goto 11, 3) := by decide +kernel
theorem dX1_add_20 : decode cX1_add 20 = .ok (.aload_n 0, 1) := by decide +kernel
theorem dX1_add_21 : decode cX1_add 21 = .ok (.getfield 15, 3) := by decide +kernel
theorem dX1_add_24 : decode cX1_add 24 = .ok (.aload_n 1, 1) := by decide +kernel
theorem dX1_add_25 : decode cX1_add 25 = .ok (.putfield 9, 3) := by decide +kernel
theorem dX1_add_28 : decode cX1_add 28 = .ok (.aload_n 0, 1) := by decide +kernel
theorem dX1_add_29 : decode cX1_add 29 = .ok (.aload_n 1, 1) := by decide +kernel
theorem dX1_add_30 : decode cX1_add 30 = .ok (.putfield 15, 3) := by decide +kernel
theorem dX1_add_33 : decode cX1_add 33 = .ok (.aload_n 0, 1) := by decide +kernel
theorem dX1_add_34 : decode cX1_add 34 = .ok (.dup, 1) := by decide +kernel
theorem dX1_add_35 : decode cX1_add 35 = .ok (.getfield 23, 3) := by decide +kernel
theorem dX1_add_38 : decode cX1_add 38 = .ok (.iconst 1, 1) := by decide +kernel
theorem dX1_add_39 : decode cX1_add 39 = .ok (.iadd, 1) := by decide +kernel
theorem dX1_add_40 : decode cX1_add 40 = .ok (.putfield 23, 3) := by decide +kernel
theorem dX1_add_43 : decode cX1_add 43 = .ok (.return_, 1) := by decide +kernel
set_option maxRecDepth 20000 in
theorem a_X1_add_28 {Q : Sg → Unit → Prop} {X : Sg → String → Prop} {th : Nat} (K : MD l R p s m args c cX1_add 2 RX1 D cA tys A n0 s0 0 0 []) (hQ : CQV p l e R s m args below meth c cX1_add D cA A n0 s0 QM σi Q) (hX : CX p l e R s m args below meth c 2 D cA A n0 s0 QM σi X) (hTh : CT p l e R s m args below meth c cX1_add 2 D cA A n0 s0 QM σi RX1 X) : ∀ (σ : Sg) (v1 : Option Nat) (g1 : tyV σ 0 v1), w_X1_add_28 th Q X σ v1 → RG σ → TY σ → Ext σi σ → kO σ th 1 → JJ p l e R s m args below meth c 2 D cA A n0 s0 QM σ 28 [(0, .ref th), (1, va_rf v1)] [] := by
  intro σ v1 g1 h hGσ hYσ hE hth H locs ls hH hl hc
  have B := K.1
  have hl9 := K.2.2.2.2.2.2
  unfold w_X1_add_28 at h
  refine lv_aload_n B.1 B.2.1 dX1_add_28 rfl (lv_at hl 0 rfl) ?_
  refine lv_aload_nQ B.1 B.2.1 dX1_add_29 rfl (lv_at hl 1 rfl) ?_
  obtain ⟨σ15, eσ15⟩ : ∃ z, z = pP σ th 1 v1 := ⟨_, rfl⟩
  have h := h σ15 eσ15
  refine W.eq (g2 := F0 m 30 ls [va_rf v1, .ref th]) (rfl) ?_
  refine f_putp B hH hth (by decide) rfl wu_X1 tyX1 tyX1_ok nmX1 1 (by decide) wf_X1_15 rfl (r := v1) (ty := .object "StreamHouse$Cell") rfl rfl rfl (nrO _ _) (ftO _ _) dX1_add_30 (fun H locs hH => ?_)
  have hH : Hd D cA A s (pP σ th 1 v1) H locs := hH
  rw [← eσ15] at hH
  have hGσ15 : RG σ15 := by rw [eσ15]; exact hGσ.pP
  have hYσ15 : TY σ15 := by rw [eσ15]; exact hYσ.pP hth (d := 0) (by decide) g1
  have xσ15 : Ext σ σ15 := by rw [eσ15]; exact Ext.pP
  have hc : CB n0 s0 σ15 := by rw [eσ15]; exact hc
  rw [show gc σ = gc σ15 by rw [eσ15]; try rfl, show gs σ = gs σ15 by rw [eσ15]; try rfl]
  refine lv_aload_n B.1 B.2.1 dX1_add_33 rfl (lv_at hl 0 rfl) ?_
  refine lv_dup B.1 B.2.1 dX1_add_34 rfl ?_
  refine f_geti B hH (hth.up xσ15) (by decide) rfl wu_X1 2 (by decide) wf_X1_23 rfl rfl dX1_add_35 ?_
  refine lv_iconst (v := i32 1) B.1 B.2.1 dX1_add_38 (by decide) ?_
  obtain ⟨q1, h⟩ := h
  refine lv_iadd B.1 B.2.1 dX1_add_39 ?_
  rw [i32_add]
  obtain ⟨σ16, eσ16⟩ : ∃ z, z = pI σ15 th 2 (gI σ15 th 2 + 1) := ⟨_, rfl⟩
  have h := h σ16 eσ16
  refine f_puti B hH (hth.up xσ15) (by decide) rfl wu_X1 tyX1 tyX1_ok nmX1 2 (by decide) wf_X1_23 rfl (ty := .int) rfl rfl rfl rfl rfl dX1_add_40 (fun H locs hH => ?_)
  have hH : Hd D cA A s (pI σ15 th 2 (gI σ15 th 2 + 1)) H locs := hH
  rw [← eσ16] at hH
  have hGσ16 : RG σ16 := by rw [eσ16]; exact hGσ15.pI q1
  have hYσ16 : TY σ16 := by rw [eσ16]; exact hYσ15.pI
  have xσ16 : Ext σ15 σ16 := by rw [eσ16]; exact Ext.pI
  have hc : CB n0 s0 σ16 := by rw [eσ16]; exact hc
  rw [show gc σ15 = gc σ16 by rw [eσ16]; try rfl, show gs σ15 = gs σ16 by rw [eσ16]; try rfl]
  exact hQ _ _ _ _ _ dX1_add_43 hH hc h hGσ16 hYσ16 ((hE.trans xσ15).trans xσ16)
set_option maxRecDepth 20000 in
theorem a_X1_add_20 {Q : Sg → Unit → Prop} {X : Sg → String → Prop} {th : Nat} (K : MD l R p s m args c cX1_add 2 RX1 D cA tys A n0 s0 0 0 []) (hQ : CQV p l e R s m args below meth c cX1_add D cA A n0 s0 QM σi Q) (hX : CX p l e R s m args below meth c 2 D cA A n0 s0 QM σi X) (hTh : CT p l e R s m args below meth c cX1_add 2 D cA A n0 s0 QM σi RX1 X) : ∀ (σ : Sg) (v1 : Option Nat) (g1 : tyV σ 0 v1), w_X1_add_20 th Q X σ v1 → RG σ → TY σ → Ext σi σ → kO σ th 1 → JJ p l e R s m args below meth c 2 D cA A n0 s0 QM σ 20 [(0, .ref th), (1, va_rf v1)] [] := by
  intro σ v1 g1 h hGσ hYσ hE hth H locs ls hH hl hc
  have B := K.1
  have hl9 := K.2.2.2.2.2.2
  unfold w_X1_add_20 at h
  refine lv_aload_n B.1 B.2.1 dX1_add_20 rfl (lv_at hl 0 rfl) ?_
  refine f_getp B hH hth (by decide) rfl wu_X1 1 (by decide) wf_X1_15 rfl rfl dX1_add_21 ?_
  refine lv_aload_nQ B.1 B.2.1 dX1_add_24 rfl (lv_at hl 1 rfl) ?_
  obtain ⟨a17, ea17, h⟩ := h
  have ka17 : kO σ a17 0 := (hYσ.get hth (by decide)) a17 ea17
  have h := h ka17
  obtain ⟨σ18, eσ18⟩ : ∃ z, z = pP σ a17 1 v1 := ⟨_, rfl⟩
  have h := h σ18 eσ18
  refine W.eq (g2 := F0 m 25 ls [va_rf v1, .ref a17]) (by rw [ea17]; rfl) ?_
  refine f_putp B hH ka17 (by decide) rfl wu_X0 tyX0 tyX0_ok nmX0 1 (by decide) wf_X1_9 rfl (r := v1) (ty := .object "StreamHouse$Cell") rfl rfl rfl (nrO _ _) (ftO _ _) dX1_add_25 (fun H locs hH => ?_)
  have hH : Hd D cA A s (pP σ a17 1 v1) H locs := hH
  rw [← eσ18] at hH
  have hGσ18 : RG σ18 := by rw [eσ18]; exact hGσ.pP
  have hYσ18 : TY σ18 := by rw [eσ18]; exact hYσ.pP ka17 (d := 0) (by decide) g1
  have xσ18 : Ext σ σ18 := by rw [eσ18]; exact Ext.pP
  have hc : CB n0 s0 σ18 := by rw [eσ18]; exact hc
  rw [show gc σ = gc σ18 by rw [eσ18]; try rfl, show gs σ = gs σ18 by rw [eσ18]; try rfl]
  exact a_X1_add_28 K hQ hX hTh _ _ (g1.up xσ18) h hGσ18 hYσ18 (hE.trans xσ18) (hth.up xσ18) _ _ _ hH (lv_sub (l' := [(0, .ref th), (1, va_rf v1)]) hl [0, 1] rfl) hc
set_option maxRecDepth 20000 in
theorem a_X1_add_12 {Q : Sg → Unit → Prop} {X : Sg → String → Prop} {th : Nat} (K : MD l R p s m args c cX1_add 2 RX1 D cA tys A n0 s0 0 0 []) (hQ : CQV p l e R s m args below meth c cX1_add D cA A n0 s0 QM σi Q) (hX : CX p l e R s m args below meth c 2 D cA A n0 s0 QM σi X) (hTh : CT p l e R s m args below meth c cX1_add 2 D cA A n0 s0 QM σi RX1 X) : ∀ (σ : Sg) (v1 : Option Nat) (g1 : tyV σ 0 v1), w_X1_add_12 th Q X σ v1 → RG σ → TY σ → Ext σi σ → kO σ th 1 → JJ p l e R s m args below meth c 2 D cA A n0 s0 QM σ 12 [(0, .ref th), (1, va_rf v1)] [] := by
  intro σ v1 g1 h hGσ hYσ hE hth H locs ls hH hl hc
  have B := K.1
  have hl9 := K.2.2.2.2.2.2
  unfold w_X1_add_12 at h
  refine lv_aload_n B.1 B.2.1 dX1_add_12 rfl (lv_at hl 0 rfl) ?_
  refine lv_aload_nQ B.1 B.2.1 dX1_add_13 rfl (lv_at hl 1 rfl) ?_
  obtain ⟨σ19, eσ19⟩ : ∃ z, z = pP σ th 0 v1 := ⟨_, rfl⟩
  have h := h σ19 eσ19
  refine W.eq (g2 := F0 m 14 ls [va_rf v1, .ref th]) (rfl) ?_
  refine f_putp B hH hth (by decide) rfl wu_X1 tyX1 tyX1_ok nmX1 0 (by decide) wf_X1_20 rfl (r := v1) (ty := .object "StreamHouse$Cell") rfl rfl rfl (nrO _ _) (ftO _ _) dX1_add_14 (fun H locs hH => ?_)
  have hH : Hd D cA A s (pP σ th 0 v1) H locs := hH
  rw [← eσ19] at hH
  have hGσ19 : RG σ19 := by rw [eσ19]; exact hGσ.pP
  have hYσ19 : TY σ19 := by rw [eσ19]; exact hYσ.pP hth (d := 0) (by decide) g1
  have xσ19 : Ext σ σ19 := by rw [eσ19]; exact Ext.pP
  have hc : CB n0 s0 σ19 := by rw [eσ19]; exact hc
  rw [show gc σ = gc σ19 by rw [eσ19]; try rfl, show gs σ = gs σ19 by rw [eσ19]; try rfl]
  refine lv_goto (tgt := 28) B.1 B.2.1 dX1_add_17 (by decide) ?_
  exact a_X1_add_28 K hQ hX hTh _ _ (g1.up xσ19) h hGσ19 hYσ19 (hE.trans xσ19) (hth.up xσ19) _ _ _ hH (lv_sub (l' := [(0, .ref th), (1, va_rf v1)]) hl [0, 1] rfl) hc
set_option maxRecDepth 20000 in
theorem a_X1_add_0 {Q : Sg → Unit → Prop} {X : Sg → String → Prop} {th : Nat} (K : MD l R p s m args c cX1_add 2 RX1 D cA tys A n0 s0 0 0 []) (hQ : CQV p l e R s m args below meth c cX1_add D cA A n0 s0 QM σi Q) (hX : CX p l e R s m args below meth c 2 D cA A n0 s0 QM σi X) (hTh : CT p l e R s m args below meth c cX1_add 2 D cA A n0 s0 QM σi RX1 X) : ∀ (σ : Sg) (v1 : Option Nat) (g1 : tyV σ 0 v1), w_X1_add_0 th Q X σ v1 → RG σ → TY σ → Ext σi σ → kO σ th 1 → JJ p l e R s m args below meth c 2 D cA A n0 s0 QM σ 0 [(0, .ref th), (1, va_rf v1)] [] := by
  intro σ v1 g1 h hGσ hYσ hE hth H locs ls hH hl hc
  have B := K.1
  have hl9 := K.2.2.2.2.2.2
  unfold w_X1_add_0 at h
  refine lv_aload_nQ B.1 B.2.1 dX1_add_0 rfl (lv_at hl 1 rfl) ?_
  refine lv_null B.1 B.2.1 dX1_add_1 ?_
  obtain ⟨a20, ea20, h⟩ := h
  have ka20 : kO σ a20 0 := g1 a20 ea20
  have h := h ka20
  obtain ⟨σ21, eσ21⟩ : ∃ z, z = pP σ a20 1 none := ⟨_, rfl⟩
  have h := h σ21 eσ21
  refine W.eq (g2 := F0 m 2 ls [va_rf none, .ref a20]) (by rw [ea20]; rfl) ?_
  refine f_putp B hH ka20 (by decide) rfl wu_X0 tyX0 tyX0_ok nmX0 1 (by decide) wf_X1_9 rfl (r := none) (ty := .object "StreamHouse$Cell") rfl rfl rfl (nrO _ _) (ftO _ _) dX1_add_2 (fun H locs hH => ?_)
  have hH : Hd D cA A s (pP σ a20 1 none) H locs := hH
  rw [← eσ21] at hH
  have hGσ21 : RG σ21 := by rw [eσ21]; exact hGσ.pP
  have hYσ21 : TY σ21 := by rw [eσ21]; exact hYσ.pP ka20 (d := 0) (by decide) (tyn _ _)
  have xσ21 : Ext σ σ21 := by rw [eσ21]; exact Ext.pP
  have hc : CB n0 s0 σ21 := by rw [eσ21]; exact hc
  rw [show gc σ = gc σ21 by rw [eσ21]; try rfl, show gs σ = gs σ21 by rw [eσ21]; try rfl]
  refine lv_aload_n B.1 B.2.1 dX1_add_5 rfl (lv_at hl 0 rfl) ?_
  refine f_getp B hH (hth.up xσ21) (by decide) rfl wu_X1 1 (by decide) wf_X1_15 rfl rfl dX1_add_6 ?_
  refine lv_ifnonnullQ (tgt := 20) B.1 B.2.1 dX1_add_9 (by decide) (fun h9 => ?_) (fun h9 => ?_)
  · rw [if_pos (h9)] at h
    exact a_X1_add_20 K hQ hX hTh _ _ (g1.up xσ21) h hGσ21 hYσ21 (hE.trans xσ21) (hth.up xσ21) _ _ _ hH (lv_sub (l' := [(0, .ref th), (1, va_rf v1)]) hl [0, 1] rfl) hc
  · rw [if_neg (h9)] at h
    exact a_X1_add_12 K hQ hX hTh _ _ (g1.up xσ21) h hGσ21 hYσ21 (hE.trans xσ21) (hth.up xσ21) _ _ _ hH (lv_sub (l' := [(0, .ref th), (1, va_rf v1)]) hl [0, 1] rfl) hc
theorem ok_X1_add (hl0 : l.stackTraces = false) (hT : TyC cA tys) {Q : Sg → Unit → Prop} {X : Sg → String → Prop} (σ : Sg) (th : Nat) (v1 : Option Nat) (g1 : tyV σ 0 v1) (hth : kO σ th 1) (hG : RG σ) (hY : TY σ) (h : wp_X1_add th v1 σ Q X) : Ok l D cA tys A yX1_add (.code yX1_add cX1_add 2 none) 0 0 [.ref th, va_rf v1] σ (QcV σ Q) (QxC σ X) := by
  unfold wp_X1_add at h
  exact oc_V hl0 (by decide) (by cases v1 <;> exact Nat.le_of_ble_eq_true rfl) hT (fun p e R s m args below meth c K hQ hX hTh hin9 H locs ls hH hl hc => a_X1_add_0 K hQ hX hTh σ v1 g1 h hG hY (Ext.rfl' σ) hth H locs ls hH (lv_sub (l' := [(0, .ref th), (1, va_rf v1)]) hl [0, 1] (by cases v1 <;> rfl)) hc)
theorem dX4_calculate_0 : decode cX4_calculate 0 = .ok (.iload_n 1, 1) := by decide +kernel
theorem dX4_calculate_1 : decode cX4_calculate 1 = .ok (.tableswitch 101 11 18 #[47, 52, 57, 101, 101, 62, 75, 88], 47) := by decide +kernel
theorem dX4_calculate_48 : decode cX4_calculate 48 = .ok (.lload_n 2, 1) := by decide +kernel
theorem dX4_calculate_49 : decode cX4_calculate 49 = .ok (.lload 4, 2) := by decide +kernel
theorem dX4_calculate_51 : decode cX4_calculate 51 = .ok (.ladd, 1) := by decide +kernel
theorem dX4_calculate_52 : decode cX4_calculate 52 = .ok (.lreturn, 1) := by decide +kernel
theorem dX4_calculate_53 : decode cX4_calculate 53 = .ok (.lload_n 2, 1) := by decide +kernel
theorem dX4_calculate_54 : decode cX4_calculate 54 = .ok (.lload 4, 2) := by decide +kernel
theorem dX4_calculate_56 : decode cX4_calculate 56 = .ok (.lsub, 1) := by decide +kernel
theorem dX4_calculate_57 : decode cX4_calculate 57 = .ok (.lreturn, 1) := by decide +kernel
theorem dX4_calculate_58 : decode cX4_calculate 58 = .ok (.lload_n 2, 1) := by decide +kernel
theorem dX4_calculate_59 : decode cX4_calculate 59 = .ok (.lload 4, 2) := by decide +kernel
theorem dX4_calculate_61 : decode cX4_calculate 61 = .ok (.lmul, 1) := by decide +kernel
theorem dX4_calculate_62 : decode cX4_calculate 62 = .ok (.lreturn, 1) := by decide +kernel
theorem dX4_calculate_63 : decode cX4_calculate 63 = .ok (.lload_n 2, 1) := by decide +kernel
theorem dX4_calculate_64 : decode cX4_calculate 64 = .ok (.lload 4, 2) := by decide +kernel
theorem dX4_calculate_66 : decode cX4_calculate 66 = .ok (.lcmp, 1) := by decide +kernel
theorem dX4_calculate_67 : decode cX4_calculate 67 = .ok (.ifCond .ge 7, 3) := by decide +kernel
theorem dX4_calculate_70 : decode cX4_calculate 70 = .ok (.lconst 1, 1) := by decide +kernel
theorem dX4_calculate_71 : decode cX4_calculate 71 = .ok (.goto 4, 3) := by decide +kernel
theorem dX4_calculate_74 : decode cX4_calculate 74 = .ok (.lconst 0, 1) := by decide +kernel
theorem dX4_calculate_75 : decode cX4_calculate 75 = .ok (.lreturn, 1) := by decide +kernel
theorem dX4_calculate_76 : decode cX4_calculate 76 = .ok (.lload_n 2, 1) := by decide +kernel
theorem dX4_calculate_77 : decode cX4_calculate 77 = .ok (.lload 4, 2) := by decide +kernel
theorem dX4_calculate_79 : decode cX4_calculate 79 = .ok (.lcmp, 1) := by decide +kernel
theorem dX4_calculate_80 : decode cX4_calculate 80 = .ok (.ifCond .le 7, 3) := by decide +kernel
theorem dX4_calculate_83 : decode cX4_calculate 83 = .ok (.lconst 1, 1) := by decide +kernel
theorem dX4_calculate_84 : decode cX4_calculate 84 = .ok (.goto 4, 3) := by decide +kernel
theorem dX4_calculate_87 : decode cX4_calculate 87 = .ok (.lconst 0, 1) := by decide +kernel
theorem dX4_calculate_88 : decode cX4_calculate 88 = .ok (.lreturn, 1) := by decide +kernel
theorem dX4_calculate_89 : decode cX4_calculate 89 = .ok (.lload_n 2, 1) := by decide +kernel
theorem dX4_calculate_90 : decode cX4_calculate 90 = .ok (.lload 4, 2) := by decide +kernel
theorem dX4_calculate_92 : decode cX4_calculate 92 = .ok (.lcmp, 1) := by decide +kernel
theorem dX4_calculate_93 : decode cX4_calculate 93 = .ok (.ifCond .ne 7, 3) := by decide +kernel
theorem dX4_calculate_96 : decode cX4_calculate 96 = .ok (.lconst 1, 1) := by decide +kernel
theorem dX4_calculate_97 : decode cX4_calculate 97 = .ok (.goto 4, 3) := by decide +kernel
theorem dX4_calculate_100 : decode cX4_calculate 100 = .ok (.lconst 0, 1) := by decide +kernel
theorem dX4_calculate_101 : decode cX4_calculate 101 = .ok (.lreturn, 1) := by decide +kernel
theorem dX4_calculate_102 : decode cX4_calculate 102 = .ok (.lload 4, 2) := by decide +kernel
theorem dX4_calculate_104 : decode cX4_calculate 104 = .ok (.lconst 0, 1) := by decide +kernel
theorem dX4_calculate_105 : decode cX4_calculate 105 = .ok (.lcmp, 1) := by decide +kernel
theorem dX4_calculate_106 : decode cX4_calculate 106 = .ok (.ifCond .ne 10, 3) := by decide +kernel
theorem dX4_calculate_109 : decode cX4_calculate 109 = .ok (.aload_n 0, 1) := by decide +kernel
theorem dX4_calculate_110 : decode cX4_calculate 110 = .ok (.iconst 1, 1) := by decide +kernel
theorem dX4_calculate_111 : decode cX4_calculate 111 = .ok (.putfield 91, 3) := by decide +kernel
theorem dX4_calculate_114 : decode cX4_calculate 114 = .ok (.lconst 0, 1) := by decide +kernel
theorem dX4_calculate_115 : decode cX4_calculate 115 = .ok (.lreturn, 1) := by decide +kernel
theorem dX4_calculate_116 : decode cX4_calculate 116 = .ok (.iload_n 1, 1) := by decide +kernel
theorem dX4_calculate_117 : decode cX4_calculate 117 = .ok (.bipush 14, 2) := by decide +kernel
theorem dX4_calculate_119 : decode cX4_calculate 119 = .ok (.if_icmp .ne 10, 3) := by decide +kernel
theorem dX4_calculate_122 : decode cX4_calculate 122 = .ok (.lload_n 2, 1) := by decide +kernel
theorem dX4_calculate_123 : decode cX4_calculate 123 = .ok (.lload 4, 2) := by decide +kernel
theorem dX4_calculate_125 : decode cX4_calculate 125 = .ok (.ldiv, 1) := by decide +kernel
theorem dX4_calculate_126 : decode cX4_calculate 126 = .ok (.goto 7, 3) := by decide +kernel
theorem dX4_calculate_129 : decode cX4_calculate 129 = .ok (.lload_n 2, 1) := by decide +kernel
theorem dX4_calculate_130 : decode cX4_calculate 130 = .ok (.lload 4, 2) := by decide +kernel
theorem dX4_calculate_132 : decode cX4_calculate 132 = .ok (.lrem, 1) := by decide +kernel
theorem dX4_calculate_133 : decode cX4_calculate 133 = .ok (.lreturn, 1) := by decide +kernel
set_option maxRecDepth 20000 in
theorem a_X4_calculate_48 {Q : Sg → Int64 → Prop} {X : Sg → String → Prop} {th : Nat} (K : MD l R p s m args c cX4_calculate 6 RX4 D cA tys A n0 s0 0 0 []) (hQ : CQJ p l e R s m args below meth c cX4_calculate D cA A n0 s0 QM σi Q) (hX : CX p l e R s m args below meth c 6 D cA A n0 s0 QM σi X) (hTh : CT p l e R s m args below meth c cX4_calculate 6 D cA A n0 s0 QM σi RX4 X) : ∀ (σ : Sg) (v2 : Int64) (v4 : Int64), w_X4_calculate_48 th Q X σ v2 v4 → RG σ → TY σ → Ext σi σ → kO σ th 4 → JJ p l e R s m args below meth c 6 D cA A n0 s0 QM σ 48 [(0, .ref th), (2, .long v2), (4, .long v4)] [] := by
  intro σ v2 v4 h hGσ hYσ hE hth H locs ls hH hl hc
  have B := K.1
  have hl9 := K.2.2.2.2.2.2
  unfold w_X4_calculate_48 at h
  refine lv_lload_n B.1 B.2.1 dX4_calculate_48 rfl (lv_at hl 1 rfl) ?_
  refine lv_lload B.1 B.2.1 dX4_calculate_49 (lv_at hl 2 rfl) ?_
  refine lv_ladd B.1 B.2.1 dX4_calculate_51 ?_
  exact hQ _ _ _ _ _ _ dX4_calculate_52 hH hc h hGσ hYσ hE
set_option maxRecDepth 20000 in
theorem a_X4_calculate_53 {Q : Sg → Int64 → Prop} {X : Sg → String → Prop} {th : Nat} (K : MD l R p s m args c cX4_calculate 6 RX4 D cA tys A n0 s0 0 0 []) (hQ : CQJ p l e R s m args below meth c cX4_calculate D cA A n0 s0 QM σi Q) (hX : CX p l e R s m args below meth c 6 D cA A n0 s0 QM σi X) (hTh : CT p l e R s m args below meth c cX4_calculate 6 D cA A n0 s0 QM σi RX4 X) : ∀ (σ : Sg) (v2 : Int64) (v4 : Int64), w_X4_calculate_53 th Q X σ v2 v4 → RG σ → TY σ → Ext σi σ → kO σ th 4 → JJ p l e R s m args below meth c 6 D cA A n0 s0 QM σ 53 [(0, .ref th), (2, .long v2), (4, .long v4)] [] := by
  intro σ v2 v4 h hGσ hYσ hE hth H locs ls hH hl hc
  have B := K.1
  have hl9 := K.2.2.2.2.2.2
  unfold w_X4_calculate_53 at h
  refine lv_lload_n B.1 B.2.1 dX4_calculate_53 rfl (lv_at hl 1 rfl) ?_
  refine lv_lload B.1 B.2.1 dX4_calculate_54 (lv_at hl 2 rfl) ?_
  refine lv_lsub B.1 B.2.1 dX4_calculate_56 ?_
  exact hQ _ _ _ _ _ _ dX4_calculate_57 hH hc h hGσ hYσ hE
set_option maxRecDepth 20000 in
theorem a_X4_calculate_58 {Q : Sg → Int64 → Prop} {X : Sg → String → Prop} {th : Nat} (K : MD l R p s m args c cX4_calculate 6 RX4 D cA tys A n0 s0 0 0 []) (hQ : CQJ p l e R s m args below meth c cX4_calculate D cA A n0 s0 QM σi Q) (hX : CX p l e R s m args below meth c 6 D cA A n0 s0 QM σi X) (hTh : CT p l e R s m args below meth c cX4_calculate 6 D cA A n0 s0 QM σi RX4 X) : ∀ (σ : Sg) (v2 : Int64) (v4 : Int64), w_X4_calculate_58 th Q X σ v2 v4 → RG σ → TY σ → Ext σi σ → kO σ th 4 → JJ p l e R s m args below meth c 6 D cA A n0 s0 QM σ 58 [(0, .ref th), (2, .long v2), (4, .long v4)] [] := by
  intro σ v2 v4 h hGσ hYσ hE hth H locs ls hH hl hc
  have B := K.1
  have hl9 := K.2.2.2.2.2.2
  unfold w_X4_calculate_58 at h
  refine lv_lload_n B.1 B.2.1 dX4_calculate_58 rfl (lv_at hl 1 rfl) ?_
  refine lv_lload B.1 B.2.1 dX4_calculate_59 (lv_at hl 2 rfl) ?_
  refine lv_lmul B.1 B.2.1 dX4_calculate_61 ?_
  exact hQ _ _ _ _ _ _ dX4_calculate_62 hH hc h hGσ hYσ hE
set_option maxRecDepth 20000 in
theorem a_X4_calculate_75 {Q : Sg → Int64 → Prop} {X : Sg → String → Prop} {th : Nat} (K : MD l R p s m args c cX4_calculate 6 RX4 D cA tys A n0 s0 0 0 []) (hQ : CQJ p l e R s m args below meth c cX4_calculate D cA A n0 s0 QM σi Q) (hX : CX p l e R s m args below meth c 6 D cA A n0 s0 QM σi X) (hTh : CT p l e R s m args below meth c cX4_calculate 6 D cA A n0 s0 QM σi RX4 X) : ∀ (σ : Sg) (u0 : Int64), w_X4_calculate_75 th Q X σ u0 → RG σ → TY σ → Ext σi σ → kO σ th 4 → JJ p l e R s m args below meth c 6 D cA A n0 s0 QM σ 75 [(0, .ref th)] [.long u0] := by
  intro σ u0 h hGσ hYσ hE hth H locs ls hH hl hc
  have B := K.1
  have hl9 := K.2.2.2.2.2.2
  unfold w_X4_calculate_75 at h
  exact hQ _ _ _ _ _ _ dX4_calculate_75 hH hc h hGσ hYσ hE
set_option maxRecDepth 20000 in
theorem a_X4_calculate_74 {Q : Sg → Int64 → Prop} {X : Sg → String → Prop} {th : Nat} (K : MD l R p s m args c cX4_calculate 6 RX4 D cA tys A n0 s0 0 0 []) (hQ : CQJ p l e R s m args below meth c cX4_calculate D cA A n0 s0 QM σi Q) (hX : CX p l e R s m args below meth c 6 D cA A n0 s0 QM σi X) (hTh : CT p l e R s m args below meth c cX4_calculate 6 D cA A n0 s0 QM σi RX4 X) : ∀ (σ : Sg), w_X4_calculate_74 th Q X σ → RG σ → TY σ → Ext σi σ → kO σ th 4 → JJ p l e R s m args below meth c 6 D cA A n0 s0 QM σ 74 [(0, .ref th)] [] := by
  intro σ h hGσ hYσ hE hth H locs ls hH hl hc
  have B := K.1
  have hl9 := K.2.2.2.2.2.2
  unfold w_X4_calculate_74 at h
  refine lv_lconst (v := 0) B.1 B.2.1 dX4_calculate_74 (by decide) ?_
  exact a_X4_calculate_75 K hQ hX hTh _ _ h hGσ hYσ hE hth _ _ _ hH (lv_sub (l' := [(0, .ref th)]) hl [0] rfl) hc
set_option maxRecDepth 20000 in
theorem a_X4_calculate_70 {Q : Sg → Int64 → Prop} {X : Sg → String → Prop} {th : Nat} (K : MD l R p s m args c cX4_calculate 6 RX4 D cA tys A n0 s0 0 0 []) (hQ : CQJ p l e R s m args below meth c cX4_calculate D cA A n0 s0 QM σi Q) (hX : CX p l e R s m args below meth c 6 D cA A n0 s0 QM σi X) (hTh : CT p l e R s m args below meth c cX4_calculate 6 D cA A n0 s0 QM σi RX4 X) : ∀ (σ : Sg), w_X4_calculate_70 th Q X σ → RG σ → TY σ → Ext σi σ → kO σ th 4 → JJ p l e R s m args below meth c 6 D cA A n0 s0 QM σ 70 [(0, .ref th)] [] := by
  intro σ h hGσ hYσ hE hth H locs ls hH hl hc
  have B := K.1
  have hl9 := K.2.2.2.2.2.2
  unfold w_X4_calculate_70 at h
  refine lv_lconst (v := 1) B.1 B.2.1 dX4_calculate_70 (by decide) ?_
  refine lv_goto (tgt := 75) B.1 B.2.1 dX4_calculate_71 (by decide) ?_
  exact a_X4_calculate_75 K hQ hX hTh _ _ h hGσ hYσ hE hth _ _ _ hH (lv_sub (l' := [(0, .ref th)]) hl [0] rfl) hc
set_option maxRecDepth 20000 in
theorem a_X4_calculate_63 {Q : Sg → Int64 → Prop} {X : Sg → String → Prop} {th : Nat} (K : MD l R p s m args c cX4_calculate 6 RX4 D cA tys A n0 s0 0 0 []) (hQ : CQJ p l e R s m args below meth c cX4_calculate D cA A n0 s0 QM σi Q) (hX : CX p l e R s m args below meth c 6 D cA A n0 s0 QM σi X) (hTh : CT p l e R s m args below meth c cX4_calculate 6 D cA A n0 s0 QM σi RX4 X) : ∀ (σ : Sg) (v2 : Int64) (v4 : Int64), w_X4_calculate_63 th Q X σ v2 v4 → RG σ → TY σ → Ext σi σ → kO σ th 4 → JJ p l e R s m args below meth c 6 D cA A n0 s0 QM σ 63 [(0, .ref th), (2, .long v2), (4, .long v4)] [] := by
  intro σ v2 v4 h hGσ hYσ hE hth H locs ls hH hl hc
  have B := K.1
  have hl9 := K.2.2.2.2.2.2
  unfold w_X4_calculate_63 at h
  refine lv_lload_n B.1 B.2.1 dX4_calculate_63 rfl (lv_at hl 1 rfl) ?_
  refine lv_lload B.1 B.2.1 dX4_calculate_64 (lv_at hl 2 rfl) ?_
  refine W.lcmp B.1 B.2.1 dX4_calculate_66 ?_
  refine lv_if_ge (tgt := 74) B.1 B.2.1 dX4_calculate_67 (by decide) (fun h9 => ?_) (fun h9 => ?_)
  · rw [if_pos ((lg_cmp_ge _ _).mp h9)] at h
    exact a_X4_calculate_74 K hQ hX hTh _ h hGσ hYσ hE hth _ _ _ hH (lv_sub (l' := [(0, .ref th)]) hl [0] rfl) hc
  · rw [if_neg (fun q => h9 ((lg_cmp_ge _ _).mpr q))] at h
    exact a_X4_calculate_70 K hQ hX hTh _ h hGσ hYσ hE hth _ _ _ hH (lv_sub (l' := [(0, .ref th)]) hl [0] rfl) hc
set_option maxRecDepth 20000 in
theorem a_X4_calculate_88 {Q : Sg → Int64 → Prop} {X : Sg → String → Prop} {th : Nat} (K : MD l R p s m args c cX4_calculate 6 RX4 D cA tys A n0 s0 0 0 []) (hQ : CQJ p l e R s m args below meth c cX4_calculate D cA A n0 s0 QM σi Q) (hX : CX p l e R s m args below meth c 6 D cA A n0 s0 QM σi X) (hTh : CT p l e R s m args below meth c cX4_calculate 6 D cA A n0 s0 QM σi RX4 X) : ∀ (σ : Sg) (u0 : Int64), w_X4_calculate_88 th Q X σ u0 → RG σ → TY σ → Ext σi σ → kO σ th 4 → JJ p l e R s m args below meth c 6 D cA A n0 s0 QM σ 88 [(0, .ref th)] [.long u0] := by
  intro σ u0 h hGσ hYσ hE hth H locs ls hH hl hc
  have B := K.1
  have hl9 := K.2.2.2.2.2.2
  unfold w_X4_calculate_88 at h
  exact hQ _ _ _ _ _ _ dX4_calculate_88 hH hc h hGσ hYσ hE
set_option maxRecDepth 20000 in
theorem a_X4_calculate_87 {Q : Sg → Int64 → Prop} {X : Sg → String → Prop} {th : Nat} (K : MD l R p s m args c cX4_calculate 6 RX4 D cA tys A n0 s0 0 0 []) (hQ : CQJ p l e R s m args below meth c cX4_calculate D cA A n0 s0 QM σi Q) (hX : CX p l e R s m args below meth c 6 D cA A n0 s0 QM σi X) (hTh : CT p l e R s m args below meth c cX4_calculate 6 D cA A n0 s0 QM σi RX4 X) : ∀ (σ : Sg), w_X4_calculate_87 th Q X σ → RG σ → TY σ → Ext σi σ → kO σ th 4 → JJ p l e R s m args below meth c 6 D cA A n0 s0 QM σ 87 [(0, .ref th)] [] := by
  intro σ h hGσ hYσ hE hth H locs ls hH hl hc
  have B := K.1
  have hl9 := K.2.2.2.2.2.2
  unfold w_X4_calculate_87 at h
  refine lv_lconst (v := 0) B.1 B.2.1 dX4_calculate_87 (by decide) ?_
  exact a_X4_calculate_88 K hQ hX hTh _ _ h hGσ hYσ hE hth _ _ _ hH (lv_sub (l' := [(0, .ref th)]) hl [0] rfl) hc
set_option maxRecDepth 20000 in
theorem a_X4_calculate_83 {Q : Sg → Int64 → Prop} {X : Sg → String → Prop} {th : Nat} (K : MD l R p s m args c cX4_calculate 6 RX4 D cA tys A n0 s0 0 0 []) (hQ : CQJ p l e R s m args below meth c cX4_calculate D cA A n0 s0 QM σi Q) (hX : CX p l e R s m args below meth c 6 D cA A n0 s0 QM σi X) (hTh : CT p l e R s m args below meth c cX4_calculate 6 D cA A n0 s0 QM σi RX4 X) : ∀ (σ : Sg), w_X4_calculate_83 th Q X σ → RG σ → TY σ → Ext σi σ → kO σ th 4 → JJ p l e R s m args below meth c 6 D cA A n0 s0 QM σ 83 [(0, .ref th)] [] := by
  intro σ h hGσ hYσ hE hth H locs ls hH hl hc
  have B := K.1
  have hl9 := K.2.2.2.2.2.2
  unfold w_X4_calculate_83 at h
  refine lv_lconst (v := 1) B.1 B.2.1 dX4_calculate_83 (by decide) ?_
  refine lv_goto (tgt := 88) B.1 B.2.1 dX4_calculate_84 (by decide) ?_
  exact a_X4_calculate_88 K hQ hX hTh _ _ h hGσ hYσ hE hth _ _ _ hH (lv_sub (l' := [(0, .ref th)]) hl [0] rfl) hc
set_option maxRecDepth 20000 in
theorem a_X4_calculate_76 {Q : Sg → Int64 → Prop} {X : Sg → String → Prop} {th : Nat} (K : MD l R p s m args c cX4_calculate 6 RX4 D cA tys A n0 s0 0 0 []) (hQ : CQJ p l e R s m args below meth c cX4_calculate D cA A n0 s0 QM σi Q) (hX : CX p l e R s m args below meth c 6 D cA A n0 s0 QM σi X) (hTh : CT p l e R s m args below meth c cX4_calculate 6 D cA A n0 s0 QM σi RX4 X) : ∀ (σ : Sg) (v2 : Int64) (v4 : Int64), w_X4_calculate_76 th Q X σ v2 v4 → RG σ → TY σ → Ext σi σ → kO σ th 4 → JJ p l e R s m args below meth c 6 D cA A n0 s0 QM σ 76 [(0, .ref th), (2, .long v2), (4, .long v4)] [] := by
  intro σ v2 v4 h hGσ hYσ hE hth H locs ls hH hl hc
  have B := K.1
  have hl9 := K.2.2.2.2.2.2
  unfold w_X4_calculate_76 at h
  refine lv_lload_n B.1 B.2.1 dX4_calculate_76 rfl (lv_at hl 1 rfl) ?_
  refine lv_lload B.1 B.2.1 dX4_calculate_77 (lv_at hl 2 rfl) ?_
  refine W.lcmp B.1 B.2.1 dX4_calculate_79 ?_
  refine lv_if_le (tgt := 87) B.1 B.2.1 dX4_calculate_80 (by decide) (fun h9 => ?_) (fun h9 => ?_)
  · rw [if_pos ((lg_cmp_le _ _).mp h9)] at h
    exact a_X4_calculate_87 K hQ hX hTh _ h hGσ hYσ hE hth _ _ _ hH (lv_sub (l' := [(0, .ref th)]) hl [0] rfl) hc
  · rw [if_neg (fun q => h9 ((lg_cmp_le _ _).mpr q))] at h
    exact a_X4_calculate_83 K hQ hX hTh _ h hGσ hYσ hE hth _ _ _ hH (lv_sub (l' := [(0, .ref th)]) hl [0] rfl) hc
set_option maxRecDepth 20000 in
theorem a_X4_calculate_101 {Q : Sg → Int64 → Prop} {X : Sg → String → Prop} {th : Nat} (K : MD l R p s m args c cX4_calculate 6 RX4 D cA tys A n0 s0 0 0 []) (hQ : CQJ p l e R s m args below meth c cX4_calculate D cA A n0 s0 QM σi Q) (hX : CX p l e R s m args below meth c 6 D cA A n0 s0 QM σi X) (hTh : CT p l e R s m args below meth c cX4_calculate 6 D cA A n0 s0 QM σi RX4 X) : ∀ (σ : Sg) (u0 : Int64), w_X4_calculate_101 th Q X σ u0 → RG σ → TY σ → Ext σi σ → kO σ th 4 → JJ p l e R s m args below meth c 6 D cA A n0 s0 QM σ 101 [(0, .ref th)] [.long u0] := by
  intro σ u0 h hGσ hYσ hE hth H locs ls hH hl hc
  have B := K.1
  have hl9 := K.2.2.2.2.2.2
  unfold w_X4_calculate_101 at h
  exact hQ _ _ _ _ _ _ dX4_calculate_101 hH hc h hGσ hYσ hE
set_option maxRecDepth 20000 in
theorem a_X4_calculate_100 {Q : Sg → Int64 → Prop} {X : Sg → String → Prop} {th : Nat} (K : MD l R p s m args c cX4_calculate 6 RX4 D cA tys A n0 s0 0 0 []) (hQ : CQJ p l e R s m args below meth c cX4_calculate D cA A n0 s0 QM σi Q) (hX : CX p l e R s m args below meth c 6 D cA A n0 s0 QM σi X) (hTh : CT p l e R s m args below meth c cX4_calculate 6 D cA A n0 s0 QM σi RX4 X) : ∀ (σ : Sg), w_X4_calculate_100 th Q X σ → RG σ → TY σ → Ext σi σ → kO σ th 4 → JJ p l e R s m args below meth c 6 D cA A n0 s0 QM σ 100 [(0, .ref th)] [] := by
  intro σ h hGσ hYσ hE hth H locs ls hH hl hc
  have B := K.1
  have hl9 := K.2.2.2.2.2.2
  unfold w_X4_calculate_100 at h
  refine lv_lconst (v := 0) B.1 B.2.1 dX4_calculate_100 (by decide) ?_
  exact a_X4_calculate_101 K hQ hX hTh _ _ h hGσ hYσ hE hth _ _ _ hH (lv_sub (l' := [(0, .ref th)]) hl [0] rfl) hc
set_option maxRecDepth 20000 in
theorem a_X4_calculate_96 {Q : Sg → Int64 → Prop} {X : Sg → String → Prop} {th : Nat} (K : MD l R p s m args c cX4_calculate 6 RX4 D cA tys A n0 s0 0 0 []) (hQ : CQJ p l e R s m args below meth c cX4_calculate D cA A n0 s0 QM σi Q) (hX : CX p l e R s m args below meth c 6 D cA A n0 s0 QM σi X) (hTh : CT p l e R s m args below meth c cX4_calculate 6 D cA A n0 s0 QM σi RX4 X) : ∀ (σ : Sg), w_X4_calculate_96 th Q X σ → RG σ → TY σ → Ext σi σ → kO σ th 4 → JJ p l e R s m args below meth c 6 D cA A n0 s0 QM σ 96 [(0, .ref th)] [] := by
  intro σ h hGσ hYσ hE hth H locs ls hH hl hc
  have B := K.1
  have hl9 := K.2.2.2.2.2.2
  unfold w_X4_calculate_96 at h
  refine lv_lconst (v := 1) B.1 B.2.1 dX4_calculate_96 (by decide) ?_
  refine lv_goto (tgt := 101) B.1 B.2.1 dX4_calculate_97 (by decide) ?_
  exact a_X4_calculate_101 K hQ hX hTh _ _ h hGσ hYσ hE hth _ _ _ hH (lv_sub (l' := [(0, .ref th)]) hl [0] rfl) hc
set_option maxRecDepth 20000 in
theorem a_X4_calculate_89 {Q : Sg → Int64 → Prop} {X : Sg → String → Prop} {th : Nat} (K : MD l R p s m args c cX4_calculate 6 RX4 D cA tys A n0 s0 0 0 []) (hQ : CQJ p l e R s m args below meth c cX4_calculate D cA A n0 s0 QM σi Q) (hX : CX p l e R s m args below meth c 6 D cA A n0 s0 QM σi X) (hTh : CT p l e R s m args below meth c cX4_calculate 6 D cA A n0 s0 QM σi RX4 X) : ∀ (σ : Sg) (v2 : Int64) (v4 : Int64), w_X4_calculate_89 th Q X σ v2 v4 → RG σ → TY σ → Ext σi σ → kO σ th 4 → JJ p l e R s m args below meth c 6 D cA A n0 s0 QM σ 89 [(0, .ref th), (2, .long v2), (4, .long v4)] [] := by
  intro σ v2 v4 h hGσ hYσ hE hth H locs ls hH hl hc
  have B := K.1
  have hl9 := K.2.2.2.2.2.2
  unfold w_X4_calculate_89 at h
  refine lv_lload_n B.1 B.2.1 dX4_calculate_89 rfl (lv_at hl 1 rfl) ?_
  refine lv_lload B.1 B.2.1 dX4_calculate_90 (lv_at hl 2 rfl) ?_
  refine W.lcmp B.1 B.2.1 dX4_calculate_92 ?_
  refine lv_if_ne (tgt := 100) B.1 B.2.1 dX4_calculate_93 (by decide) (fun h9 => ?_) (fun h9 => ?_)
  · rw [if_pos (fun q => h9 ((lg_cmp_eq _ _).mpr q))] at h
    exact a_X4_calculate_100 K hQ hX hTh _ h hGσ hYσ hE hth _ _ _ hH (lv_sub (l' := [(0, .ref th)]) hl [0] rfl) hc
  · rw [if_neg (fun q => q ((lg_cmp_eq _ _).mp h9))] at h
    exact a_X4_calculate_96 K hQ hX hTh _ h hGσ hYσ hE hth _ _ _ hH (lv_sub (l' := [(0, .ref th)]) hl [0] rfl) hc
set_option maxRecDepth 20000 in
theorem a_X4_calculate_133 {Q : Sg → Int64 → Prop} {X : Sg → String → Prop} {th : Nat} (K : MD l R p s m args c cX4_calculate 6 RX4 D cA tys A n0 s0 0 0 []) (hQ : CQJ p l e R s m args below meth c cX4_calculate D cA A n0 s0 QM σi Q) (hX : CX p l e R s m args below meth c 6 D cA A n0 s0 QM σi X) (hTh : CT p l e R s m args below meth c cX4_calculate 6 D cA A n0 s0 QM σi RX4 X) : ∀ (σ : Sg) (u0 : Int64), w_X4_calculate_133 th Q X σ u0 → RG σ → TY σ → Ext σi σ → kO σ th 4 → JJ p l e R s m args below meth c 6 D cA A n0 s0 QM σ 133 [(0, .ref th)] [.long u0] := by
  intro σ u0 h hGσ hYσ hE hth H locs ls hH hl hc
  have B := K.1
  have hl9 := K.2.2.2.2.2.2
  unfold w_X4_calculate_133 at h
  exact hQ _ _ _ _ _ _ dX4_calculate_133 hH hc h hGσ hYσ hE
set_option maxRecDepth 20000 in
theorem a_X4_calculate_129 {Q : Sg → Int64 → Prop} {X : Sg → String → Prop} {th : Nat} (K : MD l R p s m args c cX4_calculate 6 RX4 D cA tys A n0 s0 0 0 []) (hQ : CQJ p l e R s m args below meth c cX4_calculate D cA A n0 s0 QM σi Q) (hX : CX p l e R s m args below meth c 6 D cA A n0 s0 QM σi X) (hTh : CT p l e R s m args below meth c cX4_calculate 6 D cA A n0 s0 QM σi RX4 X) : ∀ (σ : Sg) (v2 : Int64) (v4 : Int64), w_X4_calculate_129 th Q X σ v2 v4 → RG σ → TY σ → Ext σi σ → kO σ th 4 → JJ p l e R s m args below meth c 6 D cA A n0 s0 QM σ 129 [(0, .ref th), (2, .long v2), (4, .long v4)] [] := by
  intro σ v2 v4 h hGσ hYσ hE hth H locs ls hH hl hc
  have B := K.1
  have hl9 := K.2.2.2.2.2.2
  unfold w_X4_calculate_129 at h
  refine lv_lload_n B.1 B.2.1 dX4_calculate_129 rfl (lv_at hl 1 rfl) ?_
  refine lv_lload B.1 B.2.1 dX4_calculate_130 (lv_at hl 2 rfl) ?_
  obtain ⟨q1, h⟩ := h
  refine lv_lrem B.1 B.2.1 dX4_calculate_132 q1 ?_
  exact a_X4_calculate_133 K hQ hX hTh _ _ h hGσ hYσ hE hth _ _ _ hH (lv_sub (l' := [(0, .ref th)]) hl [0] rfl) hc
set_option maxRecDepth 20000 in
theorem a_X4_calculate_122 {Q : Sg → Int64 → Prop} {X : Sg → String → Prop} {th : Nat} (K : MD l R p s m args c cX4_calculate 6 RX4 D cA tys A n0 s0 0 0 []) (hQ : CQJ p l e R s m args below meth c cX4_calculate D cA A n0 s0 QM σi Q) (hX : CX p l e R s m args below meth c 6 D cA A n0 s0 QM σi X) (hTh : CT p l e R s m args below meth c cX4_calculate 6 D cA A n0 s0 QM σi RX4 X) : ∀ (σ : Sg) (v2 : Int64) (v4 : Int64), w_X4_calculate_122 th Q X σ v2 v4 → RG σ → TY σ → Ext σi σ → kO σ th 4 → JJ p l e R s m args below meth c 6 D cA A n0 s0 QM σ 122 [(0, .ref th), (2, .long v2), (4, .long v4)] [] := by
  intro σ v2 v4 h hGσ hYσ hE hth H locs ls hH hl hc
  have B := K.1
  have hl9 := K.2.2.2.2.2.2
  unfold w_X4_calculate_122 at h
  refine lv_lload_n B.1 B.2.1 dX4_calculate_122 rfl (lv_at hl 1 rfl) ?_
  refine lv_lload B.1 B.2.1 dX4_calculate_123 (lv_at hl 2 rfl) ?_
  obtain ⟨q1, h⟩ := h
  refine lv_ldiv B.1 B.2.1 dX4_calculate_125 q1 ?_
  refine lv_goto (tgt := 133) B.1 B.2.1 dX4_calculate_126 (by decide) ?_
  exact a_X4_calculate_133 K hQ hX hTh _ _ h hGσ hYσ hE hth _ _ _ hH (lv_sub (l' := [(0, .ref th)]) hl [0] rfl) hc
set_option maxRecDepth 20000 in
theorem a_X4_calculate_116 {Q : Sg → Int64 → Prop} {X : Sg → String → Prop} {th : Nat} (K : MD l R p s m args c cX4_calculate 6 RX4 D cA tys A n0 s0 0 0 []) (hQ : CQJ p l e R s m args below meth c cX4_calculate D cA A n0 s0 QM σi Q) (hX : CX p l e R s m args below meth c 6 D cA A n0 s0 QM σi X) (hTh : CT p l e R s m args below meth c cX4_calculate 6 D cA A n0 s0 QM σi RX4 X) : ∀ (σ : Sg) (v1 : Int) (v2 : Int64) (v4 : Int64) (g1 : rng v1), w_X4_calculate_116 th Q X σ v1 v2 v4 → RG σ → TY σ → Ext σi σ → kO σ th 4 → JJ p l e R s m args below meth c 6 D cA A n0 s0 QM σ 116 [(0, .ref th), (1, .int (i32 v1)), (2, .long v2), (4, .long v4)] [] := by
  intro σ v1 v2 v4 g1 h hGσ hYσ hE hth H locs ls hH hl hc
  have B := K.1
  have hl9 := K.2.2.2.2.2.2
  unfold w_X4_calculate_116 at h
  refine lv_iload_n B.1 B.2.1 dX4_calculate_116 rfl (lv_at hl 1 rfl) ?_
  refine lv_bipush (v := i32 14) B.1 B.2.1 dX4_calculate_117 (by decide) ?_
  refine lv_icmp_ne (tgt := 129) B.1 B.2.1 dX4_calculate_119 (by decide) (fun h9 => ?_) (fun h9 => ?_)
  · rw [if_pos (fun q => h9 ((i32_eq g1 (by unfold rng; omega)).mpr q))] at h
    exact a_X4_calculate_129 K hQ hX hTh _ _ _ h hGσ hYσ hE hth _ _ _ hH (lv_sub (l' := [(0, .ref th), (2, .long v2), (4, .long v4)]) hl [0, 2, 3] rfl) hc
  · rw [if_neg (fun q => q ((i32_eq g1 (by unfold rng; omega)).mp h9))] at h
    exact a_X4_calculate_122 K hQ hX hTh _ _ _ h hGσ hYσ hE hth _ _ _ hH (lv_sub (l' := [(0, .ref th), (2, .long v2), (4, .long v4)]) hl [0, 2, 3] rfl) hc
set_option maxRecDepth 20000 in
theorem a_X4_calculate_109 {Q : Sg → Int64 → Prop} {X : Sg → String → Prop} {th : Nat} (K : MD l R p s m args c cX4_calculate 6 RX4 D cA tys A n0 s0 0 0 []) (hQ : CQJ p l e R s m args below meth c cX4_calculate D cA A n0 s0 QM σi Q) (hX : CX p l e R s m args below meth c 6 D cA A n0 s0 QM σi X) (hTh : CT p l e R s m args below meth c cX4_calculate 6 D cA A n0 s0 QM σi RX4 X) : ∀ (σ : Sg), w_X4_calculate_109 th Q X σ → RG σ → TY σ → Ext σi σ → kO σ th 4 → JJ p l e R s m args below meth c 6 D cA A n0 s0 QM σ 109 [(0, .ref th)] [] := by
  intro σ h hGσ hYσ hE hth H locs ls hH hl hc
  have B := K.1
  have hl9 := K.2.2.2.2.2.2
  unfold w_X4_calculate_109 at h
  refine lv_aload_n B.1 B.2.1 dX4_calculate_109 rfl (lv_at hl 0 rfl) ?_
  refine lv_iconst (v := i32 1) B.1 B.2.1 dX4_calculate_110 (by decide) ?_
  obtain ⟨σ3, eσ3⟩ : ∃ z, z = pI σ th 10 1 := ⟨_, rfl⟩
  have h := h σ3 eσ3
  refine f_puti B hH hth (by decide) rfl wu_X4 tyX4 tyX4_ok nmX4 10 (by decide) wf_X4_91 rfl (ty := .boolean) rfl rfl rfl rfl rfl dX4_calculate_111 (fun H locs hH => ?_)
  have hH : Hd D cA A s (pI σ th 10 1) H locs := hH
  rw [← eσ3] at hH
  have hGσ3 : RG σ3 := by rw [eσ3]; exact hGσ.pI (by unfold rng; omega)
  have hYσ3 : TY σ3 := by rw [eσ3]; exact hYσ.pI
  have xσ3 : Ext σ σ3 := by rw [eσ3]; exact Ext.pI
  have hc : CB n0 s0 σ3 := by rw [eσ3]; exact hc
  rw [show gc σ = gc σ3 by rw [eσ3]; try rfl, show gs σ = gs σ3 by rw [eσ3]; try rfl]
  refine lv_lconst (v := 0) B.1 B.2.1 dX4_calculate_114 (by decide) ?_
  exact hQ _ _ _ _ _ _ dX4_calculate_115 hH hc h hGσ3 hYσ3 (hE.trans xσ3)
set_option maxRecDepth 20000 in
theorem a_X4_calculate_102 {Q : Sg → Int64 → Prop} {X : Sg → String → Prop} {th : Nat} (K : MD l R p s m args c cX4_calculate 6 RX4 D cA tys A n0 s0 0 0 []) (hQ : CQJ p l e R s m args below meth c cX4_calculate D cA A n0 s0 QM σi Q) (hX : CX p l e R s m args below meth c 6 D cA A n0 s0 QM σi X) (hTh : CT p l e R s m args below meth c cX4_calculate 6 D cA A n0 s0 QM σi RX4 X) : ∀ (σ : Sg) (v1 : Int) (v2 : Int64) (v4 : Int64) (g1 : rng v1), w_X4_calculate_102 th Q X σ v1 v2 v4 → RG σ → TY σ → Ext σi σ → kO σ th 4 → JJ p l e R s m args below meth c 6 D cA A n0 s0 QM σ 102 [(0, .ref th), (1, .int (i32 v1)), (2, .long v2), (4, .long v4)] [] := by
  intro σ v1 v2 v4 g1 h hGσ hYσ hE hth H locs ls hH hl hc
  have B := K.1
  have hl9 := K.2.2.2.2.2.2
  unfold w_X4_calculate_102 at h
  refine lv_lload B.1 B.2.1 dX4_calculate_102 (lv_at hl 3 rfl) ?_
  refine lv_lconst (v := 0) B.1 B.2.1 dX4_calculate_104 (by decide) ?_
  refine W.lcmp B.1 B.2.1 dX4_calculate_105 ?_
  refine lv_if_ne (tgt := 116) B.1 B.2.1 dX4_calculate_106 (by decide) (fun h9 => ?_) (fun h9 => ?_)
  · rw [if_pos (fun q => h9 ((lg_cmp_eq _ _).mpr q))] at h
    exact a_X4_calculate_116 K hQ hX hTh _ _ _ _ g1 h hGσ hYσ hE hth _ _ _ hH (lv_sub (l' := [(0, .ref th), (1, .int (i32 v1)), (2, .long v2), (4, .long v4)]) hl [0, 1, 2, 3] rfl) hc
  · rw [if_neg (fun q => q ((lg_cmp_eq _ _).mp h9))] at h
    exact a_X4_calculate_109 K hQ hX hTh _ h hGσ hYσ hE hth _ _ _ hH (lv_sub (l' := [(0, .ref th)]) hl [0] rfl) hc
set_option maxRecDepth 20000 in
theorem a_X4_calculate_0 {Q : Sg → Int64 → Prop} {X : Sg → String → Prop} {th : Nat} (K : MD l R p s m args c cX4_calculate 6 RX4 D cA tys A n0 s0 0 0 []) (hQ : CQJ p l e R s m args below meth c cX4_calculate D cA A n0 s0 QM σi Q) (hX : CX p l e R s m args below meth c 6 D cA A n0 s0 QM σi X) (hTh : CT p l e R s m args below meth c cX4_calculate 6 D cA A n0 s0 QM σi RX4 X) : ∀ (σ : Sg) (v1 : Int) (v2 : Int64) (v4 : Int64) (g1 : rng v1), w_X4_calculate_0 th Q X σ v1 v2 v4 → RG σ → TY σ → Ext σi σ → kO σ th 4 → JJ p l e R s m args below meth c 6 D cA A n0 s0 QM σ 0 [(0, .ref th), (1, .int (i32 v1)), (2, .long v2), (4, .long v4)] [] := by
  intro σ v1 v2 v4 g1 h hGσ hYσ hE hth H locs ls hH hl hc
  have B := K.1
  have hl9 := K.2.2.2.2.2.2
  unfold w_X4_calculate_0 at h
  refine lv_iload_n B.1 B.2.1 dX4_calculate_0 rfl (lv_at hl 1 rfl) ?_
  rcases Classical.em (v1 = 11) with e9 | e9
  · rw [if_pos e9] at h
    refine lv_tableIn (off := 47) (tgt := 48) B.1 B.2.1 dX4_calculate_1 (by rw [i32_toInt g1, e9]; decide) (by rw [i32_toInt g1, e9]; decide) (by rw [i32_toInt g1, e9]; rfl) (by decide) ?_
    exact a_X4_calculate_48 K hQ hX hTh _ _ _ h hGσ hYσ hE hth _ _ _ hH (lv_sub (l' := [(0, .ref th), (2, .long v2), (4, .long v4)]) hl [0, 2, 3] rfl) hc
  rw [if_neg e9] at h
  have k1 := e9
  rcases Classical.em (v1 = 12) with e9 | e9
  · rw [if_pos e9] at h
    refine lv_tableIn (off := 52) (tgt := 53) B.1 B.2.1 dX4_calculate_1 (by rw [i32_toInt g1, e9]; decide) (by rw [i32_toInt g1, e9]; decide) (by rw [i32_toInt g1, e9]; rfl) (by decide) ?_
    exact a_X4_calculate_53 K hQ hX hTh _ _ _ h hGσ hYσ hE hth _ _ _ hH (lv_sub (l' := [(0, .ref th), (2, .long v2), (4, .long v4)]) hl [0, 2, 3] rfl) hc
  rw [if_neg e9] at h
  have k2 := e9
  rcases Classical.em (v1 = 13) with e9 | e9
  · rw [if_pos e9] at h
    refine lv_tableIn (off := 57) (tgt := 58) B.1 B.2.1 dX4_calculate_1 (by rw [i32_toInt g1, e9]; decide) (by rw [i32_toInt g1, e9]; decide) (by rw [i32_toInt g1, e9]; rfl) (by decide) ?_
    exact a_X4_calculate_58 K hQ hX hTh _ _ _ h hGσ hYσ hE hth _ _ _ hH (lv_sub (l' := [(0, .ref th), (2, .long v2), (4, .long v4)]) hl [0, 2, 3] rfl) hc
  rw [if_neg e9] at h
  have k3 := e9
  rcases Classical.em (v1 = 16) with e9 | e9
  · rw [if_pos e9] at h
    refine lv_tableIn (off := 62) (tgt := 63) B.1 B.2.1 dX4_calculate_1 (by rw [i32_toInt g1, e9]; decide) (by rw [i32_toInt g1, e9]; decide) (by rw [i32_toInt g1, e9]; rfl) (by decide) ?_
    exact a_X4_calculate_63 K hQ hX hTh _ _ _ h hGσ hYσ hE hth _ _ _ hH (lv_sub (l' := [(0, .ref th), (2, .long v2), (4, .long v4)]) hl [0, 2, 3] rfl) hc
  rw [if_neg e9] at h
  have k4 := e9
  rcases Classical.em (v1 = 17) with e9 | e9
  · rw [if_pos e9] at h
    refine lv_tableIn (off := 75) (tgt := 76) B.1 B.2.1 dX4_calculate_1 (by rw [i32_toInt g1, e9]; decide) (by rw [i32_toInt g1, e9]; decide) (by rw [i32_toInt g1, e9]; rfl) (by decide) ?_
    exact a_X4_calculate_76 K hQ hX hTh _ _ _ h hGσ hYσ hE hth _ _ _ hH (lv_sub (l' := [(0, .ref th), (2, .long v2), (4, .long v4)]) hl [0, 2, 3] rfl) hc
  rw [if_neg e9] at h
  have k5 := e9
  rcases Classical.em (v1 = 18) with e9 | e9
  · rw [if_pos e9] at h
    refine lv_tableIn (off := 88) (tgt := 89) B.1 B.2.1 dX4_calculate_1 (by rw [i32_toInt g1, e9]; decide) (by rw [i32_toInt g1, e9]; decide) (by rw [i32_toInt g1, e9]; rfl) (by decide) ?_
    exact a_X4_calculate_89 K hQ hX hTh _ _ _ h hGσ hYσ hE hth _ _ _ hH (lv_sub (l' := [(0, .ref th), (2, .long v2), (4, .long v4)]) hl [0, 2, 3] rfl) hc
  rw [if_neg e9] at h
  have k6 := e9
  rcases (show (v1 < 11 ∨ 18 < v1) ∨ v1 = 14 ∨ v1 = 15 by omega) with e9 | e9 | e9
  · refine lv_tableOut (tgt := 102) B.1 B.2.1 dX4_calculate_1 (by rw [i32_toInt g1]; exact e9) (by decide) ?_
    exact a_X4_calculate_102 K hQ hX hTh _ _ _ _ g1 h hGσ hYσ hE hth _ _ _ hH (lv_sub (l' := [(0, .ref th), (1, .int (i32 v1)), (2, .long v2), (4, .long v4)]) hl [0, 1, 2, 3] rfl) hc
  · refine lv_tableIn (off := 101) (tgt := 102) B.1 B.2.1 dX4_calculate_1 (by rw [i32_toInt g1, e9]; decide) (by rw [i32_toInt g1, e9]; decide) (by rw [i32_toInt g1, e9]; rfl) (by decide) ?_
    exact a_X4_calculate_102 K hQ hX hTh _ _ _ _ g1 h hGσ hYσ hE hth _ _ _ hH (lv_sub (l' := [(0, .ref th), (1, .int (i32 v1)), (2, .long v2), (4, .long v4)]) hl [0, 1, 2, 3] rfl) hc
  · refine lv_tableIn (off := 101) (tgt := 102) B.1 B.2.1 dX4_calculate_1 (by rw [i32_toInt g1, e9]; decide) (by rw [i32_toInt g1, e9]; decide) (by rw [i32_toInt g1, e9]; rfl) (by decide) ?_
    exact a_X4_calculate_102 K hQ hX hTh _ _ _ _ g1 h hGσ hYσ hE hth _ _ _ hH (lv_sub (l' := [(0, .ref th), (1, .int (i32 v1)), (2, .long v2), (4, .long v4)]) hl [0, 1, 2, 3] rfl) hc
theorem ok_X4_calculate (hl0 : l.stackTraces = false) (hT : TyC cA tys) {Q : Sg → Int64 → Prop} {X : Sg → String → Prop} (σ : Sg) (th : Nat) (v1 : Int) (v2 : Int64) (v4 : Int64) (g1 : rng v1) (hth : kO σ th 4) (hG : RG σ) (hY : TY σ) (h : wp_X4_calculate th v1 v2 v4 σ Q X) : Ok l D cA tys A yX4_calculate (.code yX4_calculate cX4_calculate 6 (some .long)) 0 0 [.ref th, .int (i32 v1), .long v2, .long v4] σ (QcJ σ Q) (QxC σ X) := by
  unfold wp_X4_calculate at h
  exact oc_J hl0 (by decide) (by exact Nat.le_of_ble_eq_true rfl) hT (fun p e R s m args below meth c K hQ hX hTh H locs ls hH hl hc => a_X4_calculate_0 K hQ hX hTh σ v1 v2 v4 g1 h hG hY (Ext.rfl' σ) hth H locs ls hH (lv_sub (l' := [(0, .ref th), (1, .int (i32 v1)), (2, .long v2), (4, .long v4)]) hl [0, 1, 2, 3] rfl) hc)
theorem dX4_pop_0 : decode cX4_pop 0 = .ok (.aload_n 0, 1) := by decide +kernel
theorem dX4_pop_1 : decode cX4_pop 1 = .ok (.getfield 95, 3) := by decide +kernel
theorem dX4_pop_4 : decode cX4_pop 4 = .ok (.ifCond .ne 5, 3) := by decide +kernel
theorem dX4_pop_7 : decode cX4_pop 7 = .ok (.lconst 0, 1) := by decide +kernel
theorem dX4_pop_8 : decode cX4_pop 8 = .ok (.lreturn, 1) := by decide +kernel
theorem dX4_pop_9 : decode cX4_pop 9 = .ok (.aload_n 0, 1) := by decide +kernel
theorem dX4_pop_10 : decode cX4_pop 10 = .ok (.dup, 1) := by decide +kernel
theorem dX4_pop_11 : decode cX4_pop 11 = .ok (.getfield 95, 3) := by decide +kernel
theorem dX4_pop_14 : decode cX4_pop 14 = .ok (.iconst 1, 1) := by decide +kernel
theorem dX4_pop_15 : decode cX4_pop 15 = .ok (.isub, 1) := by decide +kernel
theorem dX4_pop_16 : decode cX4_pop 16 = .ok (.putfield 95, 3) := by decide +kernel
theorem dX4_pop_19 : decode cX4_pop 19 = .ok (.aload_n 0, 1) := by decide +kernel
theorem dX4_pop_20 : decode cX4_pop 20 = .ok (.getfield 31, 3) := by decide +kernel
theorem dX4_pop_23 : decode cX4_pop 23 = .ok (.aload_n 0, 1) := by decide +kernel
theorem dX4_pop_24 : decode cX4_pop 24 = .ok (.getfield 95, 3) := by decide +kernel
theorem dX4_pop_27 : decode cX4_pop 27 = .ok (.laload, 1) := by decide +kernel
theorem dX4_pop_28 : decode cX4_pop 28 = .ok (.lreturn, 1) := by decide +kernel
set_option maxRecDepth 20000 in
theorem a_X4_pop_9 {Q : Sg → Int64 → Prop} {X : Sg → String → Prop} {th : Nat} (K : MD l R p s m args c cX4_pop 1 RX4 D cA tys A n0 s0 0 0 []) (hQ : CQJ p l e R s m args below meth c cX4_pop D cA A n0 s0 QM σi Q) (hX : CX p l e R s m args below meth c 1 D cA A n0 s0 QM σi X) (hTh : CT p l e R s m args below meth c cX4_pop 1 D cA A n0 s0 QM σi RX4 X) : ∀ (σ : Sg), w_X4_pop_9 th Q X σ → RG σ → TY σ → Ext σi σ → kO σ th 4 → JJ p l e R s m args below meth c 1 D cA A n0 s0 QM σ 9 [(0, .ref th)] [] := by
  intro σ h hGσ hYσ hE hth H locs ls hH hl hc
  have B := K.1
  have hl9 := K.2.2.2.2.2.2
  unfold w_X4_pop_9 at h
  refine lv_aload_n B.1 B.2.1 dX4_pop_9 rfl (lv_at hl 0 rfl) ?_
  refine lv_dup B.1 B.2.1 dX4_pop_10 rfl ?_
  refine f_geti B hH hth (by decide) rfl wu_X4 9 (by decide) wf_X4_95 rfl rfl dX4_pop_11 ?_
  refine lv_iconst (v := i32 1) B.1 B.2.1 dX4_pop_14 (by decide) ?_
  obtain ⟨q1, h⟩ := h
  refine lv_isub B.1 B.2.1 dX4_pop_15 ?_
  rw [i32_sub]
  obtain ⟨σ5, eσ5⟩ : ∃ z, z = pI σ th 9 (gI σ th 9 - 1) := ⟨_, rfl⟩
  have h := h σ5 eσ5
  refine f_puti B hH hth (by decide) rfl wu_X4 tyX4 tyX4_ok nmX4 9 (by decide) wf_X4_95 rfl (ty := .int) rfl rfl rfl rfl rfl dX4_pop_16 (fun H locs hH => ?_)
  have hH : Hd D cA A s (pI σ th 9 (gI σ th 9 - 1)) H locs := hH
  rw [← eσ5] at hH
  have hGσ5 : RG σ5 := by rw [eσ5]; exact hGσ.pI q1
  have hYσ5 : TY σ5 := by rw [eσ5]; exact hYσ.pI
  have xσ5 : Ext σ σ5 := by rw [eσ5]; exact Ext.pI
  have hc : CB n0 s0 σ5 := by rw [eσ5]; exact hc
  rw [show gc σ = gc σ5 by rw [eσ5]; try rfl, show gs σ = gs σ5 by rw [eσ5]; try rfl]
  refine lv_aload_n B.1 B.2.1 dX4_pop_19 rfl (lv_at hl 0 rfl) ?_
  refine f_getp B hH (hth.up xσ5) (by decide) rfl wu_X4 8 (by decide) wf_X4_31 rfl rfl dX4_pop_20 ?_
  refine lv_aload_n B.1 B.2.1 dX4_pop_23 rfl (lv_at hl 0 rfl) ?_
  refine f_geti B hH (hth.up xσ5) (by decide) rfl wu_X4 9 (by decide) wf_X4_95 rfl rfl dX4_pop_24 ?_
  obtain ⟨a6, ea6, h⟩ := h
  have ka6 : kO σ5 a6 101 := (hYσ5.get (hth.up xσ5) (by decide)) a6 ea6
  have h := h ka6
  obtain ⟨q2, h⟩ := h
  refine W.eq (g2 := F0 m 27 ls [.int (i32 (gI σ5 th 9)), .ref a6]) (by rw [ea6]; rfl) ?_
  refine y_lald B K.2.1 hH ka6 q2 dX4_pop_27 (hYσ5.2 _) ?_
  exact hQ _ _ _ _ _ _ dX4_pop_28 hH hc h hGσ5 hYσ5 (hE.trans xσ5)
set_option maxRecDepth 20000 in
theorem a_X4_pop_7 {Q : Sg → Int64 → Prop} {X : Sg → String → Prop} {th : Nat} (K : MD l R p s m args c cX4_pop 1 RX4 D cA tys A n0 s0 0 0 []) (hQ : CQJ p l e R s m args below meth c cX4_pop D cA A n0 s0 QM σi Q) (hX : CX p l e R s m args below meth c 1 D cA A n0 s0 QM σi X) (hTh : CT p l e R s m args below meth c cX4_pop 1 D cA A n0 s0 QM σi RX4 X) : ∀ (σ : Sg), w_X4_pop_7 th Q X σ → RG σ → TY σ → Ext σi σ → kO σ th 4 → JJ p l e R s m args below meth c 1 D cA A n0 s0 QM σ 7 [(0, .ref th)] [] := by
  intro σ h hGσ hYσ hE hth H locs ls hH hl hc
  have B := K.1
  have hl9 := K.2.2.2.2.2.2
  unfold w_X4_pop_7 at h
  refine lv_lconst (v := 0) B.1 B.2.1 dX4_pop_7 (by decide) ?_
  exact hQ _ _ _ _ _ _ dX4_pop_8 hH hc h hGσ hYσ hE
set_option maxRecDepth 20000 in
theorem a_X4_pop_0 {Q : Sg → Int64 → Prop} {X : Sg → String → Prop} {th : Nat} (K : MD l R p s m args c cX4_pop 1 RX4 D cA tys A n0 s0 0 0 []) (hQ : CQJ p l e R s m args below meth c cX4_pop D cA A n0 s0 QM σi Q) (hX : CX p l e R s m args below meth c 1 D cA A n0 s0 QM σi X) (hTh : CT p l e R s m args below meth c cX4_pop 1 D cA A n0 s0 QM σi RX4 X) : ∀ (σ : Sg), w_X4_pop_0 th Q X σ → RG σ → TY σ → Ext σi σ → kO σ th 4 → JJ p l e R s m args below meth c 1 D cA A n0 s0 QM σ 0 [(0, .ref th)] [] := by
  intro σ h hGσ hYσ hE hth H locs ls hH hl hc
  have B := K.1
  have hl9 := K.2.2.2.2.2.2
  unfold w_X4_pop_0 at h
  refine lv_aload_n B.1 B.2.1 dX4_pop_0 rfl (lv_at hl 0 rfl) ?_
  refine f_geti B hH hth (by decide) rfl wu_X4 9 (by decide) wf_X4_95 rfl rfl dX4_pop_1 ?_
  refine lv_if_ne (tgt := 9) B.1 B.2.1 dX4_pop_4 (by decide) (fun h9 => ?_) (fun h9 => ?_)
  · rw [if_pos (fun q => h9 ((z_eq (hGσ _ _)).mpr q))] at h
    exact a_X4_pop_9 K hQ hX hTh _ h hGσ hYσ hE hth _ _ _ hH (lv_sub (l' := [(0, .ref th)]) hl [0] rfl) hc
  · rw [if_neg (fun q => q ((z_eq (hGσ _ _)).mp h9))] at h
    exact a_X4_pop_7 K hQ hX hTh _ h hGσ hYσ hE hth _ _ _ hH (lv_sub (l' := [(0, .ref th)]) hl [0] rfl) hc
theorem ok_X4_pop (hl0 : l.stackTraces = false) (hT : TyC cA tys) {Q : Sg → Int64 → Prop} {X : Sg → String → Prop} (σ : Sg) (th : Nat) (hth : kO σ th 4) (hG : RG σ) (hY : TY σ) (h : wp_X4_pop th σ Q X) : Ok l D cA tys A yX4_pop (.code yX4_pop cX4_pop 1 (some .long)) 0 0 [.ref th] σ (QcJ σ Q) (QxC σ X) := by
  unfold wp_X4_pop at h
  exact oc_J hl0 (by decide) (by exact Nat.le_of_ble_eq_true rfl) hT (fun p e R s m args below meth c K hQ hX hTh H locs ls hH hl hc => a_X4_pop_0 K hQ hX hTh σ h hG hY (Ext.rfl' σ) hth H locs ls hH (lv_sub (l' := [(0, .ref th)]) hl [0] rfl) hc)
theorem dX4_push_0 : decode cX4_push 0 = .ok (.aload_n 0, 1) := by decide +kernel
theorem dX4_push_1 : decode cX4_push 1 = .ok (.getfield 95, 3) := by decide +kernel
theorem dX4_push_4 : decode cX4_push 4 = .ok (.bipush 64, 2) := by decide +kernel
theorem dX4_push_6 : decode cX4_push 6 = .ok (.if_icmp .ge 23, 3) := by decide +kernel
theorem dX4_push_9 : decode cX4_push 9 = .ok (.aload_n 0, 1) := by decide +kernel
theorem dX4_push_10 : decode cX4_push 10 = .ok (.getfield 31, 3) := by decide +kernel
theorem dX4_push_13 : decode cX4_push 13 = .ok (.aload_n 0, 1) := by decide +kernel
theorem dX4_push_14 : decode cX4_push 14 = .ok (.getfield 95, 3) := by decide +kernel
theorem dX4_push_17 : decode cX4_push 17 = .ok (.lload_n 1, 1) := by decide +kernel
theorem dX4_push_18 : decode cX4_push 18 = .ok (.lastore, 1) := by decide +kernel
theorem dX4_push_19 : decode cX4_push 19 = .ok (.aload_n 0, 1) := by decide +kernel
theorem dX4_push_20 : decode cX4_push 20 = .ok (.dup, 1) := by decide +kernel
theorem dX4_push_21 : decode cX4_push 21 = .ok (.getfield 95, 3) := by decide +kernel
theorem dX4_push_24 : decode cX4_push 24 = .ok (.iconst 1, 1) := by decide +kernel
theorem dX4_push_25 : decode cX4_push 25 = .ok (.iadd, 1) := by decide +kernel
theorem dX4_push_26 : decode cX4_push 26 = .ok (.putfield 95, 3) := by decide +kernel
theorem dX4_push_29 : decode cX4_push 29 = .ok (.return_, 1) := by decide +kernel
set_option maxRecDepth 20000 in
theorem a_X4_push_29 {Q : Sg → Unit → Prop} {X : Sg → String → Prop} {th : Nat} (K : MD l R p s m args c cX4_push 3 RX4 D cA tys A n0 s0 0 0 []) (hQ : CQV p l e R s m args below meth c cX4_push D cA A n0 s0 QM σi Q) (hX : CX p l e R s m args below meth c 3 D cA A n0 s0 QM σi X) (hTh : CT p l e R s m args below meth c cX4_push 3 D cA A n0 s0 QM σi RX4 X) : ∀ (σ : Sg), w_X4_push_29 th Q X σ → RG σ → TY σ → Ext σi σ → kO σ th 4 → JJ p l e R s m args below meth c 3 D cA A n0 s0 QM σ 29 [(0, .ref th)] [] := by
  intro σ h hGσ hYσ hE hth H locs ls hH hl hc
  have B := K.1
  have hl9 := K.2.2.2.2.2.2
  unfold w_X4_push_29 at h
  exact hQ _ _ _ _ _ dX4_push_29 hH hc h hGσ hYσ hE
set_option maxRecDepth 20000 in
theorem a_X4_push_9 {Q : Sg → Unit → Prop} {X : Sg → String → Prop} {th : Nat} (K : MD l R p s m args c cX4_push 3 RX4 D cA tys A n0 s0 0 0 []) (hQ : CQV p l e R s m args below meth c cX4_push D cA A n0 s0 QM σi Q) (hX : CX p l e R s m args below meth c 3 D cA A n0 s0 QM σi X) (hTh : CT p l e R s m args below meth c cX4_push 3 D cA A n0 s0 QM σi RX4 X) : ∀ (σ : Sg) (v1 : Int64), w_X4_push_9 th Q X σ v1 → RG σ → TY σ → Ext σi σ → kO σ th 4 → JJ p l e R s m args below meth c 3 D cA A n0 s0 QM σ 9 [(0, .ref th), (1, .long v1)] [] := by
  intro σ v1 h hGσ hYσ hE hth H locs ls hH hl hc
  have B := K.1
  have hl9 := K.2.2.2.2.2.2
  unfold w_X4_push_9 at h
  refine lv_aload_n B.1 B.2.1 dX4_push_9 rfl (lv_at hl 0 rfl) ?_
  refine f_getp B hH hth (by decide) rfl wu_X4 8 (by decide) wf_X4_31 rfl rfl dX4_push_10 ?_
  refine lv_aload_n B.1 B.2.1 dX4_push_13 rfl (lv_at hl 0 rfl) ?_
  refine f_geti B hH hth (by decide) rfl wu_X4 9 (by decide) wf_X4_95 rfl rfl dX4_push_14 ?_
  refine lv_lload_n B.1 B.2.1 dX4_push_17 rfl (lv_at hl 1 rfl) ?_
  obtain ⟨a7, ea7, h⟩ := h
  have ka7 : kO σ a7 101 := (hYσ.get hth (by decide)) a7 ea7
  have h := h ka7
  obtain ⟨q1, h⟩ := h
  obtain ⟨σ8, eσ8⟩ : ∃ z, z = pJ σ a7 (gI σ th 9).toNat v1 := ⟨_, rfl⟩
  have h := h σ8 eσ8
  refine W.eq (g2 := F0 m 18 ls [.long v1, .int (i32 (gI σ th 9)), .ref a7]) (by rw [ea7]; rfl) ?_
  refine y_last B K.2.1 hH ka7 q1 dX4_push_18 (hYσ.2 _) (fun H locs hH => ?_)
  have hH : Hd D cA A s (pJ σ a7 (gI σ th 9).toNat v1) H locs := hH
  rw [← eσ8] at hH
  have hGσ8 : RG σ8 := by rw [eσ8]; exact hGσ.pJ
  have hYσ8 : TY σ8 := by rw [eσ8]; exact hYσ.pJ
  have xσ8 : Ext σ σ8 := by rw [eσ8]; exact Ext.pJ
  have hc : CB n0 s0 σ8 := by rw [eσ8]; exact hc
  rw [show gc σ = gc σ8 by rw [eσ8]; try rfl, show gs σ = gs σ8 by rw [eσ8]; try rfl]
  refine lv_aload_n B.1 B.2.1 dX4_push_19 rfl (lv_at hl 0 rfl) ?_
  refine lv_dup B.1 B.2.1 dX4_push_20 rfl ?_
  refine f_geti B hH (hth.up xσ8) (by decide) rfl wu_X4 9 (by decide) wf_X4_95 rfl rfl dX4_push_21 ?_
  refine lv_iconst (v := i32 1) B.1 B.2.1 dX4_push_24 (by decide) ?_
  obtain ⟨q2, h⟩ := h
  refine lv_iadd B.1 B.2.1 dX4_push_25 ?_
  rw [i32_add]
  obtain ⟨σ9, eσ9⟩ : ∃ z, z = pI σ8 th 9 (gI σ8 th 9 + 1) := ⟨_, rfl⟩
  have h := h σ9 eσ9
  refine f_puti B hH (hth.up xσ8) (by decide) rfl wu_X4 tyX4 tyX4_ok nmX4 9 (by decide) wf_X4_95 rfl (ty := .int) rfl rfl rfl rfl rfl dX4_push_26 (fun H locs hH => ?_)
  have hH : Hd D cA A s (pI σ8 th 9 (gI σ8 th 9 + 1)) H locs := hH
  rw [← eσ9] at hH
  have hGσ9 : RG σ9 := by rw [eσ9]; exact hGσ8.pI q2
  have hYσ9 : TY σ9 := by rw [eσ9]; exact hYσ8.pI
  have xσ9 : Ext σ8 σ9 := by rw [eσ9]; exact Ext.pI
  have hc : CB n0 s0 σ9 := by rw [eσ9]; exact hc
  rw [show gc σ8 = gc σ9 by rw [eσ9]; try rfl, show gs σ8 = gs σ9 by rw [eσ9]; try rfl]
  exact a_X4_push_29 K hQ hX hTh _ h hGσ9 hYσ9 ((hE.trans xσ8).trans xσ9) (hth.up (xσ8.trans xσ9)) _ _ _ hH (lv_sub (l' := [(0, .ref th)]) hl [0] rfl) hc
set_option maxRecDepth 20000 in
theorem a_X4_push_0 {Q : Sg → Unit → Prop} {X : Sg → String → Prop} {th : Nat} (K : MD l R p s m args c cX4_push 3 RX4 D cA tys A n0 s0 0 0 []) (hQ : CQV p l e R s m args below meth c cX4_push D cA A n0 s0 QM σi Q) (hX : CX p l e R s m args below meth c 3 D cA A n0 s0 QM σi X) (hTh : CT p l e R s m args below meth c cX4_push 3 D cA A n0 s0 QM σi RX4 X) : ∀ (σ : Sg) (v1 : Int64), w_X4_push_0 th Q X σ v1 → RG σ → TY σ → Ext σi σ → kO σ th 4 → JJ p l e R s m args below meth c 3 D cA A n0 s0 QM σ 0 [(0, .ref th), (1, .long v1)] [] := by
  intro σ v1 h hGσ hYσ hE hth H locs ls hH hl hc
  have B := K.1
  have hl9 := K.2.2.2.2.2.2
  unfold w_X4_push_0 at h
  refine lv_aload_n B.1 B.2.1 dX4_push_0 rfl (lv_at hl 0 rfl) ?_
  refine f_geti B hH hth (by decide) rfl wu_X4 9 (by decide) wf_X4_95 rfl rfl dX4_push_1 ?_
  refine lv_bipush (v := i32 64) B.1 B.2.1 dX4_push_4 (by decide) ?_
  refine lv_icmp_ge (tgt := 29) B.1 B.2.1 dX4_push_6 (by decide) (fun h9 => ?_) (fun h9 => ?_)
  · rw [if_pos ((i32_le (by unfold rng; omega) (hGσ _ _)).mp h9)] at h
    exact a_X4_push_29 K hQ hX hTh _ h hGσ hYσ hE hth _ _ _ hH (lv_sub (l' := [(0, .ref th)]) hl [0] rfl) hc
  · rw [if_neg (fun q => h9 ((i32_le (by unfold rng; omega) (hGσ _ _)).mpr q))] at h
    exact a_X4_push_9 K hQ hX hTh _ _ h hGσ hYσ hE hth _ _ _ hH (lv_sub (l' := [(0, .ref th), (1, .long v1)]) hl [0, 1] rfl) hc
theorem ok_X4_push (hl0 : l.stackTraces = false) (hT : TyC cA tys) {Q : Sg → Unit → Prop} {X : Sg → String → Prop} (σ : Sg) (th : Nat) (v1 : Int64) (hth : kO σ th 4) (hG : RG σ) (hY : TY σ) (h : wp_X4_push th v1 σ Q X) : Ok l D cA tys A yX4_push (.code yX4_push cX4_push 3 none) 0 0 [.ref th, .long v1] σ (QcV σ Q) (QxC σ X) := by
  unfold wp_X4_push at h
  exact oc_V hl0 (by decide) (by exact Nat.le_of_ble_eq_true rfl) hT (fun p e R s m args below meth c K hQ hX hTh hin9 H locs ls hH hl hc => a_X4_push_0 K hQ hX hTh σ v1 h hG hY (Ext.rfl' σ) hth H locs ls hH (lv_sub (l' := [(0, .ref th), (1, .long v1)]) hl [0, 1] rfl) hc)
theorem dX4_step_0 : decode cX4_step 0 = .ok (.aload_n 0, 1) := by decide +kernel
theorem dX4_step_1 : decode cX4_step 1 = .ok (.getfield 27, 3) := by decide +kernel
theorem dX4_step_4 : decode cX4_step 4 = .ok (.iload_n 1, 1) := by decide +kernel
theorem dX4_step_5 : decode cX4_step 5 = .ok (.laload, 1) := by decide +kernel
theorem dX4_step_6 : decode cX4_step 6 = .ok (.lstore_n 3, 1) := by decide +kernel
theorem dX4_step_7 : decode cX4_step 7 = .ok (.aload_n 0, 1) := by decide +kernel
theorem dX4_step_8 : decode cX4_step 8 = .ok (.getfield 24, 3) := by decide +kernel
theorem dX4_step_11 : decode cX4_step 11 = .ok (.iload_n 1, 1) := by decide +kernel
theorem dX4_step_12 : decode cX4_step 12 = .ok (.iaload, 1) := by decide +kernel
theorem dX4_step_13 : decode cX4_step 13 = .ok (.tableswitch 158 1 8 #[47, 55, 72, 83, 95, 116, 137, 140], 47) := by decide +kernel
theorem dX4_step_60 : decode cX4_step 60 = .ok (.aload_n 0, 1) := by decide +kernel
theorem dX4_step_61 : decode cX4_step 61 = .ok (.lload_n 3, 1) := by decide +kernel
theorem dX4_step_62 : decode cX4_step 62 = .ok (.invokevirtual 110, 3) := by decide +kernel
theorem dX4_step_65 : decode cX4_step 65 = .ok (.goto 160, 3) := by decide +kernel
theorem dX4_step_68 : decode cX4_step 68 = .ok (.aload_n 0, 1) := by decide +kernel
theorem dX4_step_69 : decode cX4_step 69 = .ok (.aload_n 2, 1) := by decide +kernel
theorem dX4_step_70 : decode cX4_step 70 = .ok (.getfield 75, 3) := by decide +kernel
theorem dX4_step_73 : decode cX4_step 73 = .ok (.lload_n 3, 1) := by decide +kernel
theorem dX4_step_74 : decode cX4_step 74 = .ok (.l2i, 1) := by decide +kernel
theorem dX4_step_75 : decode cX4_step 75 = .ok (.bipush 7, 2) := by decide +kernel
theorem dX4_step_77 : decode cX4_step 77 = .ok (.iand, 1) := by decide +kernel
theorem dX4_step_78 : decode cX4_step 78 = .ok (.laload, 1) := by decide +kernel
theorem dX4_step_79 : decode cX4_step 79 = .ok (.invokevirtual 110, 3) := by decide +kernel
theorem dX4_step_82 : decode cX4_step 82 = .ok (.goto 143, 3) := by decide +kernel
theorem dX4_step_85 : decode cX4_step 85 = .ok (.aload_n 0, 1) := by decide +kernel
theorem dX4_step_86 : decode cX4_step 86 = .ok (.aload_n 2, 1) := by decide +kernel
theorem dX4_step_87 : decode cX4_step 87 = .ok (.getfield 70, 3) := by decide +kernel
theorem dX4_step_90 : decode cX4_step 90 = .ok (.invokevirtual 110, 3) := by decide +kernel
theorem dX4_step_93 : decode cX4_step 93 = .ok (.goto 132, 3) := by decide +kernel
theorem dX4_step_96 : decode cX4_step 96 = .ok (.aload_n 0, 1) := by decide +kernel
theorem dX4_step_97 : decode cX4_step 97 = .ok (.aload_n 0, 1) := by decide +kernel
theorem dX4_step_98 : decode cX4_step 98 = .ok (.invokevirtual 102, 3) := by decide +kernel
theorem dX4_step_101 : decode cX4_step 101 = .ok (.lneg, 1) := by decide +kernel
theorem dX4_step_102 : decode cX4_step 102 = .ok (.invokevirtual 110, 3) := by decide +kernel
theorem dX4_step_105 : decode cX4_step 105 = .ok (.goto 120, 3) := by decide +kernel
theorem dX4_step_108 : decode cX4_step 108 = .ok (.aload_n 0, 1) := by decide +kernel
theorem dX4_step_109 : decode cX4_step 109 = .ok (.aload_n 0, 1) := by decide +kernel
theorem dX4_step_110 : decode cX4_step 110 = .ok (.invokevirtual 102, 3) := by decide +kernel
theorem dX4_step_113 : decode cX4_step 113 = .ok (.lconst 0, 1) := by decide +kernel
theorem dX4_step_114 : decode cX4_step 114 = .ok (.lcmp, 1) := by decide +kernel
theorem dX4_step_115 : decode cX4_step 115 = .ok (.ifCond .ne 7, 3) := by decide +kernel
theorem dX4_step_118 : decode cX4_step 118 = .ok (.lconst 1, 1) := by decide +kernel
theorem dX4_step_119 : decode cX4_step 119 = .ok (.goto 4, 3) := by decide +kernel
theorem dX4_step_122 : decode cX4_step 122 = .ok (.lconst 0, 1) := by decide +kernel
theorem dX4_step_123 : decode cX4_step 123 = .ok (.invokevirtual 110, 3) := by decide +kernel
theorem dX4_step_126 : decode cX4_step 126 = .ok (.goto 99, 3) := by decide +kernel
theorem dX4_step_129 : decode cX4_step 129 = .ok (.aload_n 0, 1) := by decide +kernel
theorem dX4_step_130 : decode cX4_step 130 = .ok (.aload_n 0, 1) := by decide +kernel
theorem dX4_step_131 : decode cX4_step 131 = .ok (.invokevirtual 102, 3) := by decide +kernel
theorem dX4_step_134 : decode cX4_step 134 = .ok (.lconst 0, 1) := by decide +kernel
theorem dX4_step_135 : decode cX4_step 135 = .ok (.lcmp, 1) := by decide +kernel
theorem dX4_step_136 : decode cX4_step 136 = .ok (.ifCond .ne 7, 3) := by decide +kernel
theorem dX4_step_139 : decode cX4_step 139 = .ok (.lconst 0, 1) := by decide +kernel
theorem dX4_step_140 : decode cX4_step 140 = .ok (.goto 4, 3) := by decide +kernel
theorem dX4_step_143 : decode cX4_step 143 = .ok (.lconst 1, 1) := by decide +kernel
theorem dX4_step_144 : decode cX4_step 144 = .ok (.invokevirtual 110, 3) := by decide +kernel
theorem dX4_step_147 : decode cX4_step 147 = .ok (.goto 78, 3) := by decide +kernel
theorem dX4_step_150 : decode cX4_step 150 = .ok (.lload_n 3, 1) := by decide +kernel
theorem dX4_step_151 : decode cX4_step 151 = .ok (.l2i, 1) := by decide +kernel
theorem dX4_step_152 : decode cX4_step 152 = .ok (.ireturn, 1) := by decide +kernel
theorem dX4_step_153 : decode cX4_step 153 = .ok (.aload_n 0, 1) := by decide +kernel
theorem dX4_step_154 : decode cX4_step 154 = .ok (.invokevirtual 102, 3) := by decide +kernel
theorem dX4_step_157 : decode cX4_step 157 = .ok (.lconst 0, 1) := by decide +kernel
theorem dX4_step_158 : decode cX4_step 158 = .ok (.lcmp, 1) := by decide +kernel
theorem dX4_step_159 : decode cX4_step 159 = .ok (.ifCond .ne 8, 3) := by decide +kernel
theorem dX4_step_162 : decode cX4_step 162 = .ok (.lload_n 3, 1) := by decide +kernel
theorem dX4_step_163 : decode cX4_step 163 = .ok (.l2i, 1) := by decide +kernel
theorem dX4_step_164 : decode cX4_step 164 = .ok (.goto 6, 3) := by decide +kernel
theorem dX4_step_167 : decode cX4_step 167 = .ok (.iload_n 1, 1) := by decide +kernel
theorem dX4_step_168 : decode cX4_step 168 = .ok (.iconst 1, 1) := by decide +kernel
theorem dX4_step_169 : decode cX4_step 169 = .ok (.iadd, 1) := by decide +kernel
theorem dX4_step_170 : decode cX4_step 170 = .ok (.ireturn, 1) := by decide +kernel
theorem dX4_step_171 : decode cX4_step 171 = .ok (.aload_n 0, 1) := by decide +kernel
theorem dX4_step_172 : decode cX4_step 172 = .ok (.invokevirtual 102, 3) := by decide +kernel
theorem dX4_step_175 : decode cX4_step 175 = .ok (.lconst 0, 1) := by decide +kernel
theorem dX4_step_176 : decode cX4_step 176 = .ok (.lcmp, 1) := by decide +kernel
theorem dX4_step_177 : decode cX4_step 177 = .ok (.ifCond .eq 7, 3) := by decide +kernel
theorem dX4_step_180 : decode cX4_step 180 = .ok (.iconst 1, 1) := by decide +kernel
theorem dX4_step_181 : decode cX4_step 181 = .ok (.goto 4, 3) := by decide +kernel
theorem dX4_step_184 : decode cX4_step 184 = .ok (.iconst 0, 1) := by decide +kernel
theorem dX4_step_185 : decode cX4_step 185 = .ok (.istore 5, 2) := by decide +kernel
theorem dX4_step_187 : decode cX4_step 187 = .ok (.iload 5, 2) := by decide +kernel
theorem dX4_step_189 : decode cX4_step 189 = .ok (.aload_n 0, 1) := by decide +kernel
theorem dX4_step_190 : decode cX4_step 190 = .ok (.getfield 24, 3) := by decide +kernel
theorem dX4_step_193 : decode cX4_step 193 = .ok (.iload_n 1, 1) := by decide +kernel
theorem dX4_step_194 : decode cX4_step 194 = .ok (.iaload, 1) := by decide +kernel
theorem dX4_step_195 : decode cX4_step 195 = .ok (.bipush 10, 2) := by decide +kernel
theorem dX4_step_197 : decode cX4_step 197 = .ok (.if_icmp .ne 7, 3) := by decide +kernel
theorem dX4_step_200 : decode cX4_step 200 = .ok (.iconst 1, 1) := by decide +kernel
theorem dX4_step_201 : decode cX4_step 201 = .ok (.goto 4, 3) := by decide +kernel
theorem dX4_step_204 : decode cX4_step 204 = .ok (.iconst 0, 1) := by decide +kernel
theorem dX4_step_205 : decode cX4_step 205 = .ok (.if_icmp .ne 20, 3) := by decide +kernel
theorem dX4_step_208 : decode cX4_step 208 = .ok (.aload_n 0, 1) := by decide +kernel
theorem dX4_step_209 : decode cX4_step 209 = .ok (.iload 5, 2) := by decide +kernel
theorem dX4_step_211 : decode cX4_step 211 = .ok (.ifCond .eq 7, 3) := by decide +kernel
theorem dX4_step_214 : decode cX4_step 214 = .ok (.lconst 1, 1) := by decide +kernel
theorem dX4_step_215 : decode cX4_step 215 = .ok (.goto 4, 3) := by decide +kernel
theorem dX4_step_218 : decode cX4_step 218 = .ok (.lconst 0, 1) := by decide +kernel
theorem dX4_step_219 : decode cX4_step 219 = .ok (.invokevirtual 110, 3) := by decide +kernel
theorem dX4_step_222 : decode cX4_step 222 = .ok (.lload_n 3, 1) := by decide +kernel
theorem dX4_step_223 : decode cX4_step 223 = .ok (.l2i, 1) := by decide +kernel
theorem dX4_step_224 : decode cX4_step 224 = .ok (.ireturn, 1) := by decide +kernel
theorem dX4_step_225 : decode cX4_step 225 = .ok (.iload_n 1, 1) := by decide +kernel
theorem dX4_step_226 : decode cX4_step 226 = .ok (.iconst 1, 1) := by decide +kernel
theorem dX4_step_227 : decode cX4_step 227 = .ok (.iadd, 1) := by decide +kernel
theorem dX4_step_228 : decode cX4_step 228 = .ok (.ireturn, 1) := by decide +kernel
set_option maxRecDepth 20000 in
theorem a_X4_step_225 {Q : Sg → Int → Prop} {X : Sg → String → Prop} {th : Nat} (K : MD l R p s m args c cX4_step 6 RX4 D cA tys A n0 s0 1 22 []) (hQ : CQI p l e R s m args below meth c cX4_step D cA A n0 s0 QM σi Q) (hX : CX p l e R s m args below meth c 6 D cA A n0 s0 QM σi X) (hTh : CT p l e R s m args below meth c cX4_step 6 D cA A n0 s0 QM σi RX4 X) : ∀ (σ : Sg) (v1 : Int) (g1 : rng v1), w_X4_step_225 th Q X σ v1 → RG σ → TY σ → Ext σi σ → kO σ th 4 → JJ p l e R s m args below meth c 6 D cA A n0 s0 QM σ 225 [(0, .ref th), (1, .int (i32 v1))] [] := by
  intro σ v1 g1 h hGσ hYσ hE hth H locs ls hH hl hc
  have B := K.1
  have hl9 := K.2.2.2.2.2.2
  unfold w_X4_step_225 at h
  refine lv_iload_n B.1 B.2.1 dX4_step_225 rfl (lv_at hl 1 rfl) ?_
  refine lv_iconst (v := i32 1) B.1 B.2.1 dX4_step_226 (by decide) ?_
  obtain ⟨q1, h⟩ := h
  refine lv_iadd B.1 B.2.1 dX4_step_227 ?_
  rw [i32_add]
  exact hQ _ _ _ _ _ _ q1 dX4_step_228 hH hc h hGσ hYσ hE
set_option maxRecDepth 20000 in
theorem a_X4_step_60 {Q : Sg → Int → Prop} {X : Sg → String → Prop} {th : Nat} (K : MD l R p s m args c cX4_step 6 RX4 D cA tys A n0 s0 1 22 []) (hQ : CQI p l e R s m args below meth c cX4_step D cA A n0 s0 QM σi Q) (hX : CX p l e R s m args below meth c 6 D cA A n0 s0 QM σi X) (hTh : CT p l e R s m args below meth c cX4_step 6 D cA A n0 s0 QM σi RX4 X) : ∀ (σ : Sg) (v1 : Int) (v3 : Int64) (g1 : rng v1), w_X4_step_60 th Q X σ v1 v3 → RG σ → TY σ → Ext σi σ → kO σ th 4 → JJ p l e R s m args below meth c 6 D cA A n0 s0 QM σ 60 [(0, .ref th), (1, .int (i32 v1)), (3, .long v3)] [] := by
  intro σ v1 v3 g1 h hGσ hYσ hE hth H locs ls hH hl hc
  have B := K.1
  have hl9 := K.2.2.2.2.2.2
  unfold w_X4_step_60 at h
  refine lv_aload_n B.1 B.2.1 dX4_step_60 rfl (lv_at hl 0 rfl) ?_
  refine lv_lload_n B.1 B.2.1 dX4_step_61 rfl (lv_at hl 2 rfl) ?_
  refine W.eq (g2 := F0 m 62 ls [.long v3, .ref th]) (rfl) ?_
  refine c_V B hH hl hc K.2.2.1 (C := RX4) (T := TX4) (N := 14) (ci := 4) (As := [.long v3]) (ok_X4_push hl9 K.2.1 σ th v3 hth hGσ hYσ h) wc_X4_110 1 hd_X4_push ⟨Nat.le_trans (Nat.le_of_ble_eq_true rfl) K.2.2.2.1, Nat.le_trans (Nat.le_of_ble_eq_true rfl) K.2.2.2.2.1⟩ hth.1 hth.2 (by decide) rfl rfl (rest := []) rfl (Nat.le_of_ble_eq_true rfl) dX4_step_62 (fun σ47 w hq => ?_) (fun σ9 E9 hx9 => hX σ9 E9 _ _ _ (tb_out K.2.2.2.2.2.1 rfl) hx9.1 hx9.2.1 hx9.2.2.1 (hE.trans hx9.2.2.2))
  obtain ⟨rfl, h, hGσ47, hYσ47, xσ47⟩ := hq
  have h := h xσ47
  intro H locs ls hH hl hc
  refine W.eq (g2 := F0 m 65 ls []) (rfl) ?_
  try dsimp only at h
  refine lv_goto (tgt := 225) B.1 B.2.1 dX4_step_65 (by decide) ?_
  exact a_X4_step_225 K hQ hX hTh _ _ g1 h hGσ47 hYσ47 (hE.trans xσ47) (hth.up xσ47) _ _ _ hH (lv_sub (l' := [(0, .ref th), (1, .int (i32 v1))]) hl [0, 1] rfl) hc
set_option maxRecDepth 20000 in
theorem a_X4_step_68 {Q : Sg → Int → Prop} {X : Sg → String → Prop} {th : Nat} (K : MD l R p s m args c cX4_step 6 RX4 D cA tys A n0 s0 1 22 []) (hQ : CQI p l e R s m args below meth c cX4_step D cA A n0 s0 QM σi Q) (hX : CX p l e R s m args below meth c 6 D cA A n0 s0 QM σi X) (hTh : CT p l e R s m args below meth c cX4_step 6 D cA A n0 s0 QM σi RX4 X) : ∀ (σ : Sg) (v1 : Int) (v2 : Option Nat) (v3 : Int64) (g1 : rng v1) (g2 : tyV σ 0 v2), w_X4_step_68 th Q X σ v1 v2 v3 → RG σ → TY σ → Ext σi σ → kO σ th 4 → JJ p l e R s m args below meth c 6 D cA A n0 s0 QM σ 68 [(0, .ref th), (1, .int (i32 v1)), (2, va_rf v2), (3, .long v3)] [] := by
  intro σ v1 v2 v3 g1 g2 h hGσ hYσ hE hth H locs ls hH hl hc
  have B := K.1
  have hl9 := K.2.2.2.2.2.2
  unfold w_X4_step_68 at h
  refine lv_aload_n B.1 B.2.1 dX4_step_68 rfl (lv_at hl 0 rfl) ?_
  refine lv_aload_nQ B.1 B.2.1 dX4_step_69 rfl (lv_at hl 2 rfl) ?_
  obtain ⟨a48, ea48, h⟩ := h
  have ka48 : kO σ a48 0 := g2 a48 ea48
  have h := h ka48
  refine W.eq (g2 := F0 m 70 ls [.ref a48, .ref th]) (by rw [ea48]; rfl) ?_
  refine f_getp B hH ka48 (by decide) rfl wu_X0 0 (by decide) wf_X4_75 rfl rfl dX4_step_70 ?_
  refine lv_lload_n B.1 B.2.1 dX4_step_73 rfl (lv_at hl 3 rfl) ?_
  refine lv_l2i B.1 B.2.1 dX4_step_74 rfl ?_
  refine W.eq (g2 := F0 m 75 ls [.int (i32 ((v3).toInt32.toInt)), va_rf (gP σ a48 0), .ref th]) (by simp only [i32_self]) ?_
  refine lv_bipush (v := i32 7) B.1 B.2.1 dX4_step_75 (by decide) ?_
  refine lv_iand B.1 B.2.1 dX4_step_77 ?_
  refine W.eq (g2 := F0 m 78 ls [.int (i32 (andI ((v3).toInt32.toInt) 7)), va_rf (gP σ a48 0), .ref th]) (by simp only [andI, orI, shlI, shrI, i32_self]) ?_
  obtain ⟨a49, ea49, h⟩ := h
  have ka49 : kO σ a49 101 := (hYσ.get ka48 (by decide)) a49 ea49
  have h := h ka49
  obtain ⟨q1, h⟩ := h
  refine W.eq (g2 := F0 m 78 ls [.int (i32 (andI ((v3).toInt32.toInt) 7)), .ref a49, .ref th]) (by rw [ea49]; rfl) ?_
  refine y_lald B K.2.1 hH ka49 q1 dX4_step_78 (hYσ.2 _) ?_
  refine W.eq (g2 := F0 m 79 ls [.long (gJ σ a49 (andI ((v3).toInt32.toInt) 7).toNat), .ref th]) (rfl) ?_
  refine c_V B hH hl hc K.2.2.1 (C := RX4) (T := TX4) (N := 14) (ci := 4) (As := [.long (gJ σ a49 (andI ((v3).toInt32.toInt) 7).toNat)]) (ok_X4_push hl9 K.2.1 σ th (gJ σ a49 (andI ((v3).toInt32.toInt) 7).toNat) hth hGσ hYσ h) wc_X4_110 1 hd_X4_push ⟨Nat.le_trans (Nat.le_of_ble_eq_true rfl) K.2.2.2.1, Nat.le_trans (Nat.le_of_ble_eq_true rfl) K.2.2.2.2.1⟩ hth.1 hth.2 (by decide) rfl rfl (rest := []) rfl (Nat.le_of_ble_eq_true rfl) dX4_step_79 (fun σ50 w hq => ?_) (fun σ9 E9 hx9 => hX σ9 E9 _ _ _ (tb_out K.2.2.2.2.2.1 rfl) hx9.1 hx9.2.1 hx9.2.2.1 (hE.trans hx9.2.2.2))
  obtain ⟨rfl, h, hGσ50, hYσ50, xσ50⟩ := hq
  have h := h xσ50
  intro H locs ls hH hl hc
  refine W.eq (g2 := F0 m 82 ls []) (rfl) ?_
  try dsimp only at h
  refine lv_goto (tgt := 225) B.1 B.2.1 dX4_step_82 (by decide) ?_
  exact a_X4_step_225 K hQ hX hTh _ _ g1 h hGσ50 hYσ50 (hE.trans xσ50) (hth.up xσ50) _ _ _ hH (lv_sub (l' := [(0, .ref th), (1, .int (i32 v1))]) hl [0, 1] rfl) hc
set_option maxRecDepth 20000 in
theorem a_X4_step_85 {Q : Sg → Int → Prop} {X : Sg → String → Prop} {th : Nat} (K : MD l R p s m args c cX4_step 6 RX4 D cA tys A n0 s0 1 22 []) (hQ : CQI p l e R s m args below meth c cX4_step D cA A n0 s0 QM σi Q) (hX : CX p l e R s m args below meth c 6 D cA A n0 s0 QM σi X) (hTh : CT p l e R s m args below meth c cX4_step 6 D cA A n0 s0 QM σi RX4 X) : ∀ (σ : Sg) (v1 : Int) (v2 : Option Nat) (g1 : rng v1) (g2 : tyV σ 0 v2), w_X4_step_85 th Q X σ v1 v2 → RG σ → TY σ → Ext σi σ → kO σ th 4 → JJ p l e R s m args below meth c 6 D cA A n0 s0 QM σ 85 [(0, .ref th), (1, .int (i32 v1)), (2, va_rf v2)] [] := by
  intro σ v1 v2 g1 g2 h hGσ hYσ hE hth H locs ls hH hl hc
  have B := K.1
  have hl9 := K.2.2.2.2.2.2
  unfold w_X4_step_85 at h
  refine lv_aload_n B.1 B.2.1 dX4_step_85 rfl (lv_at hl 0 rfl) ?_
  refine lv_aload_nQ B.1 B.2.1 dX4_step_86 rfl (lv_at hl 2 rfl) ?_
  obtain ⟨a51, ea51, h⟩ := h
  have ka51 : kO σ a51 0 := g2 a51 ea51
  have h := h ka51
  refine W.eq (g2 := F0 m 87 ls [.ref a51, .ref th]) (by rw [ea51]; rfl) ?_
  refine f_getl B hH ka51 (by decide) rfl wu_X0 5 (by decide) wf_X4_70 rfl rfl dX4_step_87 ?_
  refine W.eq (g2 := F0 m 90 ls [.long (gJ σ a51 5), .ref th]) (rfl) ?_
  refine c_V B hH hl hc K.2.2.1 (C := RX4) (T := TX4) (N := 14) (ci := 4) (As := [.long (gJ σ a51 5)]) (ok_X4_push hl9 K.2.1 σ th (gJ σ a51 5) hth hGσ hYσ h) wc_X4_110 1 hd_X4_push ⟨Nat.le_trans (Nat.le_of_ble_eq_true rfl) K.2.2.2.1, Nat.le_trans (Nat.le_of_ble_eq_true rfl) K.2.2.2.2.1⟩ hth.1 hth.2 (by decide) rfl rfl (rest := []) rfl (Nat.le_of_ble_eq_true rfl) dX4_step_90 (fun σ52 w hq => ?_) (fun σ9 E9 hx9 => hX σ9 E9 _ _ _ (tb_out K.2.2.2.2.2.1 rfl) hx9.1 hx9.2.1 hx9.2.2.1 (hE.trans hx9.2.2.2))
  obtain ⟨rfl, h, hGσ52, hYσ52, xσ52⟩ := hq
  have h := h xσ52
  intro H locs ls hH hl hc
  refine W.eq (g2 := F0 m 93 ls []) (rfl) ?_
  try dsimp only at h
  refine lv_goto (tgt := 225) B.1 B.2.1 dX4_step_93 (by decide) ?_
  exact a_X4_step_225 K hQ hX hTh _ _ g1 h hGσ52 hYσ52 (hE.trans xσ52) (hth.up xσ52) _ _ _ hH (lv_sub (l' := [(0, .ref th), (1, .int (i32 v1))]) hl [0, 1] rfl) hc
set_option maxRecDepth 20000 in
theorem a_X4_step_96 {Q : Sg → Int → Prop} {X : Sg → String → Prop} {th : Nat} (K : MD l R p s m args c cX4_step 6 RX4 D cA tys A n0 s0 1 22 []) (hQ : CQI p l e R s m args below meth c cX4_step D cA A n0 s0 QM σi Q) (hX : CX p l e R s m args below meth c 6 D cA A n0 s0 QM σi X) (hTh : CT p l e R s m args below meth c cX4_step 6 D cA A n0 s0 QM σi RX4 X) : ∀ (σ : Sg) (v1 : Int) (g1 : rng v1), w_X4_step_96 th Q X σ v1 → RG σ → TY σ → Ext σi σ → kO σ th 4 → JJ p l e R s m args below meth c 6 D cA A n0 s0 QM σ 96 [(0, .ref th), (1, .int (i32 v1))] [] := by
  intro σ v1 g1 h hGσ hYσ hE hth H locs ls hH hl hc
  have B := K.1
  have hl9 := K.2.2.2.2.2.2
  unfold w_X4_step_96 at h
  refine lv_aload_n B.1 B.2.1 dX4_step_96 rfl (lv_at hl 0 rfl) ?_
  refine lv_aload_n B.1 B.2.1 dX4_step_97 rfl (lv_at hl 0 rfl) ?_
  refine W.eq (g2 := F0 m 98 ls [.ref th, .ref th]) (rfl) ?_
  refine c_V B hH hl hc K.2.2.1 (C := RX4) (T := TX4) (N := 14) (ci := 4) (As := []) (ok_X4_pop hl9 K.2.1 σ th hth hGσ hYσ h) wc_X4_102 0 hd_X4_pop ⟨Nat.le_trans (Nat.le_of_ble_eq_true rfl) K.2.2.2.1, Nat.le_trans (Nat.le_of_ble_eq_true rfl) K.2.2.2.2.1⟩ hth.1 hth.2 (by decide) rfl rfl (rest := [.ref th]) rfl (Nat.le_of_ble_eq_true rfl) dX4_step_98 (fun σ53 w hq => ?_) (fun σ9 E9 hx9 => hX σ9 E9 _ _ _ (tb_out K.2.2.2.2.2.1 rfl) hx9.1 hx9.2.1 hx9.2.2.1 (hE.trans hx9.2.2.2))
  obtain ⟨r54, rfl, h, hGσ53, hYσ53, xσ53⟩ := hq
  have h := h xσ53
  intro H locs ls hH hl hc
  refine W.eq (g2 := F0 m 101 ls [.long r54, .ref th]) (rfl) ?_
  try dsimp only at h
  refine lv_lneg B.1 B.2.1 dX4_step_101 ?_
  refine W.eq (g2 := F0 m 102 ls [.long (-r54), .ref th]) (rfl) ?_
  refine c_V B hH hl hc K.2.2.1 (C := RX4) (T := TX4) (N := 14) (ci := 4) (As := [.long (-r54)]) (ok_X4_push hl9 K.2.1 σ53 th (-r54) (hth.up xσ53) hGσ53 hYσ53 h) wc_X4_110 1 hd_X4_push ⟨Nat.le_trans (Nat.le_of_ble_eq_true rfl) K.2.2.2.1, Nat.le_trans (Nat.le_of_ble_eq_true rfl) K.2.2.2.2.1⟩ (hth.up xσ53).1 (hth.up xσ53).2 (by decide) rfl rfl (rest := []) rfl (Nat.le_of_ble_eq_true rfl) dX4_step_102 (fun σ55 w hq => ?_) (fun σ9 E9 hx9 => hX σ9 E9 _ _ _ (tb_out K.2.2.2.2.2.1 rfl) hx9.1 hx9.2.1 hx9.2.2.1 ((hE.trans xσ53).trans hx9.2.2.2))
  obtain ⟨rfl, h, hGσ55, hYσ55, xσ55⟩ := hq
  have h := h xσ55
  intro H locs ls hH hl hc
  refine W.eq (g2 := F0 m 105 ls []) (rfl) ?_
  try dsimp only at h
  refine lv_goto (tgt := 225) B.1 B.2.1 dX4_step_105 (by decide) ?_
  exact a_X4_step_225 K hQ hX hTh _ _ g1 h hGσ55 hYσ55 ((hE.trans xσ53).trans xσ55) (hth.up (xσ53.trans xσ55)) _ _ _ hH (lv_sub (l' := [(0, .ref th), (1, .int (i32 v1))]) hl [0, 1] rfl) hc
set_option maxRecDepth 20000 in
theorem a_X4_step_123 {Q : Sg → Int → Prop} {X : Sg → String → Prop} {th : Nat} (K : MD l R p s m args c cX4_step 6 RX4 D cA tys A n0 s0 1 22 []) (hQ : CQI p l e R s m args below meth c cX4_step D cA A n0 s0 QM σi Q) (hX : CX p l e R s m args below meth c 6 D cA A n0 s0 QM σi X) (hTh : CT p l e R s m args below meth c cX4_step 6 D cA A n0 s0 QM σi RX4 X) : ∀ (σ : Sg) (v1 : Int) (u0 : Int64) (g1 : rng v1), w_X4_step_123 th Q X σ v1 u0 → RG σ → TY σ → Ext σi σ → kO σ th 4 → JJ p l e R s m args below meth c 6 D cA A n0 s0 QM σ 123 [(0, .ref th), (1, .int (i32 v1))] [.long u0, .ref th] := by
  intro σ v1 u0 g1 h hGσ hYσ hE hth H locs ls hH hl hc
  have B := K.1
  have hl9 := K.2.2.2.2.2.2
  unfold w_X4_step_123 at h
  refine W.eq (g2 := F0 m 123 ls [.long u0, .ref th]) (rfl) ?_
  refine c_V B hH hl hc K.2.2.1 (C := RX4) (T := TX4) (N := 14) (ci := 4) (As := [.long u0]) (ok_X4_push hl9 K.2.1 σ th u0 hth hGσ hYσ h) wc_X4_110 1 hd_X4_push ⟨Nat.le_trans (Nat.le_of_ble_eq_true rfl) K.2.2.2.1, Nat.le_trans (Nat.le_of_ble_eq_true rfl) K.2.2.2.2.1⟩ hth.1 hth.2 (by decide) rfl rfl (rest := []) rfl (Nat.le_of_ble_eq_true rfl) dX4_step_123 (fun σ56 w hq => ?_) (fun σ9 E9 hx9 => hX σ9 E9 _ _ _ (tb_out K.2.2.2.2.2.1 rfl) hx9.1 hx9.2.1 hx9.2.2.1 (hE.trans hx9.2.2.2))
  obtain ⟨rfl, h, hGσ56, hYσ56, xσ56⟩ := hq
  have h := h xσ56
  intro H locs ls hH hl hc
  refine W.eq (g2 := F0 m 126 ls []) (rfl) ?_
  try dsimp only at h
  refine lv_goto (tgt := 225) B.1 B.2.1 dX4_step_126 (by decide) ?_
  exact a_X4_step_225 K hQ hX hTh _ _ g1 h hGσ56 hYσ56 (hE.trans xσ56) (hth.up xσ56) _ _ _ hH (lv_sub (l' := [(0, .ref th), (1, .int (i32 v1))]) hl [0, 1] rfl) hc
set_option maxRecDepth 20000 in
theorem a_X4_step_122 {Q : Sg → Int → Prop} {X : Sg → String → Prop} {th : Nat} (K : MD l R p s m args c cX4_step 6 RX4 D cA tys A n0 s0 1 22 []) (hQ : CQI p l e R s m args below meth c cX4_step D cA A n0 s0 QM σi Q) (hX : CX p l e R s m args below meth c 6 D cA A n0 s0 QM σi X) (hTh : CT p l e R s m args below meth c cX4_step 6 D cA A n0 s0 QM σi RX4 X) : ∀ (σ : Sg) (v1 : Int) (g1 : rng v1), w_X4_step_122 th Q X σ v1 → RG σ → TY σ → Ext σi σ → kO σ th 4 → JJ p l e R s m args below meth c 6 D cA A n0 s0 QM σ 122 [(0, .ref th), (1, .int (i32 v1))] [.ref th] := by
  intro σ v1 g1 h hGσ hYσ hE hth H locs ls hH hl hc
  have B := K.1
  have hl9 := K.2.2.2.2.2.2
  unfold w_X4_step_122 at h
  refine lv_lconst (v := 0) B.1 B.2.1 dX4_step_122 (by decide) ?_
  exact a_X4_step_123 K hQ hX hTh _ _ _ g1 h hGσ hYσ hE hth _ _ _ hH (lv_sub (l' := [(0, .ref th), (1, .int (i32 v1))]) hl [0, 1] rfl) hc
set_option maxRecDepth 20000 in
theorem a_X4_step_118 {Q : Sg → Int → Prop} {X : Sg → String → Prop} {th : Nat} (K : MD l R p s m args c cX4_step 6 RX4 D cA tys A n0 s0 1 22 []) (hQ : CQI p l e R s m args below meth c cX4_step D cA A n0 s0 QM σi Q) (hX : CX p l e R s m args below meth c 6 D cA A n0 s0 QM σi X) (hTh : CT p l e R s m args below meth c cX4_step 6 D cA A n0 s0 QM σi RX4 X) : ∀ (σ : Sg) (v1 : Int) (g1 : rng v1), w_X4_step_118 th Q X σ v1 → RG σ → TY σ → Ext σi σ → kO σ th 4 → JJ p l e R s m args below meth c 6 D cA A n0 s0 QM σ 118 [(0, .ref th), (1, .int (i32 v1))] [.ref th] := by
  intro σ v1 g1 h hGσ hYσ hE hth H locs ls hH hl hc
  have B := K.1
  have hl9 := K.2.2.2.2.2.2
  unfold w_X4_step_118 at h
  refine lv_lconst (v := 1) B.1 B.2.1 dX4_step_118 (by decide) ?_
  refine lv_goto (tgt := 123) B.1 B.2.1 dX4_step_119 (by decide) ?_
  exact a_X4_step_123 K hQ hX hTh _ _ _ g1 h hGσ hYσ hE hth _ _ _ hH (lv_sub (l' := [(0, .ref th), (1, .int (i32 v1))]) hl [0, 1] rfl) hc
set_option maxRecDepth 20000 in
theorem a_X4_step_108 {Q : Sg → Int → Prop} {X : Sg → String → Prop} {th : Nat} (K : MD l R p s m args c cX4_step 6 RX4 D cA tys A n0 s0 1 22 []) (hQ : CQI p l e R s m args below meth c cX4_step D cA A n0 s0 QM σi Q) (hX : CX p l e R s m args below meth c 6 D cA A n0 s0 QM σi X) (hTh : CT p l e R s m args below meth c cX4_step 6 D cA A n0 s0 QM σi RX4 X) : ∀ (σ : Sg) (v1 : Int) (g1 : rng v1), w_X4_step_108 th Q X σ v1 → RG σ → TY σ → Ext σi σ → kO σ th 4 → JJ p l e R s m args below meth c 6 D cA A n0 s0 QM σ 108 [(0, .ref th), (1, .int (i32 v1))] [] := by
  intro σ v1 g1 h hGσ hYσ hE hth H locs ls hH hl hc
  have B := K.1
  have hl9 := K.2.2.2.2.2.2
  unfold w_X4_step_108 at h
  refine lv_aload_n B.1 B.2.1 dX4_step_108 rfl (lv_at hl 0 rfl) ?_
  refine lv_aload_n B.1 B.2.1 dX4_step_109 rfl (lv_at hl 0 rfl) ?_
  refine W.eq (g2 := F0 m 110 ls [.ref th, .ref th]) (rfl) ?_
  refine c_V B hH hl hc K.2.2.1 (C := RX4) (T := TX4) (N := 14) (ci := 4) (As := []) (ok_X4_pop hl9 K.2.1 σ th hth hGσ hYσ h) wc_X4_102 0 hd_X4_pop ⟨Nat.le_trans (Nat.le_of_ble_eq_true rfl) K.2.2.2.1, Nat.le_trans (Nat.le_of_ble_eq_true rfl) K.2.2.2.2.1⟩ hth.1 hth.2 (by decide) rfl rfl (rest := [.ref th]) rfl (Nat.le_of_ble_eq_true rfl) dX4_step_110 (fun σ57 w hq => ?_) (fun σ9 E9 hx9 => hX σ9 E9 _ _ _ (tb_out K.2.2.2.2.2.1 rfl) hx9.1 hx9.2.1 hx9.2.2.1 (hE.trans hx9.2.2.2))
  obtain ⟨r58, rfl, h, hGσ57, hYσ57, xσ57⟩ := hq
  have h := h xσ57
  intro H locs ls hH hl hc
  refine W.eq (g2 := F0 m 113 ls [.long r58, .ref th]) (rfl) ?_
  try dsimp only at h
  refine lv_lconst (v := 0) B.1 B.2.1 dX4_step_113 (by decide) ?_
  refine W.lcmp B.1 B.2.1 dX4_step_114 ?_
  refine lv_if_ne (tgt := 122) B.1 B.2.1 dX4_step_115 (by decide) (fun h9 => ?_) (fun h9 => ?_)
  · rw [if_pos (fun q => h9 ((lg_cmp_eq _ _).mpr q))] at h
    exact a_X4_step_122 K hQ hX hTh _ _ g1 h hGσ57 hYσ57 (hE.trans xσ57) (hth.up xσ57) _ _ _ hH (lv_sub (l' := [(0, .ref th), (1, .int (i32 v1))]) hl [0, 1] rfl) hc
  · rw [if_neg (fun q => q ((lg_cmp_eq _ _).mp h9))] at h
    exact a_X4_step_118 K hQ hX hTh _ _ g1 h hGσ57 hYσ57 (hE.trans xσ57) (hth.up xσ57) _ _ _ hH (lv_sub (l' := [(0, .ref th), (1, .int (i32 v1))]) hl [0, 1] rfl) hc
set_option maxRecDepth 20000 in
theorem a_X4_step_144 {Q : Sg → Int → Prop} {X : Sg → String → Prop} {th : Nat} (K : MD l R p s m args c cX4_step 6 RX4 D cA tys A n0 s0 1 22 []) (hQ : CQI p l e R s m args below meth c cX4_step D cA A n0 s0 QM σi Q) (hX : CX p l e R s m args below meth c 6 D cA A n0 s0 QM σi X) (hTh : CT p l e R s m args below meth c cX4_step 6 D cA A n0 s0 QM σi RX4 X) : ∀ (σ : Sg) (v1 : Int) (u0 : Int64) (g1 : rng v1), w_X4_step_144 th Q X σ v1 u0 → RG σ → TY σ → Ext σi σ → kO σ th 4 → JJ p l e R s m args below meth c 6 D cA A n0 s0 QM σ 144 [(0, .ref th), (1, .int (i32 v1))] [.long u0, .ref th] := by
  intro σ v1 u0 g1 h hGσ hYσ hE hth H locs ls hH hl hc
  have B := K.1
  have hl9 := K.2.2.2.2.2.2
  unfold w_X4_step_144 at h
  refine W.eq (g2 := F0 m 144 ls [.long u0, .ref th]) (rfl) ?_
  refine c_V B hH hl hc K.2.2.1 (C := RX4) (T := TX4) (N := 14) (ci := 4) (As := [.long u0]) (ok_X4_push hl9 K.2.1 σ th u0 hth hGσ hYσ h) wc_X4_110 1 hd_X4_push ⟨Nat.le_trans (Nat.le_of_ble_eq_true rfl) K.2.2.2.1, Nat.le_trans (Nat.le_of_ble_eq_true rfl) K.2.2.2.2.1⟩ hth.1 hth.2 (by decide) rfl rfl (rest := []) rfl (Nat.le_of_ble_eq_true rfl) dX4_step_144 (fun σ59 w hq => ?_) (fun σ9 E9 hx9 => hX σ9 E9 _ _ _ (tb_out K.2.2.2.2.2.1 rfl) hx9.1 hx9.2.1 hx9.2.2.1 (hE.trans hx9.2.2.2))
  obtain ⟨rfl, h, hGσ59, hYσ59, xσ59⟩ := hq
  have h := h xσ59
  intro H locs ls hH hl hc
  refine W.eq (g2 := F0 m 147 ls []) (rfl) ?_
  try dsimp only at h
  refine lv_goto (tgt := 225) B.1 B.2.1 dX4_step_147 (by decide) ?_
  exact a_X4_step_225 K hQ hX hTh _ _ g1 h hGσ59 hYσ59 (hE.trans xσ59) (hth.up xσ59) _ _ _ hH (lv_sub (l' := [(0, .ref th), (1, .int (i32 v1))]) hl [0, 1] rfl) hc
set_option maxRecDepth 20000 in
theorem a_X4_step_143 {Q : Sg → Int → Prop} {X : Sg → String → Prop} {th : Nat} (K : MD l R p s m args c cX4_step 6 RX4 D cA tys A n0 s0 1 22 []) (hQ : CQI p l e R s m args below meth c cX4_step D cA A n0 s0 QM σi Q) (hX : CX p l e R s m args below meth c 6 D cA A n0 s0 QM σi X) (hTh : CT p l e R s m args below meth c cX4_step 6 D cA A n0 s0 QM σi RX4 X) : ∀ (σ : Sg) (v1 : Int) (g1 : rng v1), w_X4_step_143 th Q X σ v1 → RG σ → TY σ → Ext σi σ → kO σ th 4 → JJ p l e R s m args below meth c 6 D cA A n0 s0 QM σ 143 [(0, .ref th), (1, .int (i32 v1))] [.ref th] := by
  intro σ v1 g1 h hGσ hYσ hE hth H locs ls hH hl hc
  have B := K.1
  have hl9 := K.2.2.2.2.2.2
  unfold w_X4_step_143 at h
  refine lv_lconst (v := 1) B.1 B.2.1 dX4_step_143 (by decide) ?_
  exact a_X4_step_144 K hQ hX hTh _ _ _ g1 h hGσ hYσ hE hth _ _ _ hH (lv_sub (l' := [(0, .ref th), (1, .int (i32 v1))]) hl [0, 1] rfl) hc
set_option maxRecDepth 20000 in
theorem a_X4_step_139 {Q : Sg → Int → Prop} {X : Sg → String → Prop} {th : Nat} (K : MD l R p s m args c cX4_step 6 RX4 D cA tys A n0 s0 1 22 []) (hQ : CQI p l e R s m args below meth c cX4_step D cA A n0 s0 QM σi Q) (hX : CX p l e R s m args below meth c 6 D cA A n0 s0 QM σi X) (hTh : CT p l e R s m args below meth c cX4_step 6 D cA A n0 s0 QM σi RX4 X) : ∀ (σ : Sg) (v1 : Int) (g1 : rng v1), w_X4_step_139 th Q X σ v1 → RG σ → TY σ → Ext σi σ → kO σ th 4 → JJ p l e R s m args below meth c 6 D cA A n0 s0 QM σ 139 [(0, .ref th), (1, .int (i32 v1))] [.ref th] := by
  intro σ v1 g1 h hGσ hYσ hE hth H locs ls hH hl hc
  have B := K.1
  have hl9 := K.2.2.2.2.2.2
  unfold w_X4_step_139 at h
  refine lv_lconst (v := 0) B.1 B.2.1 dX4_step_139 (by decide) ?_
  refine lv_goto (tgt := 144) B.1 B.2.1 dX4_step_140 (by decide) ?_
  exact a_X4_step_144 K hQ hX hTh _ _ _ g1 h hGσ hYσ hE hth _ _ _ hH (lv_sub (l' := [(0, .ref th), (1, .int (i32 v1))]) hl [0, 1] rfl) hc
set_option maxRecDepth 20000 in
theorem a_X4_step_129 {Q : Sg → Int → Prop} {X : Sg → String → Prop} {th : Nat} (K : MD l R p s m args c cX4_step 6 RX4 D cA tys A n0 s0 1 22 []) (hQ : CQI p l e R s m args below meth c cX4_step D cA A n0 s0 QM σi Q) (hX : CX p l e R s m args below meth c 6 D cA A n0 s0 QM σi X) (hTh : CT p l e R s m args below meth c cX4_step 6 D cA A n0 s0 QM σi RX4 X) : ∀ (σ : Sg) (v1 : Int) (g1 : rng v1), w_X4_step_129 th Q X σ v1 → RG σ → TY σ → Ext σi σ → kO σ th 4 → JJ p l e R s m args below meth c 6 D cA A n0 s0 QM σ 129 [(0, .ref th), (1, .int (i32 v1))] [] := by
  intro σ v1 g1 h hGσ hYσ hE hth H locs ls hH hl hc
  have B := K.1
  have hl9 := K.2.2.2.2.2.2
  unfold w_X4_step_129 at h
  refine lv_aload_n B.1 B.2.1 dX4_step_129 rfl (lv_at hl 0 rfl) ?_
  refine lv_aload_n B.1 B.2.1 dX4_step_130 rfl (lv_at hl 0 rfl) ?_
  refine W.eq (g2 := F0 m 131 ls [.ref th, .ref th]) (rfl) ?_
  refine c_V B hH hl hc K.2.2.1 (C := RX4) (T := TX4) (N := 14) (ci := 4) (As := []) (ok_X4_pop hl9 K.2.1 σ th hth hGσ hYσ h) wc_X4_102 0 hd_X4_pop ⟨Nat.le_trans (Nat.le_of_ble_eq_true rfl) K.2.2.2.1, Nat.le_trans (Nat.le_of_ble_eq_true rfl) K.2.2.2.2.1⟩ hth.1 hth.2 (by decide) rfl rfl (rest := [.ref th]) rfl (Nat.le_of_ble_eq_true rfl) dX4_step_131 (fun σ60 w hq => ?_) (fun σ9 E9 hx9 => hX σ9 E9 _ _ _ (tb_out K.2.2.2.2.2.1 rfl) hx9.1 hx9.2.1 hx9.2.2.1 (hE.trans hx9.2.2.2))
  obtain ⟨r61, rfl, h, hGσ60, hYσ60, xσ60⟩ := hq
  have h := h xσ60
  intro H locs ls hH hl hc
  refine W.eq (g2 := F0 m 134 ls [.long r61, .ref th]) (rfl) ?_
  try dsimp only at h
  refine lv_lconst (v := 0) B.1 B.2.1 dX4_step_134 (by decide) ?_
  refine W.lcmp B.1 B.2.1 dX4_step_135 ?_
  refine lv_if_ne (tgt := 143) B.1 B.2.1 dX4_step_136 (by decide) (fun h9 => ?_) (fun h9 => ?_)
  · rw [if_pos (fun q => h9 ((lg_cmp_eq _ _).mpr q))] at h
    exact a_X4_step_143 K hQ hX hTh _ _ g1 h hGσ60 hYσ60 (hE.trans xσ60) (hth.up xσ60) _ _ _ hH (lv_sub (l' := [(0, .ref th), (1, .int (i32 v1))]) hl [0, 1] rfl) hc
  · rw [if_neg (fun q => q ((lg_cmp_eq _ _).mp h9))] at h
    exact a_X4_step_139 K hQ hX hTh _ _ g1 h hGσ60 hYσ60 (hE.trans xσ60) (hth.up xσ60) _ _ _ hH (lv_sub (l' := [(0, .ref th), (1, .int (i32 v1))]) hl [0, 1] rfl) hc
set_option maxRecDepth 20000 in
theorem a_X4_step_150 {Q : Sg → Int → Prop} {X : Sg → String → Prop} {th : Nat} (K : MD l R p s m args c cX4_step 6 RX4 D cA tys A n0 s0 1 22 []) (hQ : CQI p l e R s m args below meth c cX4_step D cA A n0 s0 QM σi Q) (hX : CX p l e R s m args below meth c 6 D cA A n0 s0 QM σi X) (hTh : CT p l e R s m args below meth c cX4_step 6 D cA A n0 s0 QM σi RX4 X) : ∀ (σ : Sg) (v3 : Int64), w_X4_step_150 th Q X σ v3 → RG σ → TY σ → Ext σi σ → kO σ th 4 → JJ p l e R s m args below meth c 6 D cA A n0 s0 QM σ 150 [(0, .ref th), (3, .long v3)] [] := by
  intro σ v3 h hGσ hYσ hE hth H locs ls hH hl hc
  have B := K.1
  have hl9 := K.2.2.2.2.2.2
  unfold w_X4_step_150 at h
  refine lv_lload_n B.1 B.2.1 dX4_step_150 rfl (lv_at hl 1 rfl) ?_
  refine lv_l2i B.1 B.2.1 dX4_step_151 rfl ?_
  refine W.eq (g2 := F0 m 152 ls [.int (i32 ((v3).toInt32.toInt))]) (by simp only [i32_self]) ?_
  exact hQ _ _ _ _ _ _ (rng_toInt _) dX4_step_152 hH hc h hGσ hYσ hE
set_option maxRecDepth 20000 in
theorem a_X4_step_170 {Q : Sg → Int → Prop} {X : Sg → String → Prop} {th : Nat} (K : MD l R p s m args c cX4_step 6 RX4 D cA tys A n0 s0 1 22 []) (hQ : CQI p l e R s m args below meth c cX4_step D cA A n0 s0 QM σi Q) (hX : CX p l e R s m args below meth c 6 D cA A n0 s0 QM σi X) (hTh : CT p l e R s m args below meth c cX4_step 6 D cA A n0 s0 QM σi RX4 X) : ∀ (σ : Sg) (u0 : Int) (gu0 : rng u0), w_X4_step_170 th Q X σ u0 → RG σ → TY σ → Ext σi σ → kO σ th 4 → JJ p l e R s m args below meth c 6 D cA A n0 s0 QM σ 170 [(0, .ref th)] [.int (i32 u0)] := by
  intro σ u0 gu0 h hGσ hYσ hE hth H locs ls hH hl hc
  have B := K.1
  have hl9 := K.2.2.2.2.2.2
  unfold w_X4_step_170 at h
  exact hQ _ _ _ _ _ _ gu0 dX4_step_170 hH hc h hGσ hYσ hE
set_option maxRecDepth 20000 in
theorem a_X4_step_167 {Q : Sg → Int → Prop} {X : Sg → String → Prop} {th : Nat} (K : MD l R p s m args c cX4_step 6 RX4 D cA tys A n0 s0 1 22 []) (hQ : CQI p l e R s m args below meth c cX4_step D cA A n0 s0 QM σi Q) (hX : CX p l e R s m args below meth c 6 D cA A n0 s0 QM σi X) (hTh : CT p l e R s m args below meth c cX4_step 6 D cA A n0 s0 QM σi RX4 X) : ∀ (σ : Sg) (v1 : Int) (g1 : rng v1), w_X4_step_167 th Q X σ v1 → RG σ → TY σ → Ext σi σ → kO σ th 4 → JJ p l e R s m args below meth c 6 D cA A n0 s0 QM σ 167 [(0, .ref th), (1, .int (i32 v1))] [] := by
  intro σ v1 g1 h hGσ hYσ hE hth H locs ls hH hl hc
  have B := K.1
  have hl9 := K.2.2.2.2.2.2
  unfold w_X4_step_167 at h
  refine lv_iload_n B.1 B.2.1 dX4_step_167 rfl (lv_at hl 1 rfl) ?_
  refine lv_iconst (v := i32 1) B.1 B.2.1 dX4_step_168 (by decide) ?_
  obtain ⟨q1, h⟩ := h
  refine lv_iadd B.1 B.2.1 dX4_step_169 ?_
  rw [i32_add]
  exact a_X4_step_170 K hQ hX hTh _ _ q1 h hGσ hYσ hE hth _ _ _ hH (lv_sub (l' := [(0, .ref th)]) hl [0] rfl) hc
set_option maxRecDepth 20000 in
theorem a_X4_step_162 {Q : Sg → Int → Prop} {X : Sg → String → Prop} {th : Nat} (K : MD l R p s m args c cX4_step 6 RX4 D cA tys A n0 s0 1 22 []) (hQ : CQI p l e R s m args below meth c cX4_step D cA A n0 s0 QM σi Q) (hX : CX p l e R s m args below meth c 6 D cA A n0 s0 QM σi X) (hTh : CT p l e R s m args below meth c cX4_step 6 D cA A n0 s0 QM σi RX4 X) : ∀ (σ : Sg) (v3 : Int64), w_X4_step_162 th Q X σ v3 → RG σ → TY σ → Ext σi σ → kO σ th 4 → JJ p l e R s m args below meth c 6 D cA A n0 s0 QM σ 162 [(0, .ref th), (3, .long v3)] [] := by
  intro σ v3 h hGσ hYσ hE hth H locs ls hH hl hc
  have B := K.1
  have hl9 := K.2.2.2.2.2.2
  unfold w_X4_step_162 at h
  refine lv_lload_n B.1 B.2.1 dX4_step_162 rfl (lv_at hl 1 rfl) ?_
  refine lv_l2i B.1 B.2.1 dX4_step_163 rfl ?_
  refine W.eq (g2 := F0 m 164 ls [.int (i32 ((v3).toInt32.toInt))]) (by simp only [i32_self]) ?_
  refine lv_goto (tgt := 170) B.1 B.2.1 dX4_step_164 (by decide) ?_
  exact a_X4_step_170 K hQ hX hTh _ _ (rng_toInt _) h hGσ hYσ hE hth _ _ _ hH (lv_sub (l' := [(0, .ref th)]) hl [0] rfl) hc
set_option maxRecDepth 20000 in
theorem a_X4_step_153 {Q : Sg → Int → Prop} {X : Sg → String → Prop} {th : Nat} (K : MD l R p s m args c cX4_step 6 RX4 D cA tys A n0 s0 1 22 []) (hQ : CQI p l e R s m args below meth c cX4_step D cA A n0 s0 QM σi Q) (hX : CX p l e R s m args below meth c 6 D cA A n0 s0 QM σi X) (hTh : CT p l e R s m args below meth c cX4_step 6 D cA A n0 s0 QM σi RX4 X) : ∀ (σ : Sg) (v1 : Int) (v3 : Int64) (g1 : rng v1), w_X4_step_153 th Q X σ v1 v3 → RG σ → TY σ → Ext σi σ → kO σ th 4 → JJ p l e R s m args below meth c 6 D cA A n0 s0 QM σ 153 [(0, .ref th), (1, .int (i32 v1)), (3, .long v3)] [] := by
  intro σ v1 v3 g1 h hGσ hYσ hE hth H locs ls hH hl hc
  have B := K.1
  have hl9 := K.2.2.2.2.2.2
  unfold w_X4_step_153 at h
  refine lv_aload_n B.1 B.2.1 dX4_step_153 rfl (lv_at hl 0 rfl) ?_
  refine W.eq (g2 := F0 m 154 ls [.ref th]) (rfl) ?_
  refine c_V B hH hl hc K.2.2.1 (C := RX4) (T := TX4) (N := 14) (ci := 4) (As := []) (ok_X4_pop hl9 K.2.1 σ th hth hGσ hYσ h) wc_X4_102 0 hd_X4_pop ⟨Nat.le_trans (Nat.le_of_ble_eq_true rfl) K.2.2.2.1, Nat.le_trans (Nat.le_of_ble_eq_true rfl) K.2.2.2.2.1⟩ hth.1 hth.2 (by decide) rfl rfl (rest := []) rfl (Nat.le_of_ble_eq_true rfl) dX4_step_154 (fun σ62 w hq => ?_) (fun σ9 E9 hx9 => hX σ9 E9 _ _ _ (tb_out K.2.2.2.2.2.1 rfl) hx9.1 hx9.2.1 hx9.2.2.1 (hE.trans hx9.2.2.2))
  obtain ⟨r63, rfl, h, hGσ62, hYσ62, xσ62⟩ := hq
  have h := h xσ62
  intro H locs ls hH hl hc
  refine W.eq (g2 := F0 m 157 ls [.long r63]) (rfl) ?_
  try dsimp only at h
  refine lv_lconst (v := 0) B.1 B.2.1 dX4_step_157 (by decide) ?_
  refine W.lcmp B.1 B.2.1 dX4_step_158 ?_
  refine lv_if_ne (tgt := 167) B.1 B.2.1 dX4_step_159 (by decide) (fun h9 => ?_) (fun h9 => ?_)
  · rw [if_pos (fun q => h9 ((lg_cmp_eq _ _).mpr q))] at h
    exact a_X4_step_167 K hQ hX hTh _ _ g1 h hGσ62 hYσ62 (hE.trans xσ62) (hth.up xσ62) _ _ _ hH (lv_sub (l' := [(0, .ref th), (1, .int (i32 v1))]) hl [0, 1] rfl) hc
  · rw [if_neg (fun q => q ((lg_cmp_eq _ _).mp h9))] at h
    exact a_X4_step_162 K hQ hX hTh _ _ h hGσ62 hYσ62 (hE.trans xσ62) (hth.up xσ62) _ _ _ hH (lv_sub (l' := [(0, .ref th), (3, .long v3)]) hl [0, 2] rfl) hc
set_option maxRecDepth 20000 in
theorem a_X4_step_219 {Q : Sg → Int → Prop} {X : Sg → String → Prop} {th : Nat} (K : MD l R p s m args c cX4_step 6 RX4 D cA tys A n0 s0 1 22 []) (hQ : CQI p l e R s m args below meth c cX4_step D cA A n0 s0 QM σi Q) (hX : CX p l e R s m args below meth c 6 D cA A n0 s0 QM σi X) (hTh : CT p l e R s m args below meth c cX4_step 6 D cA A n0 s0 QM σi RX4 X) : ∀ (σ : Sg) (v3 : Int64) (u0 : Int64), w_X4_step_219 th Q X σ v3 u0 → RG σ → TY σ → Ext σi σ → kO σ th 4 → JJ p l e R s m args below meth c 6 D cA A n0 s0 QM σ 219 [(0, .ref th), (3, .long v3)] [.long u0, .ref th] := by
  intro σ v3 u0 h hGσ hYσ hE hth H locs ls hH hl hc
  have B := K.1
  have hl9 := K.2.2.2.2.2.2
  unfold w_X4_step_219 at h
  refine W.eq (g2 := F0 m 219 ls [.long u0, .ref th]) (rfl) ?_
  refine c_V B hH hl hc K.2.2.1 (C := RX4) (T := TX4) (N := 14) (ci := 4) (As := [.long u0]) (ok_X4_push hl9 K.2.1 σ th u0 hth hGσ hYσ h) wc_X4_110 1 hd_X4_push ⟨Nat.le_trans (Nat.le_of_ble_eq_true rfl) K.2.2.2.1, Nat.le_trans (Nat.le_of_ble_eq_true rfl) K.2.2.2.2.1⟩ hth.1 hth.2 (by decide) rfl rfl (rest := []) rfl (Nat.le_of_ble_eq_true rfl) dX4_step_219 (fun σ64 w hq => ?_) (fun σ9 E9 hx9 => hX σ9 E9 _ _ _ (tb_out K.2.2.2.2.2.1 rfl) hx9.1 hx9.2.1 hx9.2.2.1 (hE.trans hx9.2.2.2))
  obtain ⟨rfl, h, hGσ64, hYσ64, xσ64⟩ := hq
  have h := h xσ64
  intro H locs ls hH hl hc
  refine W.eq (g2 := F0 m 222 ls []) (rfl) ?_
  try dsimp only at h
  refine lv_lload_n B.1 B.2.1 dX4_step_222 rfl (lv_at hl 1 rfl) ?_
  refine lv_l2i B.1 B.2.1 dX4_step_223 rfl ?_
  refine W.eq (g2 := F0 m 224 ls [.int (i32 ((v3).toInt32.toInt))]) (by simp only [i32_self]) ?_
  exact hQ _ _ _ _ _ _ (rng_toInt _) dX4_step_224 hH hc h hGσ64 hYσ64 (hE.trans xσ64)
set_option maxRecDepth 20000 in
theorem a_X4_step_218 {Q : Sg → Int → Prop} {X : Sg → String → Prop} {th : Nat} (K : MD l R p s m args c cX4_step 6 RX4 D cA tys A n0 s0 1 22 []) (hQ : CQI p l e R s m args below meth c cX4_step D cA A n0 s0 QM σi Q) (hX : CX p l e R s m args below meth c 6 D cA A n0 s0 QM σi X) (hTh : CT p l e R s m args below meth c cX4_step 6 D cA A n0 s0 QM σi RX4 X) : ∀ (σ : Sg) (v3 : Int64), w_X4_step_218 th Q X σ v3 → RG σ → TY σ → Ext σi σ → kO σ th 4 → JJ p l e R s m args below meth c 6 D cA A n0 s0 QM σ 218 [(0, .ref th), (3, .long v3)] [.ref th] := by
  intro σ v3 h hGσ hYσ hE hth H locs ls hH hl hc
  have B := K.1
  have hl9 := K.2.2.2.2.2.2
  unfold w_X4_step_218 at h
  refine lv_lconst (v := 0) B.1 B.2.1 dX4_step_218 (by decide) ?_
  exact a_X4_step_219 K hQ hX hTh _ _ _ h hGσ hYσ hE hth _ _ _ hH (lv_sub (l' := [(0, .ref th), (3, .long v3)]) hl [0, 1] rfl) hc
set_option maxRecDepth 20000 in
theorem a_X4_step_214 {Q : Sg → Int → Prop} {X : Sg → String → Prop} {th : Nat} (K : MD l R p s m args c cX4_step 6 RX4 D cA tys A n0 s0 1 22 []) (hQ : CQI p l e R s m args below meth c cX4_step D cA A n0 s0 QM σi Q) (hX : CX p l e R s m args below meth c 6 D cA A n0 s0 QM σi X) (hTh : CT p l e R s m args below meth c cX4_step 6 D cA A n0 s0 QM σi RX4 X) : ∀ (σ : Sg) (v3 : Int64), w_X4_step_214 th Q X σ v3 → RG σ → TY σ → Ext σi σ → kO σ th 4 → JJ p l e R s m args below meth c 6 D cA A n0 s0 QM σ 214 [(0, .ref th), (3, .long v3)] [.ref th] := by
  intro σ v3 h hGσ hYσ hE hth H locs ls hH hl hc
  have B := K.1
  have hl9 := K.2.2.2.2.2.2
  unfold w_X4_step_214 at h
  refine lv_lconst (v := 1) B.1 B.2.1 dX4_step_214 (by decide) ?_
  refine lv_goto (tgt := 219) B.1 B.2.1 dX4_step_215 (by decide) ?_
  exact a_X4_step_219 K hQ hX hTh _ _ _ h hGσ hYσ hE hth _ _ _ hH (lv_sub (l' := [(0, .ref th), (3, .long v3)]) hl [0, 1] rfl) hc
set_option maxRecDepth 20000 in
theorem a_X4_step_208 {Q : Sg → Int → Prop} {X : Sg → String → Prop} {th : Nat} (K : MD l R p s m args c cX4_step 6 RX4 D cA tys A n0 s0 1 22 []) (hQ : CQI p l e R s m args below meth c cX4_step D cA A n0 s0 QM σi Q) (hX : CX p l e R s m args below meth c 6 D cA A n0 s0 QM σi X) (hTh : CT p l e R s m args below meth c cX4_step 6 D cA A n0 s0 QM σi RX4 X) : ∀ (σ : Sg) (v3 : Int64) (v5 : Int) (g5 : rng v5), w_X4_step_208 th Q X σ v3 v5 → RG σ → TY σ → Ext σi σ → kO σ th 4 → JJ p l e R s m args below meth c 6 D cA A n0 s0 QM σ 208 [(0, .ref th), (3, .long v3), (5, .int (i32 v5))] [] := by
  intro σ v3 v5 g5 h hGσ hYσ hE hth H locs ls hH hl hc
  have B := K.1
  have hl9 := K.2.2.2.2.2.2
  unfold w_X4_step_208 at h
  refine lv_aload_n B.1 B.2.1 dX4_step_208 rfl (lv_at hl 0 rfl) ?_
  refine lv_iload B.1 B.2.1 dX4_step_209 (lv_at hl 2 rfl) ?_
  refine lv_if_eq (tgt := 218) B.1 B.2.1 dX4_step_211 (by decide) (fun h9 => ?_) (fun h9 => ?_)
  · rw [if_pos ((z_eq g5).mp h9)] at h
    exact a_X4_step_218 K hQ hX hTh _ _ h hGσ hYσ hE hth _ _ _ hH (lv_sub (l' := [(0, .ref th), (3, .long v3)]) hl [0, 1] rfl) hc
  · rw [if_neg (fun q => h9 ((z_eq g5).mpr q))] at h
    exact a_X4_step_214 K hQ hX hTh _ _ h hGσ hYσ hE hth _ _ _ hH (lv_sub (l' := [(0, .ref th), (3, .long v3)]) hl [0, 1] rfl) hc
set_option maxRecDepth 20000 in
theorem a_X4_step_205 {Q : Sg → Int → Prop} {X : Sg → String → Prop} {th : Nat} (K : MD l R p s m args c cX4_step 6 RX4 D cA tys A n0 s0 1 22 []) (hQ : CQI p l e R s m args below meth c cX4_step D cA A n0 s0 QM σi Q) (hX : CX p l e R s m args below meth c 6 D cA A n0 s0 QM σi X) (hTh : CT p l e R s m args below meth c cX4_step 6 D cA A n0 s0 QM σi RX4 X) : ∀ (σ : Sg) (v1 : Int) (v3 : Int64) (v5 : Int) (u0 : Int) (u1 : Int) (g1 : rng v1) (g5 : rng v5) (gu0 : rng u0) (gu1 : rng u1), w_X4_step_205 th Q X σ v1 v3 v5 u0 u1 → RG σ → TY σ → Ext σi σ → kO σ th 4 → JJ p l e R s m args below meth c 6 D cA A n0 s0 QM σ 205 [(0, .ref th), (1, .int (i32 v1)), (3, .long v3), (5, .int (i32 v5))] [.int (i32 u0), .int (i32 u1)] := by
  intro σ v1 v3 v5 u0 u1 g1 g5 gu0 gu1 h hGσ hYσ hE hth H locs ls hH hl hc
  have B := K.1
  have hl9 := K.2.2.2.2.2.2
  unfold w_X4_step_205 at h
  refine lv_icmp_ne (tgt := 225) B.1 B.2.1 dX4_step_205 (by decide) (fun h9 => ?_) (fun h9 => ?_)
  · rw [if_pos (fun q => h9 ((i32_eq gu1 gu0).mpr q))] at h
    exact a_X4_step_225 K hQ hX hTh _ _ g1 h hGσ hYσ hE hth _ _ _ hH (lv_sub (l' := [(0, .ref th), (1, .int (i32 v1))]) hl [0, 1] rfl) hc
  · rw [if_neg (fun q => q ((i32_eq gu1 gu0).mp h9))] at h
    exact a_X4_step_208 K hQ hX hTh _ _ _ g5 h hGσ hYσ hE hth _ _ _ hH (lv_sub (l' := [(0, .ref th), (3, .long v3), (5, .int (i32 v5))]) hl [0, 2, 3] rfl) hc
set_option maxRecDepth 20000 in
theorem a_X4_step_204 {Q : Sg → Int → Prop} {X : Sg → String → Prop} {th : Nat} (K : MD l R p s m args c cX4_step 6 RX4 D cA tys A n0 s0 1 22 []) (hQ : CQI p l e R s m args below meth c cX4_step D cA A n0 s0 QM σi Q) (hX : CX p l e R s m args below meth c 6 D cA A n0 s0 QM σi X) (hTh : CT p l e R s m args below meth c cX4_step 6 D cA A n0 s0 QM σi RX4 X) : ∀ (σ : Sg) (v1 : Int) (v3 : Int64) (v5 : Int) (u0 : Int) (g1 : rng v1) (g5 : rng v5) (gu0 : rng u0), w_X4_step_204 th Q X σ v1 v3 v5 u0 → RG σ → TY σ → Ext σi σ → kO σ th 4 → JJ p l e R s m args below meth c 6 D cA A n0 s0 QM σ 204 [(0, .ref th), (1, .int (i32 v1)), (3, .long v3), (5, .int (i32 v5))] [.int (i32 u0)] := by
  intro σ v1 v3 v5 u0 g1 g5 gu0 h hGσ hYσ hE hth H locs ls hH hl hc
  have B := K.1
  have hl9 := K.2.2.2.2.2.2
  unfold w_X4_step_204 at h
  refine lv_iconst (v := i32 0) B.1 B.2.1 dX4_step_204 (by decide) ?_
  exact a_X4_step_205 K hQ hX hTh _ _ _ _ _ _ g1 g5 (by unfold rng; omega) gu0 h hGσ hYσ hE hth _ _ _ hH (lv_sub (l' := [(0, .ref th), (1, .int (i32 v1)), (3, .long v3), (5, .int (i32 v5))]) hl [0, 1, 2, 3] rfl) hc
set_option maxRecDepth 20000 in
theorem a_X4_step_200 {Q : Sg → Int → Prop} {X : Sg → String → Prop} {th : Nat} (K : MD l R p s m args c cX4_step 6 RX4 D cA tys A n0 s0 1 22 []) (hQ : CQI p l e R s m args below meth c cX4_step D cA A n0 s0 QM σi Q) (hX : CX p l e R s m args below meth c 6 D cA A n0 s0 QM σi X) (hTh : CT p l e R s m args below meth c cX4_step 6 D cA A n0 s0 QM σi RX4 X) : ∀ (σ : Sg) (v1 : Int) (v3 : Int64) (v5 : Int) (u0 : Int) (g1 : rng v1) (g5 : rng v5) (gu0 : rng u0), w_X4_step_200 th Q X σ v1 v3 v5 u0 → RG σ → TY σ → Ext σi σ → kO σ th 4 → JJ p l e R s m args below meth c 6 D cA A n0 s0 QM σ 200 [(0, .ref th), (1, .int (i32 v1)), (3, .long v3), (5, .int (i32 v5))] [.int (i32 u0)] := by
  intro σ v1 v3 v5 u0 g1 g5 gu0 h hGσ hYσ hE hth H locs ls hH hl hc
  have B := K.1
  have hl9 := K.2.2.2.2.2.2
  unfold w_X4_step_200 at h
  refine lv_iconst (v := i32 1) B.1 B.2.1 dX4_step_200 (by decide) ?_
  refine lv_goto (tgt := 205) B.1 B.2.1 dX4_step_201 (by decide) ?_
  exact a_X4_step_205 K hQ hX hTh _ _ _ _ _ _ g1 g5 (by unfold rng; omega) gu0 h hGσ hYσ hE hth _ _ _ hH (lv_sub (l' := [(0, .ref th), (1, .int (i32 v1)), (3, .long v3), (5, .int (i32 v5))]) hl [0, 1, 2, 3] rfl) hc
set_option maxRecDepth 20000 in
theorem a_X4_step_185 {Q : Sg → Int → Prop} {X : Sg → String → Prop} {th : Nat} (K : MD l R p s m args c cX4_step 6 RX4 D cA tys A n0 s0 1 22 []) (hQ : CQI p l e R s m args below meth c cX4_step D cA A n0 s0 QM σi Q) (hX : CX p l e R s m args below meth c 6 D cA A n0 s0 QM σi X) (hTh : CT p l e R s m args below meth c cX4_step 6 D cA A n0 s0 QM σi RX4 X) : ∀ (σ : Sg) (v1 : Int) (v3 : Int64) (u0 : Int) (g1 : rng v1) (gu0 : rng u0), w_X4_step_185 th Q X σ v1 v3 u0 → RG σ → TY σ → Ext σi σ → kO σ th 4 → JJ p l e R s m args below meth c 6 D cA A n0 s0 QM σ 185 [(0, .ref th), (1, .int (i32 v1)), (3, .long v3)] [.int (i32 u0)] := by
  intro σ v1 v3 u0 g1 gu0 h hGσ hYσ hE hth H locs ls hH hl hc
  have B := K.1
  have hl9 := K.2.2.2.2.2.2
  unfold w_X4_step_185 at h
  refine lv_istore (lv' := [(5, .int (i32 u0)), (0, .ref th), (1, .int (i32 v1)), (3, .long v3)]) B.1 B.2.1 dX4_step_185 hl (by decide) rfl (fun ls hl => ?_)
  refine lv_iload B.1 B.2.1 dX4_step_187 (lv_at hl 0 rfl) ?_
  refine lv_aload_n B.1 B.2.1 dX4_step_189 rfl (lv_at hl 1 rfl) ?_
  refine f_getp B hH hth (by decide) rfl wu_X4 5 (by decide) wf_X4_24 rfl rfl dX4_step_190 ?_
  refine lv_iload_n B.1 B.2.1 dX4_step_193 rfl (lv_at hl 2 rfl) ?_
  obtain ⟨a65, ea65, h⟩ := h
  have ka65 : kO σ a65 100 := (hYσ.get hth (by decide)) a65 ea65
  have h := h ka65
  obtain ⟨q1, h⟩ := h
  refine W.eq (g2 := F0 m 194 ls [.int (i32 v1), .ref a65, .int (i32 u0)]) (by rw [ea65]; rfl) ?_
  refine y_iald B K.2.1 hH ka65 q1 dX4_step_194 (hYσ.2 _) ?_
  refine lv_bipush (v := i32 10) B.1 B.2.1 dX4_step_195 (by decide) ?_
  refine lv_icmp_ne (tgt := 204) B.1 B.2.1 dX4_step_197 (by decide) (fun h9 => ?_) (fun h9 => ?_)
  · rw [if_pos (fun q => h9 ((i32_eq (hGσ _ _) (by unfold rng; omega)).mpr q))] at h
    exact a_X4_step_204 K hQ hX hTh _ _ _ _ _ g1 gu0 gu0 h hGσ hYσ hE hth _ _ _ hH (lv_sub (l' := [(0, .ref th), (1, .int (i32 v1)), (3, .long v3), (5, .int (i32 u0))]) hl [1, 2, 3, 0] rfl) hc
  · rw [if_neg (fun q => q ((i32_eq (hGσ _ _) (by unfold rng; omega)).mp h9))] at h
    exact a_X4_step_200 K hQ hX hTh _ _ _ _ _ g1 gu0 gu0 h hGσ hYσ hE hth _ _ _ hH (lv_sub (l' := [(0, .ref th), (1, .int (i32 v1)), (3, .long v3), (5, .int (i32 u0))]) hl [1, 2, 3, 0] rfl) hc
set_option maxRecDepth 20000 in
theorem a_X4_step_184 {Q : Sg → Int → Prop} {X : Sg → String → Prop} {th : Nat} (K : MD l R p s m args c cX4_step 6 RX4 D cA tys A n0 s0 1 22 []) (hQ : CQI p l e R s m args below meth c cX4_step D cA A n0 s0 QM σi Q) (hX : CX p l e R s m args below meth c 6 D cA A n0 s0 QM σi X) (hTh : CT p l e R s m args below meth c cX4_step 6 D cA A n0 s0 QM σi RX4 X) : ∀ (σ : Sg) (v1 : Int) (v3 : Int64) (g1 : rng v1), w_X4_step_184 th Q X σ v1 v3 → RG σ → TY σ → Ext σi σ → kO σ th 4 → JJ p l e R s m args below meth c 6 D cA A n0 s0 QM σ 184 [(0, .ref th), (1, .int (i32 v1)), (3, .long v3)] [] := by
  intro σ v1 v3 g1 h hGσ hYσ hE hth H locs ls hH hl hc
  have B := K.1
  have hl9 := K.2.2.2.2.2.2
  unfold w_X4_step_184 at h
  refine lv_iconst (v := i32 0) B.1 B.2.1 dX4_step_184 (by decide) ?_
  exact a_X4_step_185 K hQ hX hTh _ _ _ _ g1 (by unfold rng; omega) h hGσ hYσ hE hth _ _ _ hH (lv_sub (l' := [(0, .ref th), (1, .int (i32 v1)), (3, .long v3)]) hl [0, 1, 2] rfl) hc
set_option maxRecDepth 20000 in
theorem a_X4_step_180 {Q : Sg → Int → Prop} {X : Sg → String → Prop} {th : Nat} (K : MD l R p s m args c cX4_step 6 RX4 D cA tys A n0 s0 1 22 []) (hQ : CQI p l e R s m args below meth c cX4_step D cA A n0 s0 QM σi Q) (hX : CX p l e R s m args below meth c 6 D cA A n0 s0 QM σi X) (hTh : CT p l e R s m args below meth c cX4_step 6 D cA A n0 s0 QM σi RX4 X) : ∀ (σ : Sg) (v1 : Int) (v3 : Int64) (g1 : rng v1), w_X4_step_180 th Q X σ v1 v3 → RG σ → TY σ → Ext σi σ → kO σ th 4 → JJ p l e R s m args below meth c 6 D cA A n0 s0 QM σ 180 [(0, .ref th), (1, .int (i32 v1)), (3, .long v3)] [] := by
  intro σ v1 v3 g1 h hGσ hYσ hE hth H locs ls hH hl hc
  have B := K.1
  have hl9 := K.2.2.2.2.2.2
  unfold w_X4_step_180 at h
  refine lv_iconst (v := i32 1) B.1 B.2.1 dX4_step_180 (by decide) ?_
  refine lv_goto (tgt := 185) B.1 B.2.1 dX4_step_181 (by decide) ?_
  exact a_X4_step_185 K hQ hX hTh _ _ _ _ g1 (by unfold rng; omega) h hGσ hYσ hE hth _ _ _ hH (lv_sub (l' := [(0, .ref th), (1, .int (i32 v1)), (3, .long v3)]) hl [0, 1, 2] rfl) hc
set_option maxRecDepth 20000 in
theorem a_X4_step_171 {Q : Sg → Int → Prop} {X : Sg → String → Prop} {th : Nat} (K : MD l R p s m args c cX4_step 6 RX4 D cA tys A n0 s0 1 22 []) (hQ : CQI p l e R s m args below meth c cX4_step D cA A n0 s0 QM σi Q) (hX : CX p l e R s m args below meth c 6 D cA A n0 s0 QM σi X) (hTh : CT p l e R s m args below meth c cX4_step 6 D cA A n0 s0 QM σi RX4 X) : ∀ (σ : Sg) (v1 : Int) (v3 : Int64) (g1 : rng v1), w_X4_step_171 th Q X σ v1 v3 → RG σ → TY σ → Ext σi σ → kO σ th 4 → JJ p l e R s m args below meth c 6 D cA A n0 s0 QM σ 171 [(0, .ref th), (1, .int (i32 v1)), (3, .long v3)] [] := by
  intro σ v1 v3 g1 h hGσ hYσ hE hth H locs ls hH hl hc
  have B := K.1
  have hl9 := K.2.2.2.2.2.2
  unfold w_X4_step_171 at h
  refine lv_aload_n B.1 B.2.1 dX4_step_171 rfl (lv_at hl 0 rfl) ?_
  refine W.eq (g2 := F0 m 172 ls [.ref th]) (rfl) ?_
  refine c_V B hH hl hc K.2.2.1 (C := RX4) (T := TX4) (N := 14) (ci := 4) (As := []) (ok_X4_pop hl9 K.2.1 σ th hth hGσ hYσ h) wc_X4_102 0 hd_X4_pop ⟨Nat.le_trans (Nat.le_of_ble_eq_true rfl) K.2.2.2.1, Nat.le_trans (Nat.le_of_ble_eq_true rfl) K.2.2.2.2.1⟩ hth.1 hth.2 (by decide) rfl rfl (rest := []) rfl (Nat.le_of_ble_eq_true rfl) dX4_step_172 (fun σ66 w hq => ?_) (fun σ9 E9 hx9 => hX σ9 E9 _ _ _ (tb_out K.2.2.2.2.2.1 rfl) hx9.1 hx9.2.1 hx9.2.2.1 (hE.trans hx9.2.2.2))
  obtain ⟨r67, rfl, h, hGσ66, hYσ66, xσ66⟩ := hq
  have h := h xσ66
  intro H locs ls hH hl hc
  refine W.eq (g2 := F0 m 175 ls [.long r67]) (rfl) ?_
  try dsimp only at h
  refine lv_lconst (v := 0) B.1 B.2.1 dX4_step_175 (by decide) ?_
  refine W.lcmp B.1 B.2.1 dX4_step_176 ?_
  refine lv_if_eq (tgt := 184) B.1 B.2.1 dX4_step_177 (by decide) (fun h9 => ?_) (fun h9 => ?_)
  · rw [if_pos ((lg_cmp_eq _ _).mp h9)] at h
    exact a_X4_step_184 K hQ hX hTh _ _ _ g1 h hGσ66 hYσ66 (hE.trans xσ66) (hth.up xσ66) _ _ _ hH (lv_sub (l' := [(0, .ref th), (1, .int (i32 v1)), (3, .long v3)]) hl [0, 1, 2] rfl) hc
  · rw [if_neg (fun q => h9 ((lg_cmp_eq _ _).mpr q))] at h
    exact a_X4_step_180 K hQ hX hTh _ _ _ g1 h hGσ66 hYσ66 (hE.trans xσ66) (hth.up xσ66) _ _ _ hH (lv_sub (l' := [(0, .ref th), (1, .int (i32 v1)), (3, .long v3)]) hl [0, 1, 2] rfl) hc
set_option maxRecDepth 20000 in
theorem a_X4_step_0 {Q : Sg → Int → Prop} {X : Sg → String → Prop} {th : Nat} (K : MD l R p s m args c cX4_step 6 RX4 D cA tys A n0 s0 1 22 []) (hQ : CQI p l e R s m args below meth c cX4_step D cA A n0 s0 QM σi Q) (hX : CX p l e R s m args below meth c 6 D cA A n0 s0 QM σi X) (hTh : CT p l e R s m args below meth c cX4_step 6 D cA A n0 s0 QM σi RX4 X) : ∀ (σ : Sg) (v1 : Int) (v2 : Option Nat) (g1 : rng v1) (g2 : tyV σ 0 v2), w_X4_step_0 th Q X σ v1 v2 → RG σ → TY σ → Ext σi σ → kO σ th 4 → JJ p l e R s m args below meth c 6 D cA A n0 s0 QM σ 0 [(0, .ref th), (1, .int (i32 v1)), (2, va_rf v2)] [] := by
  intro σ v1 v2 g1 g2 h hGσ hYσ hE hth H locs ls hH hl hc
  have B := K.1
  have hl9 := K.2.2.2.2.2.2
  unfold w_X4_step_0 at h
  refine lv_aload_n B.1 B.2.1 dX4_step_0 rfl (lv_at hl 0 rfl) ?_
  refine f_getp B hH hth (by decide) rfl wu_X4 6 (by decide) wf_X4_27 rfl rfl dX4_step_1 ?_
  refine lv_iload_n B.1 B.2.1 dX4_step_4 rfl (lv_at hl 1 rfl) ?_
  obtain ⟨a68, ea68, h⟩ := h
  have ka68 : kO σ a68 101 := (hYσ.get hth (by decide)) a68 ea68
  have h := h ka68
  obtain ⟨q1, h⟩ := h
  refine W.eq (g2 := F0 m 5 ls [.int (i32 v1), .ref a68]) (by rw [ea68]; rfl) ?_
  refine y_lald B K.2.1 hH ka68 q1 dX4_step_5 (hYσ.2 _) ?_
  refine lv_lstore_n (lv' := [(3, .long (gJ σ a68 v1.toNat)), (0, .ref th), (1, .int (i32 v1)), (2, va_rf v2)]) B.1 B.2.1 dX4_step_6 rfl hl (by decide) (by generalize v2 = w9; cases w9 <;> rfl) (fun ls hl => ?_)
  refine lv_aload_n B.1 B.2.1 dX4_step_7 rfl (lv_at hl 1 rfl) ?_
  refine f_getp B hH hth (by decide) rfl wu_X4 5 (by decide) wf_X4_24 rfl rfl dX4_step_8 ?_
  refine lv_iload_n B.1 B.2.1 dX4_step_11 rfl (lv_at hl 2 rfl) ?_
  obtain ⟨a69, ea69, h⟩ := h
  have ka69 : kO σ a69 100 := (hYσ.get hth (by decide)) a69 ea69
  have h := h ka69
  obtain ⟨q2, h⟩ := h
  refine W.eq (g2 := F0 m 12 ls [.int (i32 v1), .ref a69]) (by rw [ea69]; rfl) ?_
  refine y_iald B K.2.1 hH ka69 q2 dX4_step_12 (hYσ.2 _) ?_
  rcases Classical.em ((gI σ a69 v1.toNat) = 1) with e9 | e9
  · rw [if_pos e9] at h
    refine lv_tableIn (off := 47) (tgt := 60) B.1 B.2.1 dX4_step_13 (by rw [i32_toInt (hGσ _ _), e9]; decide) (by rw [i32_toInt (hGσ _ _), e9]; decide) (by rw [i32_toInt (hGσ _ _), e9]; rfl) (by decide) ?_
    exact a_X4_step_60 K hQ hX hTh _ _ _ g1 h hGσ hYσ hE hth _ _ _ hH (lv_sub (l' := [(0, .ref th), (1, .int (i32 v1)), (3, .long (gJ σ a68 v1.toNat))]) hl [1, 2, 0] rfl) hc
  rw [if_neg e9] at h
  have k3 := e9
  rcases Classical.em ((gI σ a69 v1.toNat) = 2) with e9 | e9
  · rw [if_pos e9] at h
    refine lv_tableIn (off := 55) (tgt := 68) B.1 B.2.1 dX4_step_13 (by rw [i32_toInt (hGσ _ _), e9]; decide) (by rw [i32_toInt (hGσ _ _), e9]; decide) (by rw [i32_toInt (hGσ _ _), e9]; rfl) (by decide) ?_
    exact a_X4_step_68 K hQ hX hTh _ _ _ _ g1 g2 h hGσ hYσ hE hth _ _ _ hH (lv_sub (l' := [(0, .ref th), (1, .int (i32 v1)), (2, va_rf v2), (3, .long (gJ σ a68 v1.toNat))]) hl [1, 2, 3, 0] rfl) hc
  rw [if_neg e9] at h
  have k4 := e9
  rcases Classical.em ((gI σ a69 v1.toNat) = 3) with e9 | e9
  · rw [if_pos e9] at h
    refine lv_tableIn (off := 72) (tgt := 85) B.1 B.2.1 dX4_step_13 (by rw [i32_toInt (hGσ _ _), e9]; decide) (by rw [i32_toInt (hGσ _ _), e9]; decide) (by rw [i32_toInt (hGσ _ _), e9]; rfl) (by decide) ?_
    exact a_X4_step_85 K hQ hX hTh _ _ _ g1 g2 h hGσ hYσ hE hth _ _ _ hH (lv_sub (l' := [(0, .ref th), (1, .int (i32 v1)), (2, va_rf v2)]) hl [1, 2, 3] rfl) hc
  rw [if_neg e9] at h
  have k5 := e9
  rcases Classical.em ((gI σ a69 v1.toNat) = 4) with e9 | e9
  · rw [if_pos e9] at h
    refine lv_tableIn (off := 83) (tgt := 96) B.1 B.2.1 dX4_step_13 (by rw [i32_toInt (hGσ _ _), e9]; decide) (by rw [i32_toInt (hGσ _ _), e9]; decide) (by rw [i32_toInt (hGσ _ _), e9]; rfl) (by decide) ?_
    exact a_X4_step_96 K hQ hX hTh _ _ g1 h hGσ hYσ hE hth _ _ _ hH (lv_sub (l' := [(0, .ref th), (1, .int (i32 v1))]) hl [1, 2] rfl) hc
  rw [if_neg e9] at h
  have k6 := e9
  rcases Classical.em ((gI σ a69 v1.toNat) = 5) with e9 | e9
  · rw [if_pos e9] at h
    refine lv_tableIn (off := 95) (tgt := 108) B.1 B.2.1 dX4_step_13 (by rw [i32_toInt (hGσ _ _), e9]; decide) (by rw [i32_toInt (hGσ _ _), e9]; decide) (by rw [i32_toInt (hGσ _ _), e9]; rfl) (by decide) ?_
    exact a_X4_step_108 K hQ hX hTh _ _ g1 h hGσ hYσ hE hth _ _ _ hH (lv_sub (l' := [(0, .ref th), (1, .int (i32 v1))]) hl [1, 2] rfl) hc
  rw [if_neg e9] at h
  have k7 := e9
  rcases Classical.em ((gI σ a69 v1.toNat) = 6) with e9 | e9
  · rw [if_pos e9] at h
    refine lv_tableIn (off := 116) (tgt := 129) B.1 B.2.1 dX4_step_13 (by rw [i32_toInt (hGσ _ _), e9]; decide) (by rw [i32_toInt (hGσ _ _), e9]; decide) (by rw [i32_toInt (hGσ _ _), e9]; rfl) (by decide) ?_
    exact a_X4_step_129 K hQ hX hTh _ _ g1 h hGσ hYσ hE hth _ _ _ hH (lv_sub (l' := [(0, .ref th), (1, .int (i32 v1))]) hl [1, 2] rfl) hc
  rw [if_neg e9] at h
  have k8 := e9
  rcases Classical.em ((gI σ a69 v1.toNat) = 7) with e9 | e9
  · rw [if_pos e9] at h
    refine lv_tableIn (off := 137) (tgt := 150) B.1 B.2.1 dX4_step_13 (by rw [i32_toInt (hGσ _ _), e9]; decide) (by rw [i32_toInt (hGσ _ _), e9]; decide) (by rw [i32_toInt (hGσ _ _), e9]; rfl) (by decide) ?_
    exact a_X4_step_150 K hQ hX hTh _ _ h hGσ hYσ hE hth _ _ _ hH (lv_sub (l' := [(0, .ref th), (3, .long (gJ σ a68 v1.toNat))]) hl [1, 0] rfl) hc
  rw [if_neg e9] at h
  have k9 := e9
  rcases Classical.em ((gI σ a69 v1.toNat) = 8) with e9 | e9
  · rw [if_pos e9] at h
    refine lv_tableIn (off := 140) (tgt := 153) B.1 B.2.1 dX4_step_13 (by rw [i32_toInt (hGσ _ _), e9]; decide) (by rw [i32_toInt (hGσ _ _), e9]; decide) (by rw [i32_toInt (hGσ _ _), e9]; rfl) (by decide) ?_
    exact a_X4_step_153 K hQ hX hTh _ _ _ g1 h hGσ hYσ hE hth _ _ _ hH (lv_sub (l' := [(0, .ref th), (1, .int (i32 v1)), (3, .long (gJ σ a68 v1.toNat))]) hl [1, 2, 0] rfl) hc
  rw [if_neg e9] at h
  have k10 := e9
  rcases (show ((gI σ a69 v1.toNat) < 1 ∨ 8 < (gI σ a69 v1.toNat)) ∨ False by omega) with e9 | e9
  · refine lv_tableOut (tgt := 171) B.1 B.2.1 dX4_step_13 (by rw [i32_toInt (hGσ _ _)]; exact e9) (by decide) ?_
    exact a_X4_step_171 K hQ hX hTh _ _ _ g1 h hGσ hYσ hE hth _ _ _ hH (lv_sub (l' := [(0, .ref th), (1, .int (i32 v1)), (3, .long (gJ σ a68 v1.toNat))]) hl [1, 2, 0] rfl) hc
  exact e9.elim
theorem ok_X4_step (hl0 : l.stackTraces = false) (hT : TyC cA tys) {Q : Sg → Int → Prop} {X : Sg → String → Prop} (σ : Sg) (th : Nat) (v1 : Int) (v2 : Option Nat) (g1 : rng v1) (g2 : tyV σ 0 v2) (hth : kO σ th 4) (hG : RG σ) (hY : TY σ) (h : wp_X4_step th v1 v2 σ Q X) : Ok l D cA tys A yX4_step (.code yX4_step cX4_step 6 (some .int)) 1 22 [.ref th, .int (i32 v1), va_rf v2] σ (QcI σ Q) (QxC σ X) := by
  unfold wp_X4_step at h
  exact oc_I hl0 (by decide) (by cases v2 <;> exact Nat.le_of_ble_eq_true rfl) hT (fun p e R s m args below meth c K hQ hX hTh H locs ls hH hl hc => a_X4_step_0 K hQ hX hTh σ v1 v2 g1 g2 h hG hY (Ext.rfl' σ) hth H locs ls hH (lv_sub (l' := [(0, .ref th), (1, .int (i32 v1)), (2, va_rf v2)]) hl [0, 1, 2] (by cases v2 <;> rfl)) hc)
theorem dX4_value_0 : decode cX4_value 0 = .ok (.aload_n 0, 1) := by decide +kernel
theorem dX4_value_1 : decode cX4_value 1 = .ok (.iconst 0, 1) := by decide +kernel
theorem dX4_value_2 : decode cX4_value 2 = .ok (.putfield 91, 3) := by decide +kernel
theorem dX4_value_5 : decode cX4_value 5 = .ok (.aload_n 0, 1) := by decide +kernel
theorem dX4_value_6 : decode cX4_value 6 = .ok (.iconst 0, 1) := by decide +kernel
theorem dX4_value_7 : decode cX4_value 7 = .ok (.putfield 95, 3) := by decide +kernel
theorem dX4_value_10 : decode cX4_value 10 = .ok (.iload_n 1, 1) := by decide +kernel
theorem dX4_value_11 : decode cX4_value 11 = .ok (.istore_n 3, 1) := by decide +kernel
theorem dX4_value_12 : decode cX4_value 12 = .ok (.iconst 0, 1) := by decide +kernel
theorem dX4_value_13 : decode cX4_value 13 = .ok (.istore 4, 2) := by decide +kernel
theorem dX4_value_15 : decode cX4_value 15 = .ok (.iload 4, 2) := by decide +kernel
theorem dX4_value_17 : decode cX4_value 17 = .ok (.aload_n 0, 1) := by decide +kernel
theorem dX4_value_18 : decode cX4_value 18 = .ok (.getfield 60, 3) := by decide +kernel
theorem dX4_value_21 : decode cX4_value 21 = .ok (.if_icmp .ge 87, 3) := by decide +kernel
theorem dX4_value_24 : decode cX4_value 24 = .ok (.iload_n 3, 1) := by decide +kernel
theorem dX4_value_25 : decode cX4_value 25 = .ok (.ifCond .lt 83, 3) := by decide +kernel
theorem dX4_value_28 : decode cX4_value 28 = .ok (.iload_n 3, 1) := by decide +kernel
theorem dX4_value_29 : decode cX4_value 29 = .ok (.aload_n 0, 1) := by decide +kernel
theorem dX4_value_30 : decode cX4_value 30 = .ok (.getfield 60, 3) := by decide +kernel
theorem dX4_value_33 : decode cX4_value 33 = .ok (.if_icmp .ge 75, 3) := by decide +kernel
theorem dX4_value_36 : decode cX4_value 36 = .ok (.aload_n 0, 1) := by decide +kernel
theorem dX4_value_37 : decode cX4_value 37 = .ok (.getfield 24, 3) := by decide +kernel
theorem dX4_value_40 : decode cX4_value 40 = .ok (.iload_n 3, 1) := by decide +kernel
theorem dX4_value_41 : decode cX4_value 41 = .ok (.iaload, 1) := by decide +kernel
theorem dX4_value_42 : decode cX4_value 42 = .ok (.ifCond .eq 66, 3) := by decide +kernel
theorem dX4_value_45 : decode cX4_value 45 = .ok (.aload_n 0, 1) := by decide +kernel
theorem dX4_value_46 : decode cX4_value 46 = .ok (.getfield 91, 3) := by decide +kernel
theorem dX4_value_49 : decode cX4_value 49 = .ok (.ifCond .ne 59, 3) := by decide +kernel
theorem dX4_value_52 : decode cX4_value 52 = .ok (.aload_n 0, 1) := by decide +kernel
theorem dX4_value_53 : decode cX4_value 53 = .ok (.getfield 24, 3) := by decide +kernel
theorem dX4_value_56 : decode cX4_value 56 = .ok (.iload_n 3, 1) := by decide +kernel
theorem dX4_value_57 : decode cX4_value 57 = .ok (.iaload, 1) := by decide +kernel
theorem dX4_value_58 : decode cX4_value 58 = .ok (.bipush 11, 2) := by decide +kernel
theorem dX4_value_60 : decode cX4_value 60 = .ok (.if_icmp .ge 13, 3) := by decide +kernel
theorem dX4_value_63 : decode cX4_value 63 = .ok (.aload_n 0, 1) := by decide +kernel
theorem dX4_value_64 : decode cX4_value 64 = .ok (.iload_n 3, 1) := by decide +kernel
theorem dX4_value_65 : decode cX4_value 65 = .ok (.aload_n 2, 1) := by decide +kernel
theorem dX4_value_66 : decode cX4_value 66 = .ok (.invokevirtual 98, 3) := by decide +kernel
theorem dX4_value_69 : decode cX4_value 69 = .ok (.istore_n 3, 1) := by decide +kernel
theorem dX4_value_70 : decode cX4_value 70 = .ok (.goto 32, 3) := by decide +kernel
theorem dX4_value_73 : decode cX4_value 73 = .ok (.aload_n 0, 1) := by decide +kernel
theorem dX4_value_74 : decode cX4_value 74 = .ok (.invokevirtual 102, 3) := by decide +kernel
theorem dX4_value_77 : decode cX4_value 77 = .ok (.lstore 5, 2) := by decide +kernel
theorem dX4_value_79 : decode cX4_value 79 = .ok (.aload_n 0, 1) := by decide +kernel
theorem dX4_value_80 : decode cX4_value 80 = .ok (.aload_n 0, 1) := by decide +kernel
theorem dX4_value_81 : decode cX4_value 81 = .ok (.aload_n 0, 1) := by decide +kernel
theorem dX4_value_82 : decode cX4_value 82 = .ok (.getfield 24, 3) := by decide +kernel
theorem dX4_value_85 : decode cX4_value 85 = .ok (.iload_n 3, 1) := by decide +kernel
theorem dX4_value_86 : decode cX4_value 86 = .ok (.iaload, 1) := by decide +kernel
theorem dX4_value_87 : decode cX4_value 87 = .ok (.aload_n 0, 1) := by decide +kernel
theorem dX4_value_88 : decode cX4_value 88 = .ok (.invokevirtual 102, 3) := by decide +kernel
theorem dX4_value_91 : decode cX4_value 91 = .ok (.lload 5, 2) := by decide +kernel
theorem dX4_value_93 : decode cX4_value 93 = .ok (.invokevirtual 106, 3) := by decide +kernel
theorem dX4_value_96 : decode cX4_value 96 = .ok (.invokevirtual 110, 3) := by decide +kernel
theorem dX4_value_99 : decode cX4_value 99 = .ok (.iinc 3 1, 3) := by decide +kernel
theorem dX4_value_102 : decode cX4_value 102 = .ok (.iinc 4 1, 3) := by decide +kernel
theorem dX4_value_105 : decode cX4_value 105 = .ok (.goto (-90), 3) := by decide +kernel
theorem dX4_value_108 : decode cX4_value 108 = .ok (.aload_n 0, 1) := by decide +kernel
theorem dX4_value_109 : decode cX4_value 109 = .ok (.invokevirtual 102, 3) := by decide +kernel
theorem dX4_value_112 : decode cX4_value 112 = .ok (.lreturn, 1) := by decide +kernel
set_option maxRecDepth 20000 in
theorem a_X4_value_108 {Q : Sg → Int64 → Prop} {X : Sg → String → Prop} {th : Nat} (K : MD l R p s m args c cX4_value 7 RX4 D cA tys A n0 s0 2 47 []) (hQ : CQJ p l e R s m args below meth c cX4_value D cA A n0 s0 QM σi Q) (hX : CX p l e R s m args below meth c 7 D cA A n0 s0 QM σi X) (hTh : CT p l e R s m args below meth c cX4_value 7 D cA A n0 s0 QM σi RX4 X) : ∀ (σ : Sg), w_X4_value_108 th Q X σ → RG σ → TY σ → Ext σi σ → kO σ th 4 → JJ p l e R s m args below meth c 7 D cA A n0 s0 QM σ 108 [(0, .ref th)] [] := by
  intro σ h hGσ hYσ hE hth H locs ls hH hl hc
  have B := K.1
  have hl9 := K.2.2.2.2.2.2
  unfold w_X4_value_108 at h
  refine lv_aload_n B.1 B.2.1 dX4_value_108 rfl (lv_at hl 0 rfl) ?_
  refine W.eq (g2 := F0 m 109 ls [.ref th]) (rfl) ?_
  refine c_V B hH hl hc K.2.2.1 (C := RX4) (T := TX4) (N := 14) (ci := 4) (As := []) (ok_X4_pop hl9 K.2.1 σ th hth hGσ hYσ h) wc_X4_102 0 hd_X4_pop ⟨Nat.le_trans (Nat.le_of_ble_eq_true rfl) K.2.2.2.1, Nat.le_trans (Nat.le_of_ble_eq_true rfl) K.2.2.2.2.1⟩ hth.1 hth.2 (by decide) rfl rfl (rest := []) rfl (Nat.le_of_ble_eq_true rfl) dX4_value_109 (fun σ33 w hq => ?_) (fun σ9 E9 hx9 => hX σ9 E9 _ _ _ (tb_out K.2.2.2.2.2.1 rfl) hx9.1 hx9.2.1 hx9.2.2.1 (hE.trans hx9.2.2.2))
  obtain ⟨r34, rfl, h, hGσ33, hYσ33, xσ33⟩ := hq
  have h := h xσ33
  intro H locs ls hH hl hc
  refine W.eq (g2 := F0 m 112 ls [.long r34]) (rfl) ?_
  try dsimp only at h
  exact hQ _ _ _ _ _ _ dX4_value_112 hH hc h hGσ33 hYσ33 (hE.trans xσ33)
set_option maxRecDepth 20000 in
theorem a_X4_value_102 {Q : Sg → Int64 → Prop} {X : Sg → String → Prop} {th : Nat} (K : MD l R p s m args c cX4_value 7 RX4 D cA tys A n0 s0 2 47 []) (hQ : CQJ p l e R s m args below meth c cX4_value D cA A n0 s0 QM σi Q) (hX : CX p l e R s m args below meth c 7 D cA A n0 s0 QM σi X) (hTh : CT p l e R s m args below meth c cX4_value 7 D cA A n0 s0 QM σi RX4 X) {K15 : Sg → Option Nat → Int → Int → Prop} (hK15 : ∀ (σ : Sg) (v2 : Option Nat) (v3 : Int) (v4 : Int) (g2 : tyV σ 0 v2) (g3 : rng v3) (g4 : rng v4), K15 σ v2 v3 v4 → RG σ → TY σ → Ext σi σ → kO σ th 4 → JJ p l e R s m args below meth c 7 D cA A n0 s0 QM σ 15 [(0, .ref th), (2, va_rf v2), (3, .int (i32 v3)), (4, .int (i32 v4))] []) : ∀ (σ : Sg) (v2 : Option Nat) (v3 : Int) (v4 : Int) (g2 : tyV σ 0 v2) (g3 : rng v3) (g4 : rng v4), w_X4_value_102 th K15 Q X σ v2 v3 v4 → RG σ → TY σ → Ext σi σ → kO σ th 4 → JJ p l e R s m args below meth c 7 D cA A n0 s0 QM σ 102 [(0, .ref th), (2, va_rf v2), (3, .int (i32 v3)), (4, .int (i32 v4))] [] := by
  intro σ v2 v3 v4 g2 g3 g4 h hGσ hYσ hE hth H locs ls hH hl hc
  have B := K.1
  have hl9 := K.2.2.2.2.2.2
  unfold w_X4_value_102 at h
  obtain ⟨q1, h⟩ := h
  refine lv_iinc (k := 3) (v := i32 (v4 + 1)) (lv' := [(4, .int (i32 (v4 + 1))), (0, .ref th), (2, va_rf v2), (3, .int (i32 v3))]) B.1 B.2.1 dX4_value_102 hl rfl (i32_add _ _) (by decide) rfl (fun ls hl => ?_)
  refine lv_goto (tgt := 15) B.1 B.2.1 dX4_value_105 (by decide) ?_
  exact hK15 _ _ _ _ g2 g3 q1 h hGσ hYσ hE hth _ _ _ hH (lv_sub (l' := [(0, .ref th), (2, va_rf v2), (3, .int (i32 v3)), (4, .int (i32 (v4 + 1)))]) hl [1, 2, 3, 0] rfl) hc
set_option maxRecDepth 20000 in
theorem a_X4_value_73 {Q : Sg → Int64 → Prop} {X : Sg → String → Prop} {th : Nat} (K : MD l R p s m args c cX4_value 7 RX4 D cA tys A n0 s0 2 47 []) (hQ : CQJ p l e R s m args below meth c cX4_value D cA A n0 s0 QM σi Q) (hX : CX p l e R s m args below meth c 7 D cA A n0 s0 QM σi X) (hTh : CT p l e R s m args below meth c cX4_value 7 D cA A n0 s0 QM σi RX4 X) {K15 : Sg → Option Nat → Int → Int → Prop} (hK15 : ∀ (σ : Sg) (v2 : Option Nat) (v3 : Int) (v4 : Int) (g2 : tyV σ 0 v2) (g3 : rng v3) (g4 : rng v4), K15 σ v2 v3 v4 → RG σ → TY σ → Ext σi σ → kO σ th 4 → JJ p l e R s m args below meth c 7 D cA A n0 s0 QM σ 15 [(0, .ref th), (2, va_rf v2), (3, .int (i32 v3)), (4, .int (i32 v4))] []) : ∀ (σ : Sg) (v2 : Option Nat) (v3 : Int) (v4 : Int) (g2 : tyV σ 0 v2) (g3 : rng v3) (g4 : rng v4), w_X4_value_73 th K15 Q X σ v2 v3 v4 → RG σ → TY σ → Ext σi σ → kO σ th 4 → JJ p l e R s m args below meth c 7 D cA A n0 s0 QM σ 73 [(0, .ref th), (2, va_rf v2), (3, .int (i32 v3)), (4, .int (i32 v4))] [] := by
  intro σ v2 v3 v4 g2 g3 g4 h hGσ hYσ hE hth H locs ls hH hl hc
  have B := K.1
  have hl9 := K.2.2.2.2.2.2
  unfold w_X4_value_73 at h
  refine lv_aload_n B.1 B.2.1 dX4_value_73 rfl (lv_at hl 0 rfl) ?_
  refine W.eq (g2 := F0 m 74 ls [.ref th]) (rfl) ?_
  refine c_V B hH hl hc K.2.2.1 (C := RX4) (T := TX4) (N := 14) (ci := 4) (As := []) (ok_X4_pop hl9 K.2.1 σ th hth hGσ hYσ h) wc_X4_102 0 hd_X4_pop ⟨Nat.le_trans (Nat.le_of_ble_eq_true rfl) K.2.2.2.1, Nat.le_trans (Nat.le_of_ble_eq_true rfl) K.2.2.2.2.1⟩ hth.1 hth.2 (by decide) rfl rfl (rest := []) rfl (Nat.le_of_ble_eq_true rfl) dX4_value_74 (fun σ35 w hq => ?_) (fun σ9 E9 hx9 => hX σ9 E9 _ _ _ (tb_out K.2.2.2.2.2.1 rfl) hx9.1 hx9.2.1 hx9.2.2.1 (hE.trans hx9.2.2.2))
  obtain ⟨r36, rfl, h, hGσ35, hYσ35, xσ35⟩ := hq
  have h := h xσ35
  intro H locs ls hH hl hc
  refine W.eq (g2 := F0 m 77 ls [.long r36]) (rfl) ?_
  try dsimp only at h
  refine lv_lstore (lv' := [(5, .long r36), (0, .ref th), (2, va_rf v2), (3, .int (i32 v3)), (4, .int (i32 v4))]) B.1 B.2.1 dX4_value_77 hl (by decide) rfl (fun ls hl => ?_)
  refine lv_aload_n B.1 B.2.1 dX4_value_79 rfl (lv_at hl 1 rfl) ?_
  refine lv_aload_n B.1 B.2.1 dX4_value_80 rfl (lv_at hl 1 rfl) ?_
  refine lv_aload_n B.1 B.2.1 dX4_value_81 rfl (lv_at hl 1 rfl) ?_
  refine f_getp B hH (hth.up xσ35) (by decide) rfl wu_X4 5 (by decide) wf_X4_24 rfl rfl dX4_value_82 ?_
  refine lv_iload_n B.1 B.2.1 dX4_value_85 rfl (lv_at hl 3 rfl) ?_
  obtain ⟨a37, ea37, h⟩ := h
  have ka37 : kO σ35 a37 100 := (hYσ35.get (hth.up xσ35) (by decide)) a37 ea37
  have h := h ka37
  obtain ⟨q1, h⟩ := h
  refine W.eq (g2 := F0 m 86 ls [.int (i32 v3), .ref a37, .ref th, .ref th]) (by rw [ea37]; rfl) ?_
  refine y_iald B K.2.1 hH ka37 q1 dX4_value_86 (hYσ35.2 _) ?_
  refine lv_aload_n B.1 B.2.1 dX4_value_87 rfl (lv_at hl 1 rfl) ?_
  refine W.eq (g2 := F0 m 88 ls [.ref th, .int (i32 (gI σ35 a37 v3.toNat)), .ref th, .ref th]) (rfl) ?_
  refine c_V B hH hl hc K.2.2.1 (C := RX4) (T := TX4) (N := 14) (ci := 4) (As := []) (ok_X4_pop hl9 K.2.1 σ35 th (hth.up xσ35) hGσ35 hYσ35 h) wc_X4_102 0 hd_X4_pop ⟨Nat.le_trans (Nat.le_of_ble_eq_true rfl) K.2.2.2.1, Nat.le_trans (Nat.le_of_ble_eq_true rfl) K.2.2.2.2.1⟩ (hth.up xσ35).1 (hth.up xσ35).2 (by decide) rfl rfl (rest := [.int (i32 (gI σ35 a37 v3.toNat)), .ref th, .ref th]) rfl (Nat.le_of_ble_eq_true rfl) dX4_value_88 (fun σ38 w hq => ?_) (fun σ9 E9 hx9 => hX σ9 E9 _ _ _ (tb_out K.2.2.2.2.2.1 rfl) hx9.1 hx9.2.1 hx9.2.2.1 ((hE.trans xσ35).trans hx9.2.2.2))
  obtain ⟨r39, rfl, h, hGσ38, hYσ38, xσ38⟩ := hq
  have h := h xσ38
  intro H locs ls hH hl hc
  refine W.eq (g2 := F0 m 91 ls [.long r39, .int (i32 (gI σ35 a37 v3.toNat)), .ref th, .ref th]) (rfl) ?_
  try dsimp only at h
  refine lv_lload B.1 B.2.1 dX4_value_91 (lv_at hl 0 rfl) ?_
  refine W.eq (g2 := F0 m 93 ls [.long r36, .long r39, .int (i32 (gI σ35 a37 v3.toNat)), .ref th, .ref th]) (rfl) ?_
  refine c_V B hH hl hc K.2.2.1 (C := RX4) (T := TX4) (N := 14) (ci := 4) (As := [.int (i32 (gI σ35 a37 v3.toNat)), .long r39, .long r36]) (ok_X4_calculate hl9 K.2.1 σ38 th (gI σ35 a37 v3.toNat) r39 r36 (hGσ35 _ _) (hth.up (xσ35.trans xσ38)) hGσ38 hYσ38 h) wc_X4_106 3 hd_X4_calculate ⟨Nat.le_trans (Nat.le_of_ble_eq_true rfl) K.2.2.2.1, Nat.le_trans (Nat.le_of_ble_eq_true rfl) K.2.2.2.2.1⟩ (hth.up (xσ35.trans xσ38)).1 (hth.up (xσ35.trans xσ38)).2 (by decide) rfl rfl (rest := [.ref th]) rfl (Nat.le_of_ble_eq_true rfl) dX4_value_93 (fun σ40 w hq => ?_) (fun σ9 E9 hx9 => hX σ9 E9 _ _ _ (tb_out K.2.2.2.2.2.1 rfl) hx9.1 hx9.2.1 hx9.2.2.1 (((hE.trans xσ35).trans xσ38).trans hx9.2.2.2))
  obtain ⟨r41, rfl, h, hGσ40, hYσ40, xσ40⟩ := hq
  have h := h xσ40
  intro H locs ls hH hl hc
  refine W.eq (g2 := F0 m 96 ls [.long r41, .ref th]) (rfl) ?_
  try dsimp only at h
  refine W.eq (g2 := F0 m 96 ls [.long r41, .ref th]) (rfl) ?_
  refine c_V B hH hl hc K.2.2.1 (C := RX4) (T := TX4) (N := 14) (ci := 4) (As := [.long r41]) (ok_X4_push hl9 K.2.1 σ40 th r41 (hth.up (xσ35.trans (xσ38.trans xσ40))) hGσ40 hYσ40 h) wc_X4_110 1 hd_X4_push ⟨Nat.le_trans (Nat.le_of_ble_eq_true rfl) K.2.2.2.1, Nat.le_trans (Nat.le_of_ble_eq_true rfl) K.2.2.2.2.1⟩ (hth.up (xσ35.trans (xσ38.trans xσ40))).1 (hth.up (xσ35.trans (xσ38.trans xσ40))).2 (by decide) rfl rfl (rest := []) rfl (Nat.le_of_ble_eq_true rfl) dX4_value_96 (fun σ42 w hq => ?_) (fun σ9 E9 hx9 => hX σ9 E9 _ _ _ (tb_out K.2.2.2.2.2.1 rfl) hx9.1 hx9.2.1 hx9.2.2.1 ((((hE.trans xσ35).trans xσ38).trans xσ40).trans hx9.2.2.2))
  obtain ⟨rfl, h, hGσ42, hYσ42, xσ42⟩ := hq
  have h := h xσ42
  intro H locs ls hH hl hc
  refine W.eq (g2 := F0 m 99 ls []) (rfl) ?_
  try dsimp only at h
  obtain ⟨q2, h⟩ := h
  refine lv_iinc (k := 3) (v := i32 (v3 + 1)) (lv' := [(3, .int (i32 (v3 + 1))), (5, .long r36), (0, .ref th), (2, va_rf v2), (4, .int (i32 v4))]) B.1 B.2.1 dX4_value_99 hl rfl (i32_add _ _) (by decide) (by generalize v2 = w9; cases w9 <;> rfl) (fun ls hl => ?_)
  exact a_X4_value_102 K hQ hX hTh hK15 _ _ _ _ (g2.up (xσ35.trans (xσ38.trans (xσ40.trans xσ42)))) q2 g4 h hGσ42 hYσ42 ((((hE.trans xσ35).trans xσ38).trans xσ40).trans xσ42) (hth.up (xσ35.trans (xσ38.trans (xσ40.trans xσ42)))) _ _ _ hH (lv_sub (l' := [(0, .ref th), (2, va_rf v2), (3, .int (i32 (v3 + 1))), (4, .int (i32 v4))]) hl [2, 3, 0, 4] rfl) hc
set_option maxRecDepth 20000 in
theorem a_X4_value_63 {Q : Sg → Int64 → Prop} {X : Sg → String → Prop} {th : Nat} (K : MD l R p s m args c cX4_value 7 RX4 D cA tys A n0 s0 2 47 []) (hQ : CQJ p l e R s m args below meth c cX4_value D cA A n0 s0 QM σi Q) (hX : CX p l e R s m args below meth c 7 D cA A n0 s0 QM σi X) (hTh : CT p l e R s m args below meth c cX4_value 7 D cA A n0 s0 QM σi RX4 X) {K15 : Sg → Option Nat → Int → Int → Prop} (hK15 : ∀ (σ : Sg) (v2 : Option Nat) (v3 : Int) (v4 : Int) (g2 : tyV σ 0 v2) (g3 : rng v3) (g4 : rng v4), K15 σ v2 v3 v4 → RG σ → TY σ → Ext σi σ → kO σ th 4 → JJ p l e R s m args below meth c 7 D cA A n0 s0 QM σ 15 [(0, .ref th), (2, va_rf v2), (3, .int (i32 v3)), (4, .int (i32 v4))] []) : ∀ (σ : Sg) (v2 : Option Nat) (v3 : Int) (v4 : Int) (g2 : tyV σ 0 v2) (g3 : rng v3) (g4 : rng v4), w_X4_value_63 th K15 Q X σ v2 v3 v4 → RG σ → TY σ → Ext σi σ → kO σ th 4 → JJ p l e R s m args below meth c 7 D cA A n0 s0 QM σ 63 [(0, .ref th), (2, va_rf v2), (3, .int (i32 v3)), (4, .int (i32 v4))] [] := by
  intro σ v2 v3 v4 g2 g3 g4 h hGσ hYσ hE hth H locs ls hH hl hc
  have B := K.1
  have hl9 := K.2.2.2.2.2.2
  unfold w_X4_value_63 at h
  refine lv_aload_n B.1 B.2.1 dX4_value_63 rfl (lv_at hl 0 rfl) ?_
  refine lv_iload_n B.1 B.2.1 dX4_value_64 rfl (lv_at hl 2 rfl) ?_
  refine lv_aload_nQ B.1 B.2.1 dX4_value_65 rfl (lv_at hl 1 rfl) ?_
  refine W.eq (g2 := F0 m 66 ls [va_rf v2, .int (i32 v3), .ref th]) (rfl) ?_
  refine c_V B hH hl hc K.2.2.1 (C := RX4) (T := TX4) (N := 14) (ci := 4) (As := [.int (i32 v3), va_rf v2]) (ok_X4_step hl9 K.2.1 σ th v3 v2 g3 g2 hth hGσ hYσ h) wc_X4_98 2 hd_X4_step ⟨Nat.le_trans (Nat.le_of_ble_eq_true rfl) K.2.2.2.1, Nat.le_trans (Nat.le_of_ble_eq_true rfl) K.2.2.2.2.1⟩ hth.1 hth.2 (by decide) rfl rfl (rest := []) rfl (Nat.le_of_ble_eq_true rfl) dX4_value_66 (fun σ43 w hq => ?_) (fun σ9 E9 hx9 => hX σ9 E9 _ _ _ (tb_out K.2.2.2.2.2.1 rfl) hx9.1 hx9.2.1 hx9.2.2.1 (hE.trans hx9.2.2.2))
  obtain ⟨r44, rfl, gr44, h, hGσ43, hYσ43, xσ43⟩ := hq
  have h := h xσ43
  intro H locs ls hH hl hc
  refine W.eq (g2 := F0 m 69 ls [.int (i32 r44)]) (rfl) ?_
  try dsimp only at h
  refine lv_istore_n (lv' := [(3, .int (i32 r44)), (0, .ref th), (2, va_rf v2), (4, .int (i32 v4))]) B.1 B.2.1 dX4_value_69 rfl hl (by decide) (by generalize v2 = w9; cases w9 <;> rfl) (fun ls hl => ?_)
  refine lv_goto (tgt := 102) B.1 B.2.1 dX4_value_70 (by decide) ?_
  exact a_X4_value_102 K hQ hX hTh hK15 _ _ _ _ (g2.up xσ43) gr44 g4 h hGσ43 hYσ43 (hE.trans xσ43) (hth.up xσ43) _ _ _ hH (lv_sub (l' := [(0, .ref th), (2, va_rf v2), (3, .int (i32 r44)), (4, .int (i32 v4))]) hl [1, 2, 0, 3] rfl) hc
set_option maxRecDepth 20000 in
theorem a_X4_value_52 {Q : Sg → Int64 → Prop} {X : Sg → String → Prop} {th : Nat} (K : MD l R p s m args c cX4_value 7 RX4 D cA tys A n0 s0 2 47 []) (hQ : CQJ p l e R s m args below meth c cX4_value D cA A n0 s0 QM σi Q) (hX : CX p l e R s m args below meth c 7 D cA A n0 s0 QM σi X) (hTh : CT p l e R s m args below meth c cX4_value 7 D cA A n0 s0 QM σi RX4 X) {K15 : Sg → Option Nat → Int → Int → Prop} (hK15 : ∀ (σ : Sg) (v2 : Option Nat) (v3 : Int) (v4 : Int) (g2 : tyV σ 0 v2) (g3 : rng v3) (g4 : rng v4), K15 σ v2 v3 v4 → RG σ → TY σ → Ext σi σ → kO σ th 4 → JJ p l e R s m args below meth c 7 D cA A n0 s0 QM σ 15 [(0, .ref th), (2, va_rf v2), (3, .int (i32 v3)), (4, .int (i32 v4))] []) : ∀ (σ : Sg) (v2 : Option Nat) (v3 : Int) (v4 : Int) (g2 : tyV σ 0 v2) (g3 : rng v3) (g4 : rng v4), w_X4_value_52 th K15 Q X σ v2 v3 v4 → RG σ → TY σ → Ext σi σ → kO σ th 4 → JJ p l e R s m args below meth c 7 D cA A n0 s0 QM σ 52 [(0, .ref th), (2, va_rf v2), (3, .int (i32 v3)), (4, .int (i32 v4))] [] := by
  intro σ v2 v3 v4 g2 g3 g4 h hGσ hYσ hE hth H locs ls hH hl hc
  have B := K.1
  have hl9 := K.2.2.2.2.2.2
  unfold w_X4_value_52 at h
  refine lv_aload_n B.1 B.2.1 dX4_value_52 rfl (lv_at hl 0 rfl) ?_
  refine f_getp B hH hth (by decide) rfl wu_X4 5 (by decide) wf_X4_24 rfl rfl dX4_value_53 ?_
  refine lv_iload_n B.1 B.2.1 dX4_value_56 rfl (lv_at hl 2 rfl) ?_
  obtain ⟨a45, ea45, h⟩ := h
  have ka45 : kO σ a45 100 := (hYσ.get hth (by decide)) a45 ea45
  have h := h ka45
  obtain ⟨q1, h⟩ := h
  refine W.eq (g2 := F0 m 57 ls [.int (i32 v3), .ref a45]) (by rw [ea45]; rfl) ?_
  refine y_iald B K.2.1 hH ka45 q1 dX4_value_57 (hYσ.2 _) ?_
  refine lv_bipush (v := i32 11) B.1 B.2.1 dX4_value_58 (by decide) ?_
  refine lv_icmp_ge (tgt := 73) B.1 B.2.1 dX4_value_60 (by decide) (fun h9 => ?_) (fun h9 => ?_)
  · rw [if_pos ((i32_le (by unfold rng; omega) (hGσ _ _)).mp h9)] at h
    exact a_X4_value_73 K hQ hX hTh hK15 _ _ _ _ g2 g3 g4 h hGσ hYσ hE hth _ _ _ hH (lv_sub (l' := [(0, .ref th), (2, va_rf v2), (3, .int (i32 v3)), (4, .int (i32 v4))]) hl [0, 1, 2, 3] rfl) hc
  · rw [if_neg (fun q => h9 ((i32_le (by unfold rng; omega) (hGσ _ _)).mpr q))] at h
    exact a_X4_value_63 K hQ hX hTh hK15 _ _ _ _ g2 g3 g4 h hGσ hYσ hE hth _ _ _ hH (lv_sub (l' := [(0, .ref th), (2, va_rf v2), (3, .int (i32 v3)), (4, .int (i32 v4))]) hl [0, 1, 2, 3] rfl) hc
set_option maxRecDepth 20000 in
theorem a_X4_value_45 {Q : Sg → Int64 → Prop} {X : Sg → String → Prop} {th : Nat} (K : MD l R p s m args c cX4_value 7 RX4 D cA tys A n0 s0 2 47 []) (hQ : CQJ p l e R s m args below meth c cX4_value D cA A n0 s0 QM σi Q) (hX : CX p l e R s m args below meth c 7 D cA A n0 s0 QM σi X) (hTh : CT p l e R s m args below meth c cX4_value 7 D cA A n0 s0 QM σi RX4 X) {K15 : Sg → Option Nat → Int → Int → Prop} (hK15 : ∀ (σ : Sg) (v2 : Option Nat) (v3 : Int) (v4 : Int) (g2 : tyV σ 0 v2) (g3 : rng v3) (g4 : rng v4), K15 σ v2 v3 v4 → RG σ → TY σ → Ext σi σ → kO σ th 4 → JJ p l e R s m args below meth c 7 D cA A n0 s0 QM σ 15 [(0, .ref th), (2, va_rf v2), (3, .int (i32 v3)), (4, .int (i32 v4))] []) : ∀ (σ : Sg) (v2 : Option Nat) (v3 : Int) (v4 : Int) (g2 : tyV σ 0 v2) (g3 : rng v3) (g4 : rng v4), w_X4_value_45 th K15 Q X σ v2 v3 v4 → RG σ → TY σ → Ext σi σ → kO σ th 4 → JJ p l e R s m args below meth c 7 D cA A n0 s0 QM σ 45 [(0, .ref th), (2, va_rf v2), (3, .int (i32 v3)), (4, .int (i32 v4))] [] := by
  intro σ v2 v3 v4 g2 g3 g4 h hGσ hYσ hE hth H locs ls hH hl hc
  have B := K.1
  have hl9 := K.2.2.2.2.2.2
  unfold w_X4_value_45 at h
  refine lv_aload_n B.1 B.2.1 dX4_value_45 rfl (lv_at hl 0 rfl) ?_
  refine f_geti B hH hth (by decide) rfl wu_X4 10 (by decide) wf_X4_91 rfl rfl dX4_value_46 ?_
  refine lv_if_ne (tgt := 108) B.1 B.2.1 dX4_value_49 (by decide) (fun h9 => ?_) (fun h9 => ?_)
  · rw [if_pos (fun q => h9 ((z_eq (hGσ _ _)).mpr q))] at h
    exact a_X4_value_108 K hQ hX hTh _ h hGσ hYσ hE hth _ _ _ hH (lv_sub (l' := [(0, .ref th)]) hl [0] rfl) hc
  · rw [if_neg (fun q => q ((z_eq (hGσ _ _)).mp h9))] at h
    exact a_X4_value_52 K hQ hX hTh hK15 _ _ _ _ g2 g3 g4 h hGσ hYσ hE hth _ _ _ hH (lv_sub (l' := [(0, .ref th), (2, va_rf v2), (3, .int (i32 v3)), (4, .int (i32 v4))]) hl [0, 1, 2, 3] rfl) hc
set_option maxRecDepth 20000 in
theorem a_X4_value_36 {Q : Sg → Int64 → Prop} {X : Sg → String → Prop} {th : Nat} (K : MD l R p s m args c cX4_value 7 RX4 D cA tys A n0 s0 2 47 []) (hQ : CQJ p l e R s m args below meth c cX4_value D cA A n0 s0 QM σi Q) (hX : CX p l e R s m args below meth c 7 D cA A n0 s0 QM σi X) (hTh : CT p l e R s m args below meth c cX4_value 7 D cA A n0 s0 QM σi RX4 X) {K15 : Sg → Option Nat → Int → Int → Prop} (hK15 : ∀ (σ : Sg) (v2 : Option Nat) (v3 : Int) (v4 : Int) (g2 : tyV σ 0 v2) (g3 : rng v3) (g4 : rng v4), K15 σ v2 v3 v4 → RG σ → TY σ → Ext σi σ → kO σ th 4 → JJ p l e R s m args below meth c 7 D cA A n0 s0 QM σ 15 [(0, .ref th), (2, va_rf v2), (3, .int (i32 v3)), (4, .int (i32 v4))] []) : ∀ (σ : Sg) (v2 : Option Nat) (v3 : Int) (v4 : Int) (g2 : tyV σ 0 v2) (g3 : rng v3) (g4 : rng v4), w_X4_value_36 th K15 Q X σ v2 v3 v4 → RG σ → TY σ → Ext σi σ → kO σ th 4 → JJ p l e R s m args below meth c 7 D cA A n0 s0 QM σ 36 [(0, .ref th), (2, va_rf v2), (3, .int (i32 v3)), (4, .int (i32 v4))] [] := by
  intro σ v2 v3 v4 g2 g3 g4 h hGσ hYσ hE hth H locs ls hH hl hc
  have B := K.1
  have hl9 := K.2.2.2.2.2.2
  unfold w_X4_value_36 at h
  refine lv_aload_n B.1 B.2.1 dX4_value_36 rfl (lv_at hl 0 rfl) ?_
  refine f_getp B hH hth (by decide) rfl wu_X4 5 (by decide) wf_X4_24 rfl rfl dX4_value_37 ?_
  refine lv_iload_n B.1 B.2.1 dX4_value_40 rfl (lv_at hl 2 rfl) ?_
  obtain ⟨a46, ea46, h⟩ := h
  have ka46 : kO σ a46 100 := (hYσ.get hth (by decide)) a46 ea46
  have h := h ka46
  obtain ⟨q1, h⟩ := h
  refine W.eq (g2 := F0 m 41 ls [.int (i32 v3), .ref a46]) (by rw [ea46]; rfl) ?_
  refine y_iald B K.2.1 hH ka46 q1 dX4_value_41 (hYσ.2 _) ?_
  refine lv_if_eq (tgt := 108) B.1 B.2.1 dX4_value_42 (by decide) (fun h9 => ?_) (fun h9 => ?_)
  · rw [if_pos ((z_eq (hGσ _ _)).mp h9)] at h
    exact a_X4_value_108 K hQ hX hTh _ h hGσ hYσ hE hth _ _ _ hH (lv_sub (l' := [(0, .ref th)]) hl [0] rfl) hc
  · rw [if_neg (fun q => h9 ((z_eq (hGσ _ _)).mpr q))] at h
    exact a_X4_value_45 K hQ hX hTh hK15 _ _ _ _ g2 g3 g4 h hGσ hYσ hE hth _ _ _ hH (lv_sub (l' := [(0, .ref th), (2, va_rf v2), (3, .int (i32 v3)), (4, .int (i32 v4))]) hl [0, 1, 2, 3] rfl) hc
set_option maxRecDepth 20000 in
theorem a_X4_value_28 {Q : Sg → Int64 → Prop} {X : Sg → String → Prop} {th : Nat} (K : MD l R p s m args c cX4_value 7 RX4 D cA tys A n0 s0 2 47 []) (hQ : CQJ p l e R s m args below meth c cX4_value D cA A n0 s0 QM σi Q) (hX : CX p l e R s m args below meth c 7 D cA A n0 s0 QM σi X) (hTh : CT p l e R s m args below meth c cX4_value 7 D cA A n0 s0 QM σi RX4 X) {K15 : Sg → Option Nat → Int → Int → Prop} (hK15 : ∀ (σ : Sg) (v2 : Option Nat) (v3 : Int) (v4 : Int) (g2 : tyV σ 0 v2) (g3 : rng v3) (g4 : rng v4), K15 σ v2 v3 v4 → RG σ → TY σ → Ext σi σ → kO σ th 4 → JJ p l e R s m args below meth c 7 D cA A n0 s0 QM σ 15 [(0, .ref th), (2, va_rf v2), (3, .int (i32 v3)), (4, .int (i32 v4))] []) : ∀ (σ : Sg) (v2 : Option Nat) (v3 : Int) (v4 : Int) (g2 : tyV σ 0 v2) (g3 : rng v3) (g4 : rng v4), w_X4_value_28 th K15 Q X σ v2 v3 v4 → RG σ → TY σ → Ext σi σ → kO σ th 4 → JJ p l e R s m args below meth c 7 D cA A n0 s0 QM σ 28 [(0, .ref th), (2, va_rf v2), (3, .int (i32 v3)), (4, .int (i32 v4))] [] := by
  intro σ v2 v3 v4 g2 g3 g4 h hGσ hYσ hE hth H locs ls hH hl hc
  have B := K.1
  have hl9 := K.2.2.2.2.2.2
  unfold w_X4_value_28 at h
  refine lv_iload_n B.1 B.2.1 dX4_value_28 rfl (lv_at hl 2 rfl) ?_
  refine lv_aload_n B.1 B.2.1 dX4_value_29 rfl (lv_at hl 0 rfl) ?_
  refine f_geti B hH hth (by decide) rfl wu_X4 7 (by decide) wf_X4_60 rfl rfl dX4_value_30 ?_
  refine lv_icmp_ge (tgt := 108) B.1 B.2.1 dX4_value_33 (by decide) (fun h9 => ?_) (fun h9 => ?_)
  · rw [if_pos ((i32_le (hGσ _ _) g3).mp h9)] at h
    exact a_X4_value_108 K hQ hX hTh _ h hGσ hYσ hE hth _ _ _ hH (lv_sub (l' := [(0, .ref th)]) hl [0] rfl) hc
  · rw [if_neg (fun q => h9 ((i32_le (hGσ _ _) g3).mpr q))] at h
    exact a_X4_value_36 K hQ hX hTh hK15 _ _ _ _ g2 g3 g4 h hGσ hYσ hE hth _ _ _ hH (lv_sub (l' := [(0, .ref th), (2, va_rf v2), (3, .int (i32 v3)), (4, .int (i32 v4))]) hl [0, 1, 2, 3] rfl) hc
set_option maxRecDepth 20000 in
theorem a_X4_value_24 {Q : Sg → Int64 → Prop} {X : Sg → String → Prop} {th : Nat} (K : MD l R p s m args c cX4_value 7 RX4 D cA tys A n0 s0 2 47 []) (hQ : CQJ p l e R s m args below meth c cX4_value D cA A n0 s0 QM σi Q) (hX : CX p l e R s m args below meth c 7 D cA A n0 s0 QM σi X) (hTh : CT p l e R s m args below meth c cX4_value 7 D cA A n0 s0 QM σi RX4 X) {K15 : Sg → Option Nat → Int → Int → Prop} (hK15 : ∀ (σ : Sg) (v2 : Option Nat) (v3 : Int) (v4 : Int) (g2 : tyV σ 0 v2) (g3 : rng v3) (g4 : rng v4), K15 σ v2 v3 v4 → RG σ → TY σ → Ext σi σ → kO σ th 4 → JJ p l e R s m args below meth c 7 D cA A n0 s0 QM σ 15 [(0, .ref th), (2, va_rf v2), (3, .int (i32 v3)), (4, .int (i32 v4))] []) : ∀ (σ : Sg) (v2 : Option Nat) (v3 : Int) (v4 : Int) (g2 : tyV σ 0 v2) (g3 : rng v3) (g4 : rng v4), w_X4_value_24 th K15 Q X σ v2 v3 v4 → RG σ → TY σ → Ext σi σ → kO σ th 4 → JJ p l e R s m args below meth c 7 D cA A n0 s0 QM σ 24 [(0, .ref th), (2, va_rf v2), (3, .int (i32 v3)), (4, .int (i32 v4))] [] := by
  intro σ v2 v3 v4 g2 g3 g4 h hGσ hYσ hE hth H locs ls hH hl hc
  have B := K.1
  have hl9 := K.2.2.2.2.2.2
  unfold w_X4_value_24 at h
  refine lv_iload_n B.1 B.2.1 dX4_value_24 rfl (lv_at hl 2 rfl) ?_
  refine lv_if_lt (tgt := 108) B.1 B.2.1 dX4_value_25 (by decide) (fun h9 => ?_) (fun h9 => ?_)
  · rw [if_pos ((z_lt g3).mp h9)] at h
    exact a_X4_value_108 K hQ hX hTh _ h hGσ hYσ hE hth _ _ _ hH (lv_sub (l' := [(0, .ref th)]) hl [0] rfl) hc
  · rw [if_neg (fun q => h9 ((z_lt g3).mpr q))] at h
    exact a_X4_value_28 K hQ hX hTh hK15 _ _ _ _ g2 g3 g4 h hGσ hYσ hE hth _ _ _ hH (lv_sub (l' := [(0, .ref th), (2, va_rf v2), (3, .int (i32 v3)), (4, .int (i32 v4))]) hl [0, 1, 2, 3] rfl) hc
set_option maxRecDepth 20000 in
theorem a_X4_value_15 {Q : Sg → Int64 → Prop} {X : Sg → String → Prop} {th : Nat} (K : MD l R p s m args c cX4_value 7 RX4 D cA tys A n0 s0 2 47 []) (hQ : CQJ p l e R s m args below meth c cX4_value D cA A n0 s0 QM σi Q) (hX : CX p l e R s m args below meth c 7 D cA A n0 s0 QM σi X) (hTh : CT p l e R s m args below meth c cX4_value 7 D cA A n0 s0 QM σi RX4 X) {K15 : Sg → Option Nat → Int → Int → Prop} (hK15 : ∀ (σ : Sg) (v2 : Option Nat) (v3 : Int) (v4 : Int) (g2 : tyV σ 0 v2) (g3 : rng v3) (g4 : rng v4), K15 σ v2 v3 v4 → RG σ → TY σ → Ext σi σ → kO σ th 4 → JJ p l e R s m args below meth c 7 D cA A n0 s0 QM σ 15 [(0, .ref th), (2, va_rf v2), (3, .int (i32 v3)), (4, .int (i32 v4))] []) : ∀ (σ : Sg) (v2 : Option Nat) (v3 : Int) (v4 : Int) (g2 : tyV σ 0 v2) (g3 : rng v3) (g4 : rng v4), w_X4_value_15 th K15 Q X σ v2 v3 v4 → RG σ → TY σ → Ext σi σ → kO σ th 4 → JJ p l e R s m args below meth c 7 D cA A n0 s0 QM σ 15 [(0, .ref th), (2, va_rf v2), (3, .int (i32 v3)), (4, .int (i32 v4))] [] := by
  intro σ v2 v3 v4 g2 g3 g4 h hGσ hYσ hE hth H locs ls hH hl hc
  have B := K.1
  have hl9 := K.2.2.2.2.2.2
  unfold w_X4_value_15 at h
  refine lv_iload B.1 B.2.1 dX4_value_15 (lv_at hl 3 rfl) ?_
  refine lv_aload_n B.1 B.2.1 dX4_value_17 rfl (lv_at hl 0 rfl) ?_
  refine f_geti B hH hth (by decide) rfl wu_X4 7 (by decide) wf_X4_60 rfl rfl dX4_value_18 ?_
  refine lv_icmp_ge (tgt := 108) B.1 B.2.1 dX4_value_21 (by decide) (fun h9 => ?_) (fun h9 => ?_)
  · rw [if_pos ((i32_le (hGσ _ _) g4).mp h9)] at h
    exact a_X4_value_108 K hQ hX hTh _ h hGσ hYσ hE hth _ _ _ hH (lv_sub (l' := [(0, .ref th)]) hl [0] rfl) hc
  · rw [if_neg (fun q => h9 ((i32_le (hGσ _ _) g4).mpr q))] at h
    exact a_X4_value_24 K hQ hX hTh hK15 _ _ _ _ g2 g3 g4 h hGσ hYσ hE hth _ _ _ hH (lv_sub (l' := [(0, .ref th), (2, va_rf v2), (3, .int (i32 v3)), (4, .int (i32 v4))]) hl [0, 1, 2, 3] rfl) hc
theorem al_X4_value_15 {Q : Sg → Int64 → Prop} {X : Sg → String → Prop} {th : Nat} (K : MD l R p s m args c cX4_value 7 RX4 D cA tys A n0 s0 2 47 []) (hQ : CQJ p l e R s m args below meth c cX4_value D cA A n0 s0 QM σi Q) (hX : CX p l e R s m args below meth c 7 D cA A n0 s0 QM σi X) (hTh : CT p l e R s m args below meth c cX4_value 7 D cA A n0 s0 QM σi RX4 X) : ∀ (n : Nat), ∀ (σ : Sg) (v2 : Option Nat) (v3 : Int) (v4 : Int) (g2 : tyV σ 0 v2) (g3 : rng v3) (g4 : rng v4), wl_X4_value_15 th Q X n σ v2 v3 v4 → RG σ → TY σ → Ext σi σ → kO σ th 4 → JJ p l e R s m args below meth c 7 D cA A n0 s0 QM σ 15 [(0, .ref th), (2, va_rf v2), (3, .int (i32 v3)), (4, .int (i32 v4))] [] := by
  intro n
  induction n with
  | zero => intro σ v2 v3 v4 g2 g3 g4 h; exact h.elim
  | succ n ih => exact fun σ v2 v3 v4 g2 g3 g4 h => a_X4_value_15 K hQ hX hTh ih σ v2 v3 v4 g2 g3 g4 h
set_option maxRecDepth 20000 in
theorem a_X4_value_0 {Q : Sg → Int64 → Prop} {X : Sg → String → Prop} {th : Nat} (K : MD l R p s m args c cX4_value 7 RX4 D cA tys A n0 s0 2 47 []) (hQ : CQJ p l e R s m args below meth c cX4_value D cA A n0 s0 QM σi Q) (hX : CX p l e R s m args below meth c 7 D cA A n0 s0 QM σi X) (hTh : CT p l e R s m args below meth c cX4_value 7 D cA A n0 s0 QM σi RX4 X) : ∀ (σ : Sg) (v1 : Int) (v2 : Option Nat) (g1 : rng v1) (g2 : tyV σ 0 v2), w_X4_value_0 th Q X σ v1 v2 → RG σ → TY σ → Ext σi σ → kO σ th 4 → JJ p l e R s m args below meth c 7 D cA A n0 s0 QM σ 0 [(0, .ref th), (1, .int (i32 v1)), (2, va_rf v2)] [] := by
  intro σ v1 v2 g1 g2 h hGσ hYσ hE hth H locs ls hH hl hc
  have B := K.1
  have hl9 := K.2.2.2.2.2.2
  unfold w_X4_value_0 at h
  refine lv_aload_n B.1 B.2.1 dX4_value_0 rfl (lv_at hl 0 rfl) ?_
  refine lv_iconst (v := i32 0) B.1 B.2.1 dX4_value_1 (by decide) ?_
  obtain ⟨σ47, eσ47⟩ : ∃ z, z = pI σ th 10 0 := ⟨_, rfl⟩
  have h := h σ47 eσ47
  refine f_puti B hH hth (by decide) rfl wu_X4 tyX4 tyX4_ok nmX4 10 (by decide) wf_X4_91 rfl (ty := .boolean) rfl rfl rfl rfl rfl dX4_value_2 (fun H locs hH => ?_)
  have hH : Hd D cA A s (pI σ th 10 0) H locs := hH
  rw [← eσ47] at hH
  have hGσ47 : RG σ47 := by rw [eσ47]; exact hGσ.pI (by unfold rng; omega)
  have hYσ47 : TY σ47 := by rw [eσ47]; exact hYσ.pI
  have xσ47 : Ext σ σ47 := by rw [eσ47]; exact Ext.pI
  have hc : CB n0 s0 σ47 := by rw [eσ47]; exact hc
  rw [show gc σ = gc σ47 by rw [eσ47]; try rfl, show gs σ = gs σ47 by rw [eσ47]; try rfl]
  refine lv_aload_n B.1 B.2.1 dX4_value_5 rfl (lv_at hl 0 rfl) ?_
  refine lv_iconst (v := i32 0) B.1 B.2.1 dX4_value_6 (by decide) ?_
  obtain ⟨σ48, eσ48⟩ : ∃ z, z = pI σ47 th 9 0 := ⟨_, rfl⟩
  have h := h σ48 eσ48
  refine f_puti B hH (hth.up xσ47) (by decide) rfl wu_X4 tyX4 tyX4_ok nmX4 9 (by decide) wf_X4_95 rfl (ty := .int) rfl rfl rfl rfl rfl dX4_value_7 (fun H locs hH => ?_)
  have hH : Hd D cA A s (pI σ47 th 9 0) H locs := hH
  rw [← eσ48] at hH
  have hGσ48 : RG σ48 := by rw [eσ48]; exact hGσ47.pI (by unfold rng; omega)
  have hYσ48 : TY σ48 := by rw [eσ48]; exact hYσ47.pI
  have xσ48 : Ext σ47 σ48 := by rw [eσ48]; exact Ext.pI
  have hc : CB n0 s0 σ48 := by rw [eσ48]; exact hc
  rw [show gc σ47 = gc σ48 by rw [eσ48]; try rfl, show gs σ47 = gs σ48 by rw [eσ48]; try rfl]
  refine lv_iload_n B.1 B.2.1 dX4_value_10 rfl (lv_at hl 1 rfl) ?_
  refine lv_istore_n (lv' := [(3, .int (i32 v1)), (0, .ref th), (1, .int (i32 v1)), (2, va_rf v2)]) B.1 B.2.1 dX4_value_11 rfl hl (by decide) (by generalize v2 = w9; cases w9 <;> rfl) (fun ls hl => ?_)
  refine lv_iconst (v := i32 0) B.1 B.2.1 dX4_value_12 (by decide) ?_
  refine lv_istore (lv' := [(4, .int (i32 0)), (3, .int (i32 v1)), (0, .ref th), (1, .int (i32 v1)), (2, va_rf v2)]) B.1 B.2.1 dX4_value_13 hl (by decide) rfl (fun ls hl => ?_)
  obtain ⟨n9, h⟩ := h
  exact al_X4_value_15 K hQ hX hTh n9 _ _ _ _ (g2.up (xσ47.trans xσ48)) g1 (by unfold rng; omega) h hGσ48 hYσ48 ((hE.trans xσ47).trans xσ48) (hth.up (xσ47.trans xσ48)) _ _ _ hH (lv_sub (l' := [(0, .ref th), (2, va_rf v2), (3, .int (i32 v1)), (4, .int (i32 0))]) hl [2, 4, 1, 0] rfl) hc
theorem ok_X4_value (hl0 : l.stackTraces = false) (hT : TyC cA tys) {Q : Sg → Int64 → Prop} {X : Sg → String → Prop} (σ : Sg) (th : Nat) (v1 : Int) (v2 : Option Nat) (g1 : rng v1) (g2 : tyV σ 0 v2) (hth : kO σ th 4) (hG : RG σ) (hY : TY σ) (h : wp_X4_value th v1 v2 σ Q X) : Ok l D cA tys A yX4_value (.code yX4_value cX4_value 7 (some .long)) 2 47 [.ref th, .int (i32 v1), va_rf v2] σ (QcJ σ Q) (QxC σ X) := by
  unfold wp_X4_value at h
  exact oc_J hl0 (by decide) (by cases v2 <;> exact Nat.le_of_ble_eq_true rfl) hT (fun p e R s m args below meth c K hQ hX hTh H locs ls hH hl hc => a_X4_value_0 K hQ hX hTh σ v1 v2 g1 g2 h hG hY (Ext.rfl' σ) hth H locs ls hH (lv_sub (l' := [(0, .ref th), (1, .int (i32 v1)), (2, va_rf v2)]) hl [0, 1, 2] (by cases v2 <;> rfl)) hc)
theorem dX11_filterRow_0 : decode cX11_filterRow 0 = .ok (.aload_n 0, 1) := by decide +kernel
theorem dX11_filterRow_1 : decode cX11_filterRow 1 = .ok (.getfield 136, 3) := by decide +kernel
theorem dX11_filterRow_4 : decode cX11_filterRow 4 = .ok (.aload_n 1, 1) := by decide +kernel
theorem dX11_filterRow_5 : decode cX11_filterRow 5 = .ok (.getfield 179, 3) := by decide +kernel
theorem dX11_filterRow_8 : decode cX11_filterRow 8 = .ok (.iconst 0, 1) := by decide +kernel
theorem dX11_filterRow_9 : decode cX11_filterRow 9 = .ok (.iaload, 1) := by decide +kernel
theorem dX11_filterRow_10 : decode cX11_filterRow 10 = .ok (.aload_n 3, 1) := by decide +kernel
theorem dX11_filterRow_11 : decode cX11_filterRow 11 = .ok (.invokevirtual 183, 3) := by decide +kernel
theorem dX11_filterRow_14 : decode cX11_filterRow 14 = .ok (.lstore 4, 2) := by decide +kernel
theorem dX11_filterRow_16 : decode cX11_filterRow 16 = .ok (.aload_n 0, 1) := by decide +kernel
theorem dX11_filterRow_17 : decode cX11_filterRow 17 = .ok (.getfield 136, 3) := by decide +kernel
theorem dX11_filterRow_20 : decode cX11_filterRow 20 = .ok (.getfield 187, 3) := by decide +kernel
theorem dX11_filterRow_23 : decode cX11_filterRow 23 = .ok (.ifCond .eq 12, 3) := by decide +kernel
theorem dX11_filterRow_26 : decode cX11_filterRow 26 = .ok (.aload_n 0, 1) := by decide +kernel
theorem dX11_filterRow_27 : decode cX11_filterRow 27 = .ok (.aload_n 2, 1) := by decide +kernel
theorem dX11_filterRow_28 : decode cX11_filterRow 28 = .ok (.aload_n 3, 1) := by decide +kernel
theorem dX11_filterRow_29 : decode cX11_filterRow 29 = .ok (.invokevirtual 53, 3) := by decide +kernel
theorem dX11_filterRow_32 : decode cX11_filterRow 32 = .ok (.goto 29, 3) := by decide +kernel
theorem dX11_filterRow_35 : decode cX11_filterRow 35 = .ok (.lload 4, 2) := by decide +kernel
theorem dX11_filterRow_37 : decode cX11_filterRow 37 = .ok (.lconst 0, 1) := by decide +kernel
theorem dX11_filterRow_38 : decode cX11_filterRow 38 = .ok (.lcmp, 1) := by decide +kernel
theorem dX11_filterRow_39 : decode cX11_filterRow 39 = .ok (.ifCond .eq 14, 3) := by decide +kernel
theorem dX11_filterRow_42 : decode cX11_filterRow 42 = .ok (.aload_n 0, 1) := by decide +kernel
theorem dX11_filterRow_43 : decode cX11_filterRow 43 = .ok (.getfield 12, 3) := by decide +kernel
theorem dX11_filterRow_46 : decode cX11_filterRow 46 = .ok (.aload_n 3, 1) := by decide +kernel
theorem dX11_filterRow_47 : decode cX11_filterRow 47 = .ok (.invokevirtual 42, 3) := by decide +kernel
theorem dX11_filterRow_50 : decode cX11_filterRow 50 = .ok (.goto 11, 3) := by decide +kernel
theorem dX11_filterRow_53 : decode cX11_filterRow 53 = .ok (.aload_n 0, 1) := by decide +kernel
theorem dX11_filterRow_54 : decode cX11_filterRow 54 = .ok (.getfield 22, 3) := by decide +kernel
theorem dX11_filterRow_57 : decode cX11_filterRow 57 = .ok (.aload_n 3, 1) := by decide +kernel
theorem dX11_filterRow_58 : decode cX11_filterRow 58 = .ok (.invokevirtual 174, 3) := by decide +kernel
theorem dX11_filterRow_61 : decode cX11_filterRow 61 = .ok (.return_, 1) := by decide +kernel
set_option maxRecDepth 20000 in
theorem a_X11_filterRow_61 {Q : Sg → Unit → Prop} {X : Sg → String → Prop} {th : Nat} (K : MD l R p s m args c cX11_filterRow 6 RX11 D cA tys A n0 s0 3 73 []) (hQ : CQV p l e R s m args below meth c cX11_filterRow D cA A n0 s0 QM σi Q) (hX : CX p l e R s m args below meth c 6 D cA A n0 s0 QM σi X) (hTh : CT p l e R s m args below meth c cX11_filterRow 6 D cA A n0 s0 QM σi RX11 X) : ∀ (σ : Sg), w_X11_filterRow_61 th Q X σ → RG σ → TY σ → Ext σi σ → kO σ th 11 → JJ p l e R s m args below meth c 6 D cA A n0 s0 QM σ 61 [(0, .ref th)] [] := by
  intro σ h hGσ hYσ hE hth H locs ls hH hl hc
  have B := K.1
  have hl9 := K.2.2.2.2.2.2
  unfold w_X11_filterRow_61 at h
  exact hQ _ _ _ _ _ dX11_filterRow_61 hH hc h hGσ hYσ hE
set_option maxRecDepth 20000 in
theorem a_X11_filterRow_53 {Q : Sg → Unit → Prop} {X : Sg → String → Prop} {th : Nat} (K : MD l R p s m args c cX11_filterRow 6 RX11 D cA tys A n0 s0 3 73 []) (hQ : CQV p l e R s m args below meth c cX11_filterRow D cA A n0 s0 QM σi Q) (hX : CX p l e R s m args below meth c 6 D cA A n0 s0 QM σi X) (hTh : CT p l e R s m args below meth c cX11_filterRow 6 D cA A n0 s0 QM σi RX11 X) : ∀ (σ : Sg) (v3 : Option Nat) (g3 : tyV σ 0 v3), w_X11_filterRow_53 th Q X σ v3 → RG σ → TY σ → Ext σi σ → kO σ th 11 → JJ p l e R s m args below meth c 6 D cA A n0 s0 QM σ 53 [(0, .ref th), (3, va_rf v3)] [] := by
  intro σ v3 g3 h hGσ hYσ hE hth H locs ls hH hl hc
  have B := K.1
  have hl9 := K.2.2.2.2.2.2
  unfold w_X11_filterRow_53 at h
  refine lv_aload_n B.1 B.2.1 dX11_filterRow_53 rfl (lv_at hl 0 rfl) ?_
  refine f_getp B hH hth (by decide) rfl wu_X11 0 (by decide) wf_X11_22 rfl rfl dX11_filterRow_54 ?_
  refine lv_aload_nQ B.1 B.2.1 dX11_filterRow_57 rfl (lv_at hl 1 rfl) ?_
  obtain ⟨a24, ea24, h⟩ := h
  have ka24 : kO σ a24 8 := (hYσ.get hth (by decide)) a24 ea24
  have h := h ka24
  refine W.eq (g2 := F0 m 58 ls [va_rf v3, .ref a24]) (by rw [ea24]; rfl) ?_
  refine c_V B hH hl hc K.2.2.1 (C := RX8) (T := TX8) (N := 3) (ci := 8) (As := [va_rf v3]) (ok_X8_release hl9 K.2.1 σ a24 v3 g3 ka24 hGσ hYσ h) wc_X11_174 1 hd_X8_release ⟨Nat.le_trans (Nat.le_of_ble_eq_true rfl) K.2.2.2.1, Nat.le_trans (Nat.le_of_ble_eq_true rfl) K.2.2.2.2.1⟩ ka24.1 ka24.2 (by decide) rfl rfl (rest := []) rfl (Nat.le_of_ble_eq_true rfl) dX11_filterRow_58 (fun σ23 w hq => ?_) (fun σ9 E9 hx9 => hX σ9 E9 _ _ _ (tb_out K.2.2.2.2.2.1 rfl) hx9.1 hx9.2.1 hx9.2.2.1 (hE.trans hx9.2.2.2))
  obtain ⟨rfl, h, hGσ23, hYσ23, xσ23⟩ := hq
  have h := h xσ23
  intro H locs ls hH hl hc
  refine W.eq (g2 := F0 m 61 ls []) (rfl) ?_
  try dsimp only at h
  exact a_X11_filterRow_61 K hQ hX hTh _ h hGσ23 hYσ23 (hE.trans xσ23) (hth.up xσ23) _ _ _ hH (lv_sub (l' := [(0, .ref th)]) hl [0] rfl) hc
set_option maxRecDepth 20000 in
theorem a_X11_filterRow_42 {Q : Sg → Unit → Prop} {X : Sg → String → Prop} {th : Nat} (K : MD l R p s m args c cX11_filterRow 6 RX11 D cA tys A n0 s0 3 73 []) (hQ : CQV p l e R s m args below meth c cX11_filterRow D cA A n0 s0 QM σi Q) (hX : CX p l e R s m args below meth c 6 D cA A n0 s0 QM σi X) (hTh : CT p l e R s m args below meth c cX11_filterRow 6 D cA A n0 s0 QM σi RX11 X) : ∀ (σ : Sg) (v3 : Option Nat) (g3 : tyV σ 0 v3), w_X11_filterRow_42 th Q X σ v3 → RG σ → TY σ → Ext σi σ → kO σ th 11 → JJ p l e R s m args below meth c 6 D cA A n0 s0 QM σ 42 [(0, .ref th), (3, va_rf v3)] [] := by
  intro σ v3 g3 h hGσ hYσ hE hth H locs ls hH hl hc
  have B := K.1
  have hl9 := K.2.2.2.2.2.2
  unfold w_X11_filterRow_42 at h
  refine lv_aload_n B.1 B.2.1 dX11_filterRow_42 rfl (lv_at hl 0 rfl) ?_
  refine f_getp B hH hth (by decide) rfl wu_X11 2 (by decide) wf_X11_12 rfl rfl dX11_filterRow_43 ?_
  refine lv_aload_nQ B.1 B.2.1 dX11_filterRow_46 rfl (lv_at hl 1 rfl) ?_
  obtain ⟨a26, ea26, h⟩ := h
  have ka26 : kO σ a26 1 := (hYσ.get hth (by decide)) a26 ea26
  have h := h ka26
  refine W.eq (g2 := F0 m 47 ls [va_rf v3, .ref a26]) (by rw [ea26]; rfl) ?_
  refine c_V B hH hl hc K.2.2.1 (C := RX1) (T := TX1) (N := 3) (ci := 1) (As := [va_rf v3]) (ok_X1_add hl9 K.2.1 σ a26 v3 g3 ka26 hGσ hYσ h) wc_X11_42 1 hd_X1_add ⟨Nat.le_trans (Nat.le_of_ble_eq_true rfl) K.2.2.2.1, Nat.le_trans (Nat.le_of_ble_eq_true rfl) K.2.2.2.2.1⟩ ka26.1 ka26.2 (by decide) rfl rfl (rest := []) rfl (Nat.le_of_ble_eq_true rfl) dX11_filterRow_47 (fun σ25 w hq => ?_) (fun σ9 E9 hx9 => hX σ9 E9 _ _ _ (tb_out K.2.2.2.2.2.1 rfl) hx9.1 hx9.2.1 hx9.2.2.1 (hE.trans hx9.2.2.2))
  obtain ⟨rfl, h, hGσ25, hYσ25, xσ25⟩ := hq
  have h := h xσ25
  intro H locs ls hH hl hc
  refine W.eq (g2 := F0 m 50 ls []) (rfl) ?_
  try dsimp only at h
  refine lv_goto (tgt := 61) B.1 B.2.1 dX11_filterRow_50 (by decide) ?_
  exact a_X11_filterRow_61 K hQ hX hTh _ h hGσ25 hYσ25 (hE.trans xσ25) (hth.up xσ25) _ _ _ hH (lv_sub (l' := [(0, .ref th)]) hl [0] rfl) hc
set_option maxRecDepth 20000 in
theorem a_X11_filterRow_35 {Q : Sg → Unit → Prop} {X : Sg → String → Prop} {th : Nat} (K : MD l R p s m args c cX11_filterRow 6 RX11 D cA tys A n0 s0 3 73 []) (hQ : CQV p l e R s m args below meth c cX11_filterRow D cA A n0 s0 QM σi Q) (hX : CX p l e R s m args below meth c 6 D cA A n0 s0 QM σi X) (hTh : CT p l e R s m args below meth c cX11_filterRow 6 D cA A n0 s0 QM σi RX11 X) : ∀ (σ : Sg) (v3 : Option Nat) (v4 : Int64) (g3 : tyV σ 0 v3), w_X11_filterRow_35 th Q X σ v3 v4 → RG σ → TY σ → Ext σi σ → kO σ th 11 → JJ p l e R s m args below meth c 6 D cA A n0 s0 QM σ 35 [(0, .ref th), (3, va_rf v3), (4, .long v4)] [] := by
  intro σ v3 v4 g3 h hGσ hYσ hE hth H locs ls hH hl hc
  have B := K.1
  have hl9 := K.2.2.2.2.2.2
  unfold w_X11_filterRow_35 at h
  refine lv_lload B.1 B.2.1 dX11_filterRow_35 (lv_at hl 2 rfl) ?_
  refine lv_lconst (v := 0) B.1 B.2.1 dX11_filterRow_37 (by decide) ?_
  refine W.lcmp B.1 B.2.1 dX11_filterRow_38 ?_
  refine lv_if_eq (tgt := 53) B.1 B.2.1 dX11_filterRow_39 (by decide) (fun h9 => ?_) (fun h9 => ?_)
  · rw [if_pos ((lg_cmp_eq _ _).mp h9)] at h
    exact a_X11_filterRow_53 K hQ hX hTh _ _ g3 h hGσ hYσ hE hth _ _ _ hH (lv_sub (l' := [(0, .ref th), (3, va_rf v3)]) hl [0, 1] rfl) hc
  · rw [if_neg (fun q => h9 ((lg_cmp_eq _ _).mpr q))] at h
    exact a_X11_filterRow_42 K hQ hX hTh _ _ g3 h hGσ hYσ hE hth _ _ _ hH (lv_sub (l' := [(0, .ref th), (3, va_rf v3)]) hl [0, 1] rfl) hc
set_option maxRecDepth 20000 in
theorem a_X11_filterRow_26 {Q : Sg → Unit → Prop} {X : Sg → String → Prop} {th : Nat} (K : MD l R p s m args c cX11_filterRow 6 RX11 D cA tys A n0 s0 3 73 []) (hQ : CQV p l e R s m args below meth c cX11_filterRow D cA A n0 s0 QM σi Q) (hX : CX p l e R s m args below meth c 6 D cA A n0 s0 QM σi X) (hTh : CT p l e R s m args below meth c cX11_filterRow 6 D cA A n0 s0 QM σi RX11 X) : ∀ (σ : Sg) (v2 : Option Nat) (v3 : Option Nat) (g2 : tyV σ 10 v2) (g3 : tyV σ 0 v3), w_X11_filterRow_26 th Q X σ v2 v3 → RG σ → TY σ → Ext σi σ → kO σ th 11 → JJ p l e R s m args below meth c 6 D cA A n0 s0 QM σ 26 [(0, .ref th), (2, va_rf v2), (3, va_rf v3)] [] := by
  intro σ v2 v3 g2 g3 h hGσ hYσ hE hth H locs ls hH hl hc
  have B := K.1
  have hl9 := K.2.2.2.2.2.2
  unfold w_X11_filterRow_26 at h
  refine lv_aload_n B.1 B.2.1 dX11_filterRow_26 rfl (lv_at hl 0 rfl) ?_
  refine lv_aload_nQ B.1 B.2.1 dX11_filterRow_27 rfl (lv_at hl 1 rfl) ?_
  refine lv_aload_nQ B.1 B.2.1 dX11_filterRow_28 rfl (lv_at hl 2 rfl) ?_
  refine W.eq (g2 := F0 m 29 ls [va_rf v3, va_rf v2, .ref th]) (rfl) ?_
  refine c_V B hH hl hc K.2.2.1 (C := RX11) (T := TX11) (N := 6) (ci := 11) (As := [va_rf v2, va_rf v3]) (ok_X11_putAside hl9 K.2.1 σ th v2 v3 g2 g3 hth hGσ hYσ h) wc_X11_53 2 hd_X11_putAside ⟨Nat.le_trans (Nat.le_of_ble_eq_true rfl) K.2.2.2.1, Nat.le_trans (Nat.le_of_ble_eq_true rfl) K.2.2.2.2.1⟩ hth.1 hth.2 (by decide) rfl rfl (rest := []) rfl (Nat.le_of_ble_eq_true rfl) dX11_filterRow_29 (fun σ27 w hq => ?_) (fun σ9 E9 hx9 => hX σ9 E9 _ _ _ (tb_out K.2.2.2.2.2.1 rfl) hx9.1 hx9.2.1 hx9.2.2.1 (hE.trans hx9.2.2.2))
  obtain ⟨rfl, h, hGσ27, hYσ27, xσ27⟩ := hq
  have h := h xσ27
  intro H locs ls hH hl hc
  refine W.eq (g2 := F0 m 32 ls []) (rfl) ?_
  try dsimp only at h
  refine lv_goto (tgt := 61) B.1 B.2.1 dX11_filterRow_32 (by decide) ?_
  exact a_X11_filterRow_61 K hQ hX hTh _ h hGσ27 hYσ27 (hE.trans xσ27) (hth.up xσ27) _ _ _ hH (lv_sub (l' := [(0, .ref th)]) hl [0] rfl) hc
set_option maxRecDepth 20000 in
theorem a_X11_filterRow_0 {Q : Sg → Unit → Prop} {X : Sg → String → Prop} {th : Nat} (K : MD l R p s m args c cX11_filterRow 6 RX11 D cA tys A n0 s0 3 73 []) (hQ : CQV p l e R s m args below meth c cX11_filterRow D cA A n0 s0 QM σi Q) (hX : CX p l e R s m args below meth c 6 D cA A n0 s0 QM σi X) (hTh : CT p l e R s m args below meth c cX11_filterRow 6 D cA A n0 s0 QM σi RX11 X) : ∀ (σ : Sg) (v1 : Option Nat) (v2 : Option Nat) (v3 : Option Nat) (g1 : tyV σ 5 v1) (g2 : tyV σ 10 v2) (g3 : tyV σ 0 v3), w_X11_filterRow_0 th Q X σ v1 v2 v3 → RG σ → TY σ → Ext σi σ → kO σ th 11 → JJ p l e R s m args below meth c 6 D cA A n0 s0 QM σ 0 [(0, .ref th), (1, va_rf v1), (2, va_rf v2), (3, va_rf v3)] [] := by
  intro σ v1 v2 v3 g1 g2 g3 h hGσ hYσ hE hth H locs ls hH hl hc
  have B := K.1
  have hl9 := K.2.2.2.2.2.2
  unfold w_X11_filterRow_0 at h
  refine lv_aload_n B.1 B.2.1 dX11_filterRow_0 rfl (lv_at hl 0 rfl) ?_
  refine f_getp B hH hth (by decide) rfl wu_X11 5 (by decide) wf_X11_136 rfl rfl dX11_filterRow_1 ?_
  refine lv_aload_nQ B.1 B.2.1 dX11_filterRow_4 rfl (lv_at hl 1 rfl) ?_
  obtain ⟨a28, ea28, h⟩ := h
  have ka28 : kO σ a28 5 := g1 a28 ea28
  have h := h ka28
  refine W.eq (g2 := F0 m 5 ls [.ref a28, va_rf (gP σ th 5)]) (by rw [ea28]; rfl) ?_
  refine f_getp B hH ka28 (by decide) rfl wu_X5 1 (by decide) wf_X11_179 rfl rfl dX11_filterRow_5 ?_
  refine lv_iconst (v := i32 0) B.1 B.2.1 dX11_filterRow_8 (by decide) ?_
  obtain ⟨a29, ea29, h⟩ := h
  have ka29 : kO σ a29 100 := (hYσ.get ka28 (by decide)) a29 ea29
  have h := h ka29
  obtain ⟨q1, h⟩ := h
  refine W.eq (g2 := F0 m 9 ls [.int (i32 0), .ref a29, va_rf (gP σ th 5)]) (by rw [ea29]; rfl) ?_
  refine y_iald B K.2.1 hH ka29 q1 dX11_filterRow_9 (hYσ.2 _) ?_
  refine W.eq (g2 := F0 m 10 ls [.int (i32 (gI σ a29 0)), va_rf (gP σ th 5)]) (rfl) ?_
  refine lv_aload_nQ B.1 B.2.1 dX11_filterRow_10 rfl (lv_at hl 3 rfl) ?_
  obtain ⟨a32, ea32, h⟩ := h
  have ka32 : kO σ a32 4 := (hYσ.get hth (by decide)) a32 ea32
  have h := h ka32
  refine W.eq (g2 := F0 m 11 ls [va_rf v3, .int (i32 (gI σ a29 0)), .ref a32]) (by rw [ea32]; rfl) ?_
  refine c_V B hH hl hc K.2.2.1 (C := RX4) (T := TX4) (N := 14) (ci := 4) (As := [.int (i32 (gI σ a29 0)), va_rf v3]) (ok_X4_value hl9 K.2.1 σ a32 (gI σ a29 0) v3 (hGσ _ _) g3 ka32 hGσ hYσ h) wc_X11_183 2 hd_X4_value ⟨Nat.le_trans (Nat.le_of_ble_eq_true rfl) K.2.2.2.1, Nat.le_trans (Nat.le_of_ble_eq_true rfl) K.2.2.2.2.1⟩ ka32.1 ka32.2 (by decide) rfl rfl (rest := []) rfl (Nat.le_of_ble_eq_true rfl) dX11_filterRow_11 (fun σ30 w hq => ?_) (fun σ9 E9 hx9 => hX σ9 E9 _ _ _ (tb_out K.2.2.2.2.2.1 rfl) hx9.1 hx9.2.1 hx9.2.2.1 (hE.trans hx9.2.2.2))
  obtain ⟨r31, rfl, h, hGσ30, hYσ30, xσ30⟩ := hq
  have h := h xσ30
  intro H locs ls hH hl hc
  refine W.eq (g2 := F0 m 14 ls [.long r31]) (rfl) ?_
  try dsimp only at h
  refine lv_lstore (lv' := [(4, .long r31), (0, .ref th), (1, va_rf v1), (2, va_rf v2), (3, va_rf v3)]) B.1 B.2.1 dX11_filterRow_14 hl (by decide) (by generalize v3 = w9; cases w9 <;> rfl) (fun ls hl => ?_)
  refine lv_aload_n B.1 B.2.1 dX11_filterRow_16 rfl (lv_at hl 1 rfl) ?_
  refine f_getp B hH (hth.up xσ30) (by decide) rfl wu_X11 5 (by decide) wf_X11_136 rfl rfl dX11_filterRow_17 ?_
  obtain ⟨a33, ea33, h⟩ := h
  have ka33 : kO σ30 a33 4 := (hYσ30.get (hth.up xσ30) (by decide)) a33 ea33
  have h := h ka33
  refine W.eq (g2 := F0 m 20 ls [.ref a33]) (by rw [ea33]; rfl) ?_
  refine f_geti B hH ka33 (by decide) rfl wu_X4 10 (by decide) wf_X11_187 rfl rfl dX11_filterRow_20 ?_
  refine lv_if_eq (tgt := 35) B.1 B.2.1 dX11_filterRow_23 (by decide) (fun h9 => ?_) (fun h9 => ?_)
  · rw [if_pos ((z_eq (hGσ30 _ _)).mp h9)] at h
    exact a_X11_filterRow_35 K hQ hX hTh _ _ _ (g3.up xσ30) h hGσ30 hYσ30 (hE.trans xσ30) (hth.up xσ30) _ _ _ hH (lv_sub (l' := [(0, .ref th), (3, va_rf v3), (4, .long r31)]) hl [1, 4, 0] rfl) hc
  · rw [if_neg (fun q => h9 ((z_eq (hGσ30 _ _)).mpr q))] at h
    exact a_X11_filterRow_26 K hQ hX hTh _ _ _ (g2.up xσ30) (g3.up xσ30) h hGσ30 hYσ30 (hE.trans xσ30) (hth.up xσ30) _ _ _ hH (lv_sub (l' := [(0, .ref th), (2, va_rf v2), (3, va_rf v3)]) hl [1, 3, 4] rfl) hc
theorem ok_X11_filterRow (hl0 : l.stackTraces = false) (hT : TyC cA tys) {Q : Sg → Unit → Prop} {X : Sg → String → Prop} (σ : Sg) (th : Nat) (v1 : Option Nat) (v2 : Option Nat) (v3 : Option Nat) (g1 : tyV σ 5 v1) (g2 : tyV σ 10 v2) (g3 : tyV σ 0 v3) (hth : kO σ th 11) (hG : RG σ) (hY : TY σ) (h : wp_X11_filterRow th v1 v2 v3 σ Q X) : Ok l D cA tys A yX11_filterRow (.code yX11_filterRow cX11_filterRow 6 none) 3 73 [.ref th, va_rf v1, va_rf v2, va_rf v3] σ (QcV σ Q) (QxC σ X) := by
  unfold wp_X11_filterRow at h
  exact oc_V hl0 (by decide) (by cases v1 <;> cases v2 <;> cases v3 <;> exact Nat.le_of_ble_eq_true rfl) hT (fun p e R s m args below meth c K hQ hX hTh hin9 H locs ls hH hl hc => a_X11_filterRow_0 K hQ hX hTh σ v1 v2 v3 g1 g2 g3 h hG hY (Ext.rfl' σ) hth H locs ls hH (lv_sub (l' := [(0, .ref th), (1, va_rf v1), (2, va_rf v2), (3, va_rf v3)]) hl [0, 1, 2, 3] (by cases v1 <;> cases v2 <;> cases v3 <;> rfl)) hc)
theorem dX11_addUp_0 : decode cX11_addUp 0 = .ok (.iconst 0, 1) := by decide +kernel
theorem dX11_addUp_1 : decode cX11_addUp 1 = .ok (.istore_n 3, 1) := by decide +kernel
theorem dX11_addUp_2 : decode cX11_addUp 2 = .ok (.iload_n 3, 1) := by decide +kernel
theorem dX11_addUp_3 : decode cX11_addUp 3 = .ok (.aload_n 0, 1) := by decide +kernel
theorem dX11_addUp_4 : decode cX11_addUp 4 = .ok (.getfield 198, 3) := by decide +kernel
theorem dX11_addUp_7 : decode cX11_addUp 7 = .ok (.if_icmp .ge 73, 3) := by decide +kernel
theorem dX11_addUp_10 : decode cX11_addUp 10 = .ok (.iload_n 3, 1) := by decide +kernel
theorem dX11_addUp_11 : decode cX11_addUp 11 = .ok (.iconst 4, 1) := by decide +kernel
theorem dX11_addUp_12 : decode cX11_addUp 12 = .ok (.if_icmp .ge 68, 3) := by decide +kernel
theorem dX11_addUp_15 : decode cX11_addUp 15 = .ok (.aload_n 0, 1) := by decide +kernel
theorem dX11_addUp_16 : decode cX11_addUp 16 = .ok (.getfield 216, 3) := by decide +kernel
theorem dX11_addUp_19 : decode cX11_addUp 19 = .ok (.iload_n 3, 1) := by decide +kernel
theorem dX11_addUp_20 : decode cX11_addUp 20 = .ok (.iaload, 1) := by decide +kernel
theorem dX11_addUp_21 : decode cX11_addUp 21 = .ok (.iconst 2, 1) := by decide +kernel
theorem dX11_addUp_22 : decode cX11_addUp 22 = .ok (.if_icmp .ne 18, 3) := by decide +kernel
theorem dX11_addUp_25 : decode cX11_addUp 25 = .ok (.aload_n 1, 1) := by decide +kernel
theorem dX11_addUp_26 : decode cX11_addUp 26 = .ok (.iload_n 3, 1) := by decide +kernel
theorem dX11_addUp_27 : decode cX11_addUp 27 = .ok (.aload_n 1, 1) := by decide +kernel
theorem dX11_addUp_28 : decode cX11_addUp 28 = .ok (.iload_n 3, 1) := by decide +kernel
theorem dX11_addUp_29 : decode cX11_addUp 29 = .ok (.laload, 1) := by decide +kernel
theorem dX11_addUp_30 : decode cX11_addUp 30 = .ok (.aload_n 2, 1) := by decide +kernel
theorem dX11_addUp_31 : decode cX11_addUp 31 = .ok (.iload_n 3, 1) := by decide +kernel
theorem dX11_addUp_32 : decode cX11_addUp 32 = .ok (.laload, 1) := by decide +kernel
theorem dX11_addUp_33 : decode cX11_addUp 33 = .ok (.invokestatic 242, 3) := by decide +kernel
theorem dX11_addUp_36 : decode cX11_addUp 36 = .ok (.lastore, 1) := by decide +kernel
theorem dX11_addUp_37 : decode cX11_addUp 37 = .ok (.goto 37, 3) := by decide +kernel
theorem dX11_addUp_40 : decode cX11_addUp 40 = .ok (.aload_n 0, 1) := by decide +kernel
theorem dX11_addUp_41 : decode cX11_addUp 41 = .ok (.getfield 216, 3) := by decide +kernel
theorem dX11_addUp_44 : decode cX11_addUp 44 = .ok (.iload_n 3, 1) := by decide +kernel
theorem dX11_addUp_45 : decode cX11_addUp 45 = .ok (.iaload, 1) := by decide +kernel
theorem dX11_addUp_46 : decode cX11_addUp 46 = .ok (.iconst 3, 1) := by decide +kernel
theorem dX11_addUp_47 : decode cX11_addUp 47 = .ok (.if_icmp .ne 18, 3) := by decide +kernel
theorem dX11_addUp_50 : decode cX11_addUp 50 = .ok (.aload_n 1, 1) := by decide +kernel
theorem dX11_addUp_51 : decode cX11_addUp 51 = .ok (.iload_n 3, 1) := by decide +kernel
theorem dX11_addUp_52 : decode cX11_addUp 52 = .ok (.aload_n 1, 1) := by decide +kernel
theorem dX11_addUp_53 : decode cX11_addUp 53 = .ok (.iload_n 3, 1) := by decide +kernel
theorem dX11_addUp_54 : decode cX11_addUp 54 = .ok (.laload, 1) := by decide +kernel
theorem dX11_addUp_55 : decode cX11_addUp 55 = .ok (.aload_n 2, 1) := by decide +kernel
theorem dX11_addUp_56 : decode cX11_addUp 56 = .ok (.iload_n 3, 1) := by decide +kernel
theorem dX11_addUp_57 : decode cX11_addUp 57 = .ok (.laload, 1) := by decide +kernel
theorem dX11_addUp_58 : decode cX11_addUp 58 = .ok (.invokestatic 245, 3) := by decide +kernel
theorem dX11_addUp_61 : decode cX11_addUp 61 = .ok (.lastore, 1) := by decide +kernel
theorem dX11_addUp_62 : decode cX11_addUp 62 = .ok (.goto 12, 3) := by decide +kernel
theorem dX11_addUp_65 : decode cX11_addUp 65 = .ok (.aload_n 1, 1) := by decide +kernel
theorem dX11_addUp_66 : decode cX11_addUp 66 = .ok (.iload_n 3, 1) := by decide +kernel
theorem dX11_addUp_67 : decode cX11_addUp 67 = .ok (.dup2, 1) := by decide +kernel
theorem dX11_addUp_68 : decode cX11_addUp 68 = .ok (.laload, 1) := by decide +kernel
theorem dX11_addUp_69 : decode cX11_addUp 69 = .ok (.aload_n 2, 1) := by decide +kernel
theorem dX11_addUp_70 : decode cX11_addUp 70 = .ok (.iload_n 3, 1) := by decide +kernel
theorem dX11_addUp_71 : decode cX11_addUp 71 = .ok (.laload, 1) := by decide +kernel
theorem dX11_addUp_72 : decode cX11_addUp 72 = .ok (.ladd, 1) := by decide +kernel
theorem dX11_addUp_73 : decode cX11_addUp 73 = .ok (.lastore, 1) := by decide +kernel
theorem dX11_addUp_74 : decode cX11_addUp 74 = .ok (.iinc 3 1, 3) := by decide +kernel
theorem dX11_addUp_77 : decode cX11_addUp 77 = .ok (.goto (-75), 3) := by decide +kernel
theorem dX11_addUp_80 : decode cX11_addUp 80 = .ok (.return_, 1) := by decide +kernel
set_option maxRecDepth 20000 in
theorem a_X11_addUp_80 {Q : Sg → Unit → Prop} {X : Sg → String → Prop} (K : MD l R p s m args c cX11_addUp 4 RX11 D cA tys A n0 s0 1 23 []) (hQ : CQV p l e R s m args below meth c cX11_addUp D cA A n0 s0 QM σi Q) (hX : CX p l e R s m args below meth c 4 D cA A n0 s0 QM σi X) (hTh : CT p l e R s m args below meth c cX11_addUp 4 D cA A n0 s0 QM σi RX11 X) : ∀ (σ : Sg), w_X11_addUp_80 Q X σ → RG σ → TY σ → Ext σi σ → JJ p l e R s m args below meth c 4 D cA A n0 s0 QM σ 80 [] [] := by
  intro σ h hGσ hYσ hE H locs ls hH hl hc
  have B := K.1
  have hl9 := K.2.2.2.2.2.2
  unfold w_X11_addUp_80 at h
  exact hQ _ _ _ _ _ dX11_addUp_80 hH hc h hGσ hYσ hE
set_option maxRecDepth 20000 in
theorem a_X11_addUp_74 {Q : Sg → Unit → Prop} {X : Sg → String → Prop} (K : MD l R p s m args c cX11_addUp 4 RX11 D cA tys A n0 s0 1 23 []) (hQ : CQV p l e R s m args below meth c cX11_addUp D cA A n0 s0 QM σi Q) (hX : CX p l e R s m args below meth c 4 D cA A n0 s0 QM σi X) (hTh : CT p l e R s m args below meth c cX11_addUp 4 D cA A n0 s0 QM σi RX11 X) {K2 : Sg → Option Nat → Option Nat → Option Nat → Int → Prop} (hK2 : ∀ (σ : Sg) (v0 : Option Nat) (v1 : Option Nat) (v2 : Option Nat) (v3 : Int) (g0 : tyV σ 5 v0) (g1 : tyV σ 101 v1) (g2 : tyV σ 101 v2) (g3 : rng v3), K2 σ v0 v1 v2 v3 → RG σ → TY σ → Ext σi σ → JJ p l e R s m args below meth c 4 D cA A n0 s0 QM σ 2 [(0, va_rf v0), (1, va_rf v1), (2, va_rf v2), (3, .int (i32 v3))] []) : ∀ (σ : Sg) (v0 : Option Nat) (v1 : Option Nat) (v2 : Option Nat) (v3 : Int) (g0 : tyV σ 5 v0) (g1 : tyV σ 101 v1) (g2 : tyV σ 101 v2) (g3 : rng v3), w_X11_addUp_74 K2 Q X σ v0 v1 v2 v3 → RG σ → TY σ → Ext σi σ → JJ p l e R s m args below meth c 4 D cA A n0 s0 QM σ 74 [(0, va_rf v0), (1, va_rf v1), (2, va_rf v2), (3, .int (i32 v3))] [] := by
  intro σ v0 v1 v2 v3 g0 g1 g2 g3 h hGσ hYσ hE H locs ls hH hl hc
  have B := K.1
  have hl9 := K.2.2.2.2.2.2
  unfold w_X11_addUp_74 at h
  obtain ⟨q1, h⟩ := h
  refine lv_iinc (k := 3) (v := i32 (v3 + 1)) (lv' := [(3, .int (i32 (v3 + 1))), (0, va_rf v0), (1, va_rf v1), (2, va_rf v2)]) B.1 B.2.1 dX11_addUp_74 hl rfl (i32_add _ _) (by decide) (by generalize v2 = w9; cases w9 <;> rfl) (fun ls hl => ?_)
  refine lv_goto (tgt := 2) B.1 B.2.1 dX11_addUp_77 (by decide) ?_
  exact hK2 _ _ _ _ _ g0 g1 g2 q1 h hGσ hYσ hE _ _ _ hH (lv_sub (l' := [(0, va_rf v0), (1, va_rf v1), (2, va_rf v2), (3, .int (i32 (v3 + 1)))]) hl [1, 2, 3, 0] rfl) hc
set_option maxRecDepth 20000 in
theorem a_X11_addUp_65 {Q : Sg → Unit → Prop} {X : Sg → String → Prop} (K : MD l R p s m args c cX11_addUp 4 RX11 D cA tys A n0 s0 1 23 []) (hQ : CQV p l e R s m args below meth c cX11_addUp D cA A n0 s0 QM σi Q) (hX : CX p l e R s m args below meth c 4 D cA A n0 s0 QM σi X) (hTh : CT p l e R s m args below meth c cX11_addUp 4 D cA A n0 s0 QM σi RX11 X) {K2 : Sg → Option Nat → Option Nat → Option Nat → Int → Prop} (hK2 : ∀ (σ : Sg) (v0 : Option Nat) (v1 : Option Nat) (v2 : Option Nat) (v3 : Int) (g0 : tyV σ 5 v0) (g1 : tyV σ 101 v1) (g2 : tyV σ 101 v2) (g3 : rng v3), K2 σ v0 v1 v2 v3 → RG σ → TY σ → Ext σi σ → JJ p l e R s m args below meth c 4 D cA A n0 s0 QM σ 2 [(0, va_rf v0), (1, va_rf v1), (2, va_rf v2), (3, .int (i32 v3))] []) : ∀ (σ : Sg) (v0 : Option Nat) (v1 : Option Nat) (v2 : Option Nat) (v3 : Int) (g0 : tyV σ 5 v0) (g1 : tyV σ 101 v1) (g2 : tyV σ 101 v2) (g3 : rng v3), w_X11_addUp_65 K2 Q X σ v0 v1 v2 v3 → RG σ → TY σ → Ext σi σ → JJ p l e R s m args below meth c 4 D cA A n0 s0 QM σ 65 [(0, va_rf v0), (1, va_rf v1), (2, va_rf v2), (3, .int (i32 v3))] [] := by
  intro σ v0 v1 v2 v3 g0 g1 g2 g3 h hGσ hYσ hE H locs ls hH hl hc
  have B := K.1
  have hl9 := K.2.2.2.2.2.2
  unfold w_X11_addUp_65 at h
  refine lv_aload_nQ B.1 B.2.1 dX11_addUp_65 rfl (lv_at hl 1 rfl) ?_
  refine lv_iload_n B.1 B.2.1 dX11_addUp_66 rfl (lv_at hl 3 rfl) ?_
  refine lv_dup2_11 B.1 B.2.1 dX11_addUp_67 rfl (rf_cat _) ?_
  obtain ⟨a37, ea37, h⟩ := h
  have ka37 : kO σ a37 101 := g1 a37 ea37
  have h := h ka37
  obtain ⟨q1, h⟩ := h
  refine W.eq (g2 := F0 m 68 ls [.int (i32 v3), .ref a37, .int (i32 v3), va_rf v1]) (by rw [ea37]; rfl) ?_
  refine y_lald B K.2.1 hH ka37 q1 dX11_addUp_68 (hYσ.2 _) ?_
  refine lv_aload_nQ B.1 B.2.1 dX11_addUp_69 rfl (lv_at hl 2 rfl) ?_
  refine lv_iload_n B.1 B.2.1 dX11_addUp_70 rfl (lv_at hl 3 rfl) ?_
  obtain ⟨a38, ea38, h⟩ := h
  have ka38 : kO σ a38 101 := g2 a38 ea38
  have h := h ka38
  obtain ⟨q2, h⟩ := h
  refine W.eq (g2 := F0 m 71 ls [.int (i32 v3), .ref a38, .long (gJ σ a37 v3.toNat), .int (i32 v3), va_rf v1]) (by rw [ea38]; rfl) ?_
  refine y_lald B K.2.1 hH ka38 q2 dX11_addUp_71 (hYσ.2 _) ?_
  refine lv_ladd B.1 B.2.1 dX11_addUp_72 ?_
  obtain ⟨q3, h⟩ := h
  obtain ⟨σ39, eσ39⟩ : ∃ z, z = pJ σ a37 v3.toNat ((gJ σ a37 v3.toNat) + (gJ σ a38 v3.toNat)) := ⟨_, rfl⟩
  have h := h σ39 eσ39
  refine W.eq (g2 := F0 m 73 ls [.long ((gJ σ a37 v3.toNat) + (gJ σ a38 v3.toNat)), .int (i32 v3), .ref a37]) (by rw [ea37]; rfl) ?_
  refine y_last B K.2.1 hH ka37 q3 dX11_addUp_73 (hYσ.2 _) (fun H locs hH => ?_)
  have hH : Hd D cA A s (pJ σ a37 v3.toNat ((gJ σ a37 v3.toNat) + (gJ σ a38 v3.toNat))) H locs := hH
  rw [← eσ39] at hH
  have hGσ39 : RG σ39 := by rw [eσ39]; exact hGσ.pJ
  have hYσ39 : TY σ39 := by rw [eσ39]; exact hYσ.pJ
  have xσ39 : Ext σ σ39 := by rw [eσ39]; exact Ext.pJ
  have hc : CB n0 s0 σ39 := by rw [eσ39]; exact hc
  rw [show gc σ = gc σ39 by rw [eσ39]; try rfl, show gs σ = gs σ39 by rw [eσ39]; try rfl]
  exact a_X11_addUp_74 K hQ hX hTh hK2 _ _ _ _ _ (g0.up xσ39) (g1.up xσ39) (g2.up xσ39) g3 h hGσ39 hYσ39 (hE.trans xσ39) _ _ _ hH (lv_sub (l' := [(0, va_rf v0), (1, va_rf v1), (2, va_rf v2), (3, .int (i32 v3))]) hl [0, 1, 2, 3] rfl) hc
set_option maxRecDepth 20000 in
theorem a_X11_addUp_50 {Q : Sg → Unit → Prop} {X : Sg → String → Prop} (K : MD l R p s m args c cX11_addUp 4 RX11 D cA tys A n0 s0 1 23 []) (hQ : CQV p l e R s m args below meth c cX11_addUp D cA A n0 s0 QM σi Q) (hX : CX p l e R s m args below meth c 4 D cA A n0 s0 QM σi X) (hTh : CT p l e R s m args below meth c cX11_addUp 4 D cA A n0 s0 QM σi RX11 X) {K2 : Sg → Option Nat → Option Nat → Option Nat → Int → Prop} (hK2 : ∀ (σ : Sg) (v0 : Option Nat) (v1 : Option Nat) (v2 : Option Nat) (v3 : Int) (g0 : tyV σ 5 v0) (g1 : tyV σ 101 v1) (g2 : tyV σ 101 v2) (g3 : rng v3), K2 σ v0 v1 v2 v3 → RG σ → TY σ → Ext σi σ → JJ p l e R s m args below meth c 4 D cA A n0 s0 QM σ 2 [(0, va_rf v0), (1, va_rf v1), (2, va_rf v2), (3, .int (i32 v3))] []) : ∀ (σ : Sg) (v0 : Option Nat) (v1 : Option Nat) (v2 : Option Nat) (v3 : Int) (g0 : tyV σ 5 v0) (g1 : tyV σ 101 v1) (g2 : tyV σ 101 v2) (g3 : rng v3), w_X11_addUp_50 K2 Q X σ v0 v1 v2 v3 → RG σ → TY σ → Ext σi σ → JJ p l e R s m args below meth c 4 D cA A n0 s0 QM σ 50 [(0, va_rf v0), (1, va_rf v1), (2, va_rf v2), (3, .int (i32 v3))] [] := by
  intro σ v0 v1 v2 v3 g0 g1 g2 g3 h hGσ hYσ hE H locs ls hH hl hc
  have B := K.1
  have hl9 := K.2.2.2.2.2.2
  unfold w_X11_addUp_50 at h
  refine lv_aload_nQ B.1 B.2.1 dX11_addUp_50 rfl (lv_at hl 1 rfl) ?_
  refine lv_iload_n B.1 B.2.1 dX11_addUp_51 rfl (lv_at hl 3 rfl) ?_
  refine lv_aload_nQ B.1 B.2.1 dX11_addUp_52 rfl (lv_at hl 1 rfl) ?_
  refine lv_iload_n B.1 B.2.1 dX11_addUp_53 rfl (lv_at hl 3 rfl) ?_
  obtain ⟨a40, ea40, h⟩ := h
  have ka40 : kO σ a40 101 := g1 a40 ea40
  have h := h ka40
  obtain ⟨q1, h⟩ := h
  refine W.eq (g2 := F0 m 54 ls [.int (i32 v3), .ref a40, .int (i32 v3), va_rf v1]) (by rw [ea40]; rfl) ?_
  refine y_lald B K.2.1 hH ka40 q1 dX11_addUp_54 (hYσ.2 _) ?_
  refine lv_aload_nQ B.1 B.2.1 dX11_addUp_55 rfl (lv_at hl 2 rfl) ?_
  refine lv_iload_n B.1 B.2.1 dX11_addUp_56 rfl (lv_at hl 3 rfl) ?_
  obtain ⟨a41, ea41, h⟩ := h
  have ka41 : kO σ a41 101 := g2 a41 ea41
  have h := h ka41
  obtain ⟨q2, h⟩ := h
  refine W.eq (g2 := F0 m 57 ls [.int (i32 v3), .ref a41, .long (gJ σ a40 v3.toNat), .int (i32 v3), va_rf v1]) (by rw [ea41]; rfl) ?_
  refine y_lald B K.2.1 hH ka41 q2 dX11_addUp_57 (hYσ.2 _) ?_
  refine c_S B hH hl hc K.2.2.1 (As := [.long (gJ σ a40 v3.toNat), .long (gJ σ a41 v3.toNat)]) (okC_J9_max_f86c9 hl9 K.2.1 σ (gJ σ a40 v3.toNat) (gJ σ a41 v3.toNat) hGσ hYσ h) wc_X11_245 2 hdC_J9_max_f86c9 ⟨Nat.le_trans (Nat.le_of_ble_eq_true rfl) K.2.2.2.1, Nat.le_trans (Nat.le_of_ble_eq_true rfl) K.2.2.2.2.1⟩ rfl (rest := [.int (i32 v3), va_rf v1]) rfl (by simp only [List.map_cons, List.map_nil, rf_cat]; exact Nat.le_of_ble_eq_true rfl) dX11_addUp_58 (fun σ42 w hq => ?_) (fun σ9 E9 hx9 => hX σ9 E9 _ _ _ (tb_out K.2.2.2.2.2.1 rfl) hx9.1 hx9.2.1 hx9.2.2.1 (hE.trans hx9.2.2.2))
  obtain ⟨r43, rfl, h, hGσ42, hYσ42, xσ42⟩ := hq
  have h := h xσ42
  intro H locs ls hH hl hc
  refine W.eq (g2 := F0 m 61 ls [.long r43, .int (i32 v3), va_rf v1]) (rfl) ?_
  try dsimp only at h
  obtain ⟨q3, h⟩ := h
  obtain ⟨σ44, eσ44⟩ : ∃ z, z = pJ σ42 a40 v3.toNat r43 := ⟨_, rfl⟩
  have h := h σ44 eσ44
  refine W.eq (g2 := F0 m 61 ls [.long r43, .int (i32 v3), .ref a40]) (by rw [ea40]; rfl) ?_
  refine y_last B K.2.1 hH (ka40.up xσ42) q3 dX11_addUp_61 (hYσ42.2 _) (fun H locs hH => ?_)
  have hH : Hd D cA A s (pJ σ42 a40 v3.toNat r43) H locs := hH
  rw [← eσ44] at hH
  have hGσ44 : RG σ44 := by rw [eσ44]; exact hGσ42.pJ
  have hYσ44 : TY σ44 := by rw [eσ44]; exact hYσ42.pJ
  have xσ44 : Ext σ42 σ44 := by rw [eσ44]; exact Ext.pJ
  have hc : CB n0 s0 σ44 := by rw [eσ44]; exact hc
  rw [show gc σ42 = gc σ44 by rw [eσ44]; try rfl, show gs σ42 = gs σ44 by rw [eσ44]; try rfl]
  refine lv_goto (tgt := 74) B.1 B.2.1 dX11_addUp_62 (by decide) ?_
  exact a_X11_addUp_74 K hQ hX hTh hK2 _ _ _ _ _ (g0.up (xσ42.trans xσ44)) (g1.up (xσ42.trans xσ44)) (g2.up (xσ42.trans xσ44)) g3 h hGσ44 hYσ44 ((hE.trans xσ42).trans xσ44) _ _ _ hH (lv_sub (l' := [(0, va_rf v0), (1, va_rf v1), (2, va_rf v2), (3, .int (i32 v3))]) hl [0, 1, 2, 3] rfl) hc
set_option maxRecDepth 20000 in
theorem a_X11_addUp_40 {Q : Sg → Unit → Prop} {X : Sg → String → Prop} (K : MD l R p s m args c cX11_addUp 4 RX11 D cA tys A n0 s0 1 23 []) (hQ : CQV p l e R s m args below meth c cX11_addUp D cA A n0 s0 QM σi Q) (hX : CX p l e R s m args below meth c 4 D cA A n0 s0 QM σi X) (hTh : CT p l e R s m args below meth c cX11_addUp 4 D cA A n0 s0 QM σi RX11 X) {K2 : Sg → Option Nat → Option Nat → Option Nat → Int → Prop} (hK2 : ∀ (σ : Sg) (v0 : Option Nat) (v1 : Option Nat) (v2 : Option Nat) (v3 : Int) (g0 : tyV σ 5 v0) (g1 : tyV σ 101 v1) (g2 : tyV σ 101 v2) (g3 : rng v3), K2 σ v0 v1 v2 v3 → RG σ → TY σ → Ext σi σ → JJ p l e R s m args below meth c 4 D cA A n0 s0 QM σ 2 [(0, va_rf v0), (1, va_rf v1), (2, va_rf v2), (3, .int (i32 v3))] []) : ∀ (σ : Sg) (v0 : Option Nat) (v1 : Option Nat) (v2 : Option Nat) (v3 : Int) (g0 : tyV σ 5 v0) (g1 : tyV σ 101 v1) (g2 : tyV σ 101 v2) (g3 : rng v3), w_X11_addUp_40 K2 Q X σ v0 v1 v2 v3 → RG σ → TY σ → Ext σi σ → JJ p l e R s m args below meth c 4 D cA A n0 s0 QM σ 40 [(0, va_rf v0), (1, va_rf v1), (2, va_rf v2), (3, .int (i32 v3))] [] := by
  intro σ v0 v1 v2 v3 g0 g1 g2 g3 h hGσ hYσ hE H locs ls hH hl hc
  have B := K.1
  have hl9 := K.2.2.2.2.2.2
  unfold w_X11_addUp_40 at h
  refine lv_aload_nQ B.1 B.2.1 dX11_addUp_40 rfl (lv_at hl 0 rfl) ?_
  obtain ⟨a45, ea45, h⟩ := h
  have ka45 : kO σ a45 5 := g0 a45 ea45
  have h := h ka45
  refine W.eq (g2 := F0 m 41 ls [.ref a45]) (by rw [ea45]; rfl) ?_
  refine f_getp B hH ka45 (by decide) rfl wu_X5 2 (by decide) wf_X11_216 rfl rfl dX11_addUp_41 ?_
  refine lv_iload_n B.1 B.2.1 dX11_addUp_44 rfl (lv_at hl 3 rfl) ?_
  obtain ⟨a46, ea46, h⟩ := h
  have ka46 : kO σ a46 100 := (hYσ.get ka45 (by decide)) a46 ea46
  have h := h ka46
  obtain ⟨q1, h⟩ := h
  refine W.eq (g2 := F0 m 45 ls [.int (i32 v3), .ref a46]) (by rw [ea46]; rfl) ?_
  refine y_iald B K.2.1 hH ka46 q1 dX11_addUp_45 (hYσ.2 _) ?_
  refine lv_iconst (v := i32 3) B.1 B.2.1 dX11_addUp_46 (by decide) ?_
  refine lv_icmp_ne (tgt := 65) B.1 B.2.1 dX11_addUp_47 (by decide) (fun h9 => ?_) (fun h9 => ?_)
  · rw [if_pos (fun q => h9 ((i32_eq (hGσ _ _) (by unfold rng; omega)).mpr q))] at h
    exact a_X11_addUp_65 K hQ hX hTh hK2 _ _ _ _ _ g0 g1 g2 g3 h hGσ hYσ hE _ _ _ hH (lv_sub (l' := [(0, va_rf v0), (1, va_rf v1), (2, va_rf v2), (3, .int (i32 v3))]) hl [0, 1, 2, 3] rfl) hc
  · rw [if_neg (fun q => q ((i32_eq (hGσ _ _) (by unfold rng; omega)).mp h9))] at h
    exact a_X11_addUp_50 K hQ hX hTh hK2 _ _ _ _ _ g0 g1 g2 g3 h hGσ hYσ hE _ _ _ hH (lv_sub (l' := [(0, va_rf v0), (1, va_rf v1), (2, va_rf v2), (3, .int (i32 v3))]) hl [0, 1, 2, 3] rfl) hc
set_option maxRecDepth 20000 in
theorem a_X11_addUp_25 {Q : Sg → Unit → Prop} {X : Sg → String → Prop} (K : MD l R p s m args c cX11_addUp 4 RX11 D cA tys A n0 s0 1 23 []) (hQ : CQV p l e R s m args below meth c cX11_addUp D cA A n0 s0 QM σi Q) (hX : CX p l e R s m args below meth c 4 D cA A n0 s0 QM σi X) (hTh : CT p l e R s m args below meth c cX11_addUp 4 D cA A n0 s0 QM σi RX11 X) {K2 : Sg → Option Nat → Option Nat → Option Nat → Int → Prop} (hK2 : ∀ (σ : Sg) (v0 : Option Nat) (v1 : Option Nat) (v2 : Option Nat) (v3 : Int) (g0 : tyV σ 5 v0) (g1 : tyV σ 101 v1) (g2 : tyV σ 101 v2) (g3 : rng v3), K2 σ v0 v1 v2 v3 → RG σ → TY σ → Ext σi σ → JJ p l e R s m args below meth c 4 D cA A n0 s0 QM σ 2 [(0, va_rf v0), (1, va_rf v1), (2, va_rf v2), (3, .int (i32 v3))] []) : ∀ (σ : Sg) (v0 : Option Nat) (v1 : Option Nat) (v2 : Option Nat) (v3 : Int) (g0 : tyV σ 5 v0) (g1 : tyV σ 101 v1) (g2 : tyV σ 101 v2) (g3 : rng v3), w_X11_addUp_25 K2 Q X σ v0 v1 v2 v3 → RG σ → TY σ → Ext σi σ → JJ p l e R s m args below meth c 4 D cA A n0 s0 QM σ 25 [(0, va_rf v0), (1, va_rf v1), (2, va_rf v2), (3, .int (i32 v3))] [] := by
  intro σ v0 v1 v2 v3 g0 g1 g2 g3 h hGσ hYσ hE H locs ls hH hl hc
  have B := K.1
  have hl9 := K.2.2.2.2.2.2
  unfold w_X11_addUp_25 at h
  refine lv_aload_nQ B.1 B.2.1 dX11_addUp_25 rfl (lv_at hl 1 rfl) ?_
  refine lv_iload_n B.1 B.2.1 dX11_addUp_26 rfl (lv_at hl 3 rfl) ?_
  refine lv_aload_nQ B.1 B.2.1 dX11_addUp_27 rfl (lv_at hl 1 rfl) ?_
  refine lv_iload_n B.1 B.2.1 dX11_addUp_28 rfl (lv_at hl 3 rfl) ?_
  obtain ⟨a47, ea47, h⟩ := h
  have ka47 : kO σ a47 101 := g1 a47 ea47
  have h := h ka47
  obtain ⟨q1, h⟩ := h
  refine W.eq (g2 := F0 m 29 ls [.int (i32 v3), .ref a47, .int (i32 v3), va_rf v1]) (by rw [ea47]; rfl) ?_
  refine y_lald B K.2.1 hH ka47 q1 dX11_addUp_29 (hYσ.2 _) ?_
  refine lv_aload_nQ B.1 B.2.1 dX11_addUp_30 rfl (lv_at hl 2 rfl) ?_
  refine lv_iload_n B.1 B.2.1 dX11_addUp_31 rfl (lv_at hl 3 rfl) ?_
  obtain ⟨a48, ea48, h⟩ := h
  have ka48 : kO σ a48 101 := g2 a48 ea48
  have h := h ka48
  obtain ⟨q2, h⟩ := h
  refine W.eq (g2 := F0 m 32 ls [.int (i32 v3), .ref a48, .long (gJ σ a47 v3.toNat), .int (i32 v3), va_rf v1]) (by rw [ea48]; rfl) ?_
  refine y_lald B K.2.1 hH ka48 q2 dX11_addUp_32 (hYσ.2 _) ?_
  refine c_S B hH hl hc K.2.2.1 (As := [.long (gJ σ a47 v3.toNat), .long (gJ σ a48 v3.toNat)]) (okC_J9_min_f86c9 hl9 K.2.1 σ (gJ σ a47 v3.toNat) (gJ σ a48 v3.toNat) hGσ hYσ h) wc_X11_242 2 hdC_J9_min_f86c9 ⟨Nat.le_trans (Nat.le_of_ble_eq_true rfl) K.2.2.2.1, Nat.le_trans (Nat.le_of_ble_eq_true rfl) K.2.2.2.2.1⟩ rfl (rest := [.int (i32 v3), va_rf v1]) rfl (by simp only [List.map_cons, List.map_nil, rf_cat]; exact Nat.le_of_ble_eq_true rfl) dX11_addUp_33 (fun σ49 w hq => ?_) (fun σ9 E9 hx9 => hX σ9 E9 _ _ _ (tb_out K.2.2.2.2.2.1 rfl) hx9.1 hx9.2.1 hx9.2.2.1 (hE.trans hx9.2.2.2))
  obtain ⟨r50, rfl, h, hGσ49, hYσ49, xσ49⟩ := hq
  have h := h xσ49
  intro H locs ls hH hl hc
  refine W.eq (g2 := F0 m 36 ls [.long r50, .int (i32 v3), va_rf v1]) (rfl) ?_
  try dsimp only at h
  obtain ⟨q3, h⟩ := h
  obtain ⟨σ51, eσ51⟩ : ∃ z, z = pJ σ49 a47 v3.toNat r50 := ⟨_, rfl⟩
  have h := h σ51 eσ51
  refine W.eq (g2 := F0 m 36 ls [.long r50, .int (i32 v3), .ref a47]) (by rw [ea47]; rfl) ?_
  refine y_last B K.2.1 hH (ka47.up xσ49) q3 dX11_addUp_36 (hYσ49.2 _) (fun H locs hH => ?_)
  have hH : Hd D cA A s (pJ σ49 a47 v3.toNat r50) H locs := hH
  rw [← eσ51] at hH
  have hGσ51 : RG σ51 := by rw [eσ51]; exact hGσ49.pJ
  have hYσ51 : TY σ51 := by rw [eσ51]; exact hYσ49.pJ
  have xσ51 : Ext σ49 σ51 := by rw [eσ51]; exact Ext.pJ
  have hc : CB n0 s0 σ51 := by rw [eσ51]; exact hc
  rw [show gc σ49 = gc σ51 by rw [eσ51]; try rfl, show gs σ49 = gs σ51 by rw [eσ51]; try rfl]
  refine lv_goto (tgt := 74) B.1 B.2.1 dX11_addUp_37 (by decide) ?_
  exact a_X11_addUp_74 K hQ hX hTh hK2 _ _ _ _ _ (g0.up (xσ49.trans xσ51)) (g1.up (xσ49.trans xσ51)) (g2.up (xσ49.trans xσ51)) g3 h hGσ51 hYσ51 ((hE.trans xσ49).trans xσ51) _ _ _ hH (lv_sub (l' := [(0, va_rf v0), (1, va_rf v1), (2, va_rf v2), (3, .int (i32 v3))]) hl [0, 1, 2, 3] rfl) hc
set_option maxRecDepth 20000 in
theorem a_X11_addUp_15 {Q : Sg → Unit → Prop} {X : Sg → String → Prop} (K : MD l R p s m args c cX11_addUp 4 RX11 D cA tys A n0 s0 1 23 []) (hQ : CQV p l e R s m args below meth c cX11_addUp D cA A n0 s0 QM σi Q) (hX : CX p l e R s m args below meth c 4 D cA A n0 s0 QM σi X) (hTh : CT p l e R s m args below meth c cX11_addUp 4 D cA A n0 s0 QM σi RX11 X) {K2 : Sg → Option Nat → Option Nat → Option Nat → Int → Prop} (hK2 : ∀ (σ : Sg) (v0 : Option Nat) (v1 : Option Nat) (v2 : Option Nat) (v3 : Int) (g0 : tyV σ 5 v0) (g1 : tyV σ 101 v1) (g2 : tyV σ 101 v2) (g3 : rng v3), K2 σ v0 v1 v2 v3 → RG σ → TY σ → Ext σi σ → JJ p l e R s m args below meth c 4 D cA A n0 s0 QM σ 2 [(0, va_rf v0), (1, va_rf v1), (2, va_rf v2), (3, .int (i32 v3))] []) : ∀ (σ : Sg) (v0 : Option Nat) (v1 : Option Nat) (v2 : Option Nat) (v3 : Int) (g0 : tyV σ 5 v0) (g1 : tyV σ 101 v1) (g2 : tyV σ 101 v2) (g3 : rng v3), w_X11_addUp_15 K2 Q X σ v0 v1 v2 v3 → RG σ → TY σ → Ext σi σ → JJ p l e R s m args below meth c 4 D cA A n0 s0 QM σ 15 [(0, va_rf v0), (1, va_rf v1), (2, va_rf v2), (3, .int (i32 v3))] [] := by
  intro σ v0 v1 v2 v3 g0 g1 g2 g3 h hGσ hYσ hE H locs ls hH hl hc
  have B := K.1
  have hl9 := K.2.2.2.2.2.2
  unfold w_X11_addUp_15 at h
  refine lv_aload_nQ B.1 B.2.1 dX11_addUp_15 rfl (lv_at hl 0 rfl) ?_
  obtain ⟨a52, ea52, h⟩ := h
  have ka52 : kO σ a52 5 := g0 a52 ea52
  have h := h ka52
  refine W.eq (g2 := F0 m 16 ls [.ref a52]) (by rw [ea52]; rfl) ?_
  refine f_getp B hH ka52 (by decide) rfl wu_X5 2 (by decide) wf_X11_216 rfl rfl dX11_addUp_16 ?_
  refine lv_iload_n B.1 B.2.1 dX11_addUp_19 rfl (lv_at hl 3 rfl) ?_
  obtain ⟨a53, ea53, h⟩ := h
  have ka53 : kO σ a53 100 := (hYσ.get ka52 (by decide)) a53 ea53
  have h := h ka53
  obtain ⟨q1, h⟩ := h
  refine W.eq (g2 := F0 m 20 ls [.int (i32 v3), .ref a53]) (by rw [ea53]; rfl) ?_
  refine y_iald B K.2.1 hH ka53 q1 dX11_addUp_20 (hYσ.2 _) ?_
  refine lv_iconst (v := i32 2) B.1 B.2.1 dX11_addUp_21 (by decide) ?_
  refine lv_icmp_ne (tgt := 40) B.1 B.2.1 dX11_addUp_22 (by decide) (fun h9 => ?_) (fun h9 => ?_)
  · rw [if_pos (fun q => h9 ((i32_eq (hGσ _ _) (by unfold rng; omega)).mpr q))] at h
    exact a_X11_addUp_40 K hQ hX hTh hK2 _ _ _ _ _ g0 g1 g2 g3 h hGσ hYσ hE _ _ _ hH (lv_sub (l' := [(0, va_rf v0), (1, va_rf v1), (2, va_rf v2), (3, .int (i32 v3))]) hl [0, 1, 2, 3] rfl) hc
  · rw [if_neg (fun q => q ((i32_eq (hGσ _ _) (by unfold rng; omega)).mp h9))] at h
    exact a_X11_addUp_25 K hQ hX hTh hK2 _ _ _ _ _ g0 g1 g2 g3 h hGσ hYσ hE _ _ _ hH (lv_sub (l' := [(0, va_rf v0), (1, va_rf v1), (2, va_rf v2), (3, .int (i32 v3))]) hl [0, 1, 2, 3] rfl) hc
set_option maxRecDepth 20000 in
theorem a_X11_addUp_10 {Q : Sg → Unit → Prop} {X : Sg → String → Prop} (K : MD l R p s m args c cX11_addUp 4 RX11 D cA tys A n0 s0 1 23 []) (hQ : CQV p l e R s m args below meth c cX11_addUp D cA A n0 s0 QM σi Q) (hX : CX p l e R s m args below meth c 4 D cA A n0 s0 QM σi X) (hTh : CT p l e R s m args below meth c cX11_addUp 4 D cA A n0 s0 QM σi RX11 X) {K2 : Sg → Option Nat → Option Nat → Option Nat → Int → Prop} (hK2 : ∀ (σ : Sg) (v0 : Option Nat) (v1 : Option Nat) (v2 : Option Nat) (v3 : Int) (g0 : tyV σ 5 v0) (g1 : tyV σ 101 v1) (g2 : tyV σ 101 v2) (g3 : rng v3), K2 σ v0 v1 v2 v3 → RG σ → TY σ → Ext σi σ → JJ p l e R s m args below meth c 4 D cA A n0 s0 QM σ 2 [(0, va_rf v0), (1, va_rf v1), (2, va_rf v2), (3, .int (i32 v3))] []) : ∀ (σ : Sg) (v0 : Option Nat) (v1 : Option Nat) (v2 : Option Nat) (v3 : Int) (g0 : tyV σ 5 v0) (g1 : tyV σ 101 v1) (g2 : tyV σ 101 v2) (g3 : rng v3), w_X11_addUp_10 K2 Q X σ v0 v1 v2 v3 → RG σ → TY σ → Ext σi σ → JJ p l e R s m args below meth c 4 D cA A n0 s0 QM σ 10 [(0, va_rf v0), (1, va_rf v1), (2, va_rf v2), (3, .int (i32 v3))] [] := by
  intro σ v0 v1 v2 v3 g0 g1 g2 g3 h hGσ hYσ hE H locs ls hH hl hc
  have B := K.1
  have hl9 := K.2.2.2.2.2.2
  unfold w_X11_addUp_10 at h
  refine lv_iload_n B.1 B.2.1 dX11_addUp_10 rfl (lv_at hl 3 rfl) ?_
  refine lv_iconst (v := i32 4) B.1 B.2.1 dX11_addUp_11 (by decide) ?_
  refine lv_icmp_ge (tgt := 80) B.1 B.2.1 dX11_addUp_12 (by decide) (fun h9 => ?_) (fun h9 => ?_)
  · rw [if_pos ((i32_le (by unfold rng; omega) g3).mp h9)] at h
    exact a_X11_addUp_80 K hQ hX hTh _ h hGσ hYσ hE _ _ _ hH (lv_sub (l' := []) hl [] rfl) hc
  · rw [if_neg (fun q => h9 ((i32_le (by unfold rng; omega) g3).mpr q))] at h
    exact a_X11_addUp_15 K hQ hX hTh hK2 _ _ _ _ _ g0 g1 g2 g3 h hGσ hYσ hE _ _ _ hH (lv_sub (l' := [(0, va_rf v0), (1, va_rf v1), (2, va_rf v2), (3, .int (i32 v3))]) hl [0, 1, 2, 3] rfl) hc
set_option maxRecDepth 20000 in
theorem a_X11_addUp_2 {Q : Sg → Unit → Prop} {X : Sg → String → Prop} (K : MD l R p s m args c cX11_addUp 4 RX11 D cA tys A n0 s0 1 23 []) (hQ : CQV p l e R s m args below meth c cX11_addUp D cA A n0 s0 QM σi Q) (hX : CX p l e R s m args below meth c 4 D cA A n0 s0 QM σi X) (hTh : CT p l e R s m args below meth c cX11_addUp 4 D cA A n0 s0 QM σi RX11 X) {K2 : Sg → Option Nat → Option Nat → Option Nat → Int → Prop} (hK2 : ∀ (σ : Sg) (v0 : Option Nat) (v1 : Option Nat) (v2 : Option Nat) (v3 : Int) (g0 : tyV σ 5 v0) (g1 : tyV σ 101 v1) (g2 : tyV σ 101 v2) (g3 : rng v3), K2 σ v0 v1 v2 v3 → RG σ → TY σ → Ext σi σ → JJ p l e R s m args below meth c 4 D cA A n0 s0 QM σ 2 [(0, va_rf v0), (1, va_rf v1), (2, va_rf v2), (3, .int (i32 v3))] []) : ∀ (σ : Sg) (v0 : Option Nat) (v1 : Option Nat) (v2 : Option Nat) (v3 : Int) (g0 : tyV σ 5 v0) (g1 : tyV σ 101 v1) (g2 : tyV σ 101 v2) (g3 : rng v3), w_X11_addUp_2 K2 Q X σ v0 v1 v2 v3 → RG σ → TY σ → Ext σi σ → JJ p l e R s m args below meth c 4 D cA A n0 s0 QM σ 2 [(0, va_rf v0), (1, va_rf v1), (2, va_rf v2), (3, .int (i32 v3))] [] := by
  intro σ v0 v1 v2 v3 g0 g1 g2 g3 h hGσ hYσ hE H locs ls hH hl hc
  have B := K.1
  have hl9 := K.2.2.2.2.2.2
  unfold w_X11_addUp_2 at h
  refine lv_iload_n B.1 B.2.1 dX11_addUp_2 rfl (lv_at hl 3 rfl) ?_
  refine lv_aload_nQ B.1 B.2.1 dX11_addUp_3 rfl (lv_at hl 0 rfl) ?_
  obtain ⟨a54, ea54, h⟩ := h
  have ka54 : kO σ a54 5 := g0 a54 ea54
  have h := h ka54
  refine W.eq (g2 := F0 m 4 ls [.ref a54, .int (i32 v3)]) (by rw [ea54]; rfl) ?_
  refine f_geti B hH ka54 (by decide) rfl wu_X5 4 (by decide) wf_X11_198 rfl rfl dX11_addUp_4 ?_
  refine lv_icmp_ge (tgt := 80) B.1 B.2.1 dX11_addUp_7 (by decide) (fun h9 => ?_) (fun h9 => ?_)
  · rw [if_pos ((i32_le (hGσ _ _) g3).mp h9)] at h
    exact a_X11_addUp_80 K hQ hX hTh _ h hGσ hYσ hE _ _ _ hH (lv_sub (l' := []) hl [] rfl) hc
  · rw [if_neg (fun q => h9 ((i32_le (hGσ _ _) g3).mpr q))] at h
    exact a_X11_addUp_10 K hQ hX hTh hK2 _ _ _ _ _ g0 g1 g2 g3 h hGσ hYσ hE _ _ _ hH (lv_sub (l' := [(0, va_rf v0), (1, va_rf v1), (2, va_rf v2), (3, .int (i32 v3))]) hl [0, 1, 2, 3] rfl) hc
theorem al_X11_addUp_2 {Q : Sg → Unit → Prop} {X : Sg → String → Prop} (K : MD l R p s m args c cX11_addUp 4 RX11 D cA tys A n0 s0 1 23 []) (hQ : CQV p l e R s m args below meth c cX11_addUp D cA A n0 s0 QM σi Q) (hX : CX p l e R s m args below meth c 4 D cA A n0 s0 QM σi X) (hTh : CT p l e R s m args below meth c cX11_addUp 4 D cA A n0 s0 QM σi RX11 X) : ∀ (n : Nat), ∀ (σ : Sg) (v0 : Option Nat) (v1 : Option Nat) (v2 : Option Nat) (v3 : Int) (g0 : tyV σ 5 v0) (g1 : tyV σ 101 v1) (g2 : tyV σ 101 v2) (g3 : rng v3), wl_X11_addUp_2 Q X n σ v0 v1 v2 v3 → RG σ → TY σ → Ext σi σ → JJ p l e R s m args below meth c 4 D cA A n0 s0 QM σ 2 [(0, va_rf v0), (1, va_rf v1), (2, va_rf v2), (3, .int (i32 v3))] [] := by
  intro n
  induction n with
  | zero => intro σ v0 v1 v2 v3 g0 g1 g2 g3 h; exact h.elim
  | succ n ih => exact fun σ v0 v1 v2 v3 g0 g1 g2 g3 h => a_X11_addUp_2 K hQ hX hTh ih σ v0 v1 v2 v3 g0 g1 g2 g3 h
set_option maxRecDepth 20000 in
theorem a_X11_addUp_0 {Q : Sg → Unit → Prop} {X : Sg → String → Prop} (K : MD l R p s m args c cX11_addUp 4 RX11 D cA tys A n0 s0 1 23 []) (hQ : CQV p l e R s m args below meth c cX11_addUp D cA A n0 s0 QM σi Q) (hX : CX p l e R s m args below meth c 4 D cA A n0 s0 QM σi X) (hTh : CT p l e R s m args below meth c cX11_addUp 4 D cA A n0 s0 QM σi RX11 X) : ∀ (σ : Sg) (v0 : Option Nat) (v1 : Option Nat) (v2 : Option Nat) (g0 : tyV σ 5 v0) (g1 : tyV σ 101 v1) (g2 : tyV σ 101 v2), w_X11_addUp_0 Q X σ v0 v1 v2 → RG σ → TY σ → Ext σi σ → JJ p l e R s m args below meth c 4 D cA A n0 s0 QM σ 0 [(0, va_rf v0), (1, va_rf v1), (2, va_rf v2)] [] := by
  intro σ v0 v1 v2 g0 g1 g2 h hGσ hYσ hE H locs ls hH hl hc
  have B := K.1
  have hl9 := K.2.2.2.2.2.2
  unfold w_X11_addUp_0 at h
  refine lv_iconst (v := i32 0) B.1 B.2.1 dX11_addUp_0 (by decide) ?_
  refine lv_istore_n (lv' := [(3, .int (i32 0)), (0, va_rf v0), (1, va_rf v1), (2, va_rf v2)]) B.1 B.2.1 dX11_addUp_1 rfl hl (by decide) (by generalize v2 = w9; cases w9 <;> rfl) (fun ls hl => ?_)
  obtain ⟨n9, h⟩ := h
  exact al_X11_addUp_2 K hQ hX hTh n9 _ _ _ _ _ g0 g1 g2 (by unfold rng; omega) h hGσ hYσ hE _ _ _ hH (lv_sub (l' := [(0, va_rf v0), (1, va_rf v1), (2, va_rf v2), (3, .int (i32 0))]) hl [1, 2, 3, 0] rfl) hc
theorem ok_X11_addUp (hl0 : l.stackTraces = false) (hT : TyC cA tys) {Q : Sg → Unit → Prop} {X : Sg → String → Prop} (σ : Sg) (v0 : Option Nat) (v1 : Option Nat) (v2 : Option Nat) (g0 : tyV σ 5 v0) (g1 : tyV σ 101 v1) (g2 : tyV σ 101 v2) (hG : RG σ) (hY : TY σ) (h : wp_X11_addUp v0 v1 v2 σ Q X) : Ok l D cA tys A yX11_addUp (.code yX11_addUp cX11_addUp 4 none) 1 23 [va_rf v0, va_rf v1, va_rf v2] σ (QcV σ Q) (QxC σ X) := by
  unfold wp_X11_addUp at h
  exact oc_V hl0 (by decide) (by cases v0 <;> cases v1 <;> cases v2 <;> exact Nat.le_of_ble_eq_true rfl) hT (fun p e R s m args below meth c K hQ hX hTh hin9 H locs ls hH hl hc => a_X11_addUp_0 K hQ hX hTh σ v0 v1 v2 g0 g1 g2 h hG hY (Ext.rfl' σ) H locs ls hH (lv_sub (l' := [(0, va_rf v0), (1, va_rf v1), (2, va_rf v2)]) hl [0, 1, 2] (by cases v0 <;> cases v1 <;> cases v2 <;> rfl)) hc)
theorem dX1_cutBehind_0 : decode cX1_cutBehind 0 = .ok (.aload_n 1, 1) := by decide +kernel
theorem dX1_cutBehind_1 : decode cX1_cutBehind 1 = .ok (.ifnonnull 10, 3) := by decide +kernel
theorem dX1_cutBehind_4 : decode cX1_cutBehind 4 = .ok (.aload_n 0, 1) := by decide +kernel
theorem dX1_cutBehind_5 : decode cX1_cutBehind 5 = .ok (.getfield 20, 3) := by decide +kernel
theorem dX1_cutBehind_8 : decode cX1_cutBehind 8 = .ok (.goto 7, 3) := by decide +kernel
theorem dX1_cutBehind_11 : decode cX1_cutBehind 11 = .ok (.aload_n 1, 1) := by decide +kernel
theorem dX1_cutBehind_12 : decode cX1_cutBehind 12 = .ok (.getfield 9, 3) := by decide +kernel
theorem dX1_cutBehind_15 : decode cX1_cutBehind 15 = .ok (.astore_n 2, 1) := by decide +kernel
theorem dX1_cutBehind_16 : decode cX1_cutBehind 16 = .ok (.aload_n 2, 1) := by decide +kernel
theorem dX1_cutBehind_17 : decode cX1_cutBehind 17 = .ok (.ifnonnull 5, 3) := by decide +kernel
theorem dX1_cutBehind_20 : decode cX1_cutBehind 20 = .ok (.aconst_null, 1) := by decide +kernel
theorem dX1_cutBehind_21 : decode cX1_cutBehind 21 = .ok (.areturn, 1) := by decide +kernel
theorem dX1_cutBehind_22 : decode cX1_cutBehind 22 = .ok (.aload_n 1, 1) := by decide +kernel
theorem dX1_cutBehind_23 : decode cX1_cutBehind 23 = .ok (.ifnonnull 14, 3) := by decide +kernel
theorem dX1_cutBehind_26 : decode cX1_cutBehind 26 = .ok (.aload_n 0, 1) := by decide +kernel
theorem dX1_cutBehind_27 : decode cX1_cutBehind 27 = .ok (.aload_n 2, 1) := by decide +kernel
theorem dX1_cutBehind_28 : decode cX1_cutBehind 28 = .ok (.getfield 9, 3) := by decide +kernel
theorem dX1_cutBehind_31 : decode cX1_cutBehind 31 = .ok (.putfield 20, 3) := by decide +kernel
theorem dX1_cutBehind_34 : decode cX1_cutBehind 34 = .ok (.goto 11, 3) := by decide +kernel
theorem dX1_cutBehind_37 : decode cX1_cutBehind 37 = .ok (.aload_n 1, 1) := by decide +kernel
theorem dX1_cutBehind_38 : decode cX1_cutBehind 38 = .ok (.aload_n 2, 1) := by decide +kernel
theorem dX1_cutBehind_39 : decode cX1_cutBehind 39 = .ok (.getfield 9, 3) := by decide +kernel
theorem dX1_cutBehind_42 : decode cX1_cutBehind 42 = .ok (.putfield 9, 3) := by decide +kernel
theorem dX1_cutBehind_45 : decode cX1_cutBehind 45 = .ok (.aload_n 0, 1) := by decide +kernel
theorem dX1_cutBehind_46 : decode cX1_cutBehind 46 = .ok (.getfield 15, 3) := by decide +kernel
theorem dX1_cutBehind_49 : decode cX1_cutBehind 49 = .ok (.aload_n 2, 1) := by decide +kernel
theorem dX1_cutBehind_50 : decode cX1_cutBehind 50 = .ok (.if_acmp .ne 8, 3) := by decide +kernel
theorem dX1_cutBehind_53 : decode cX1_cutBehind 53 = .ok (.aload_n 0, 1) := by decide +kernel
theorem dX1_cutBehind_54 : decode cX1_cutBehind 54 = .ok (.aload_n 1, 1) := by decide +kernel
theorem dX1_cutBehind_55 : decode cX1_cutBehind 55 = .ok (.putfield 15, 3) := by decide +kernel
theorem dX1_cutBehind_58 : decode cX1_cutBehind 58 = .ok (.aload_n 0, 1) := by decide +kernel
theorem dX1_cutBehind_59 : decode cX1_cutBehind 59 = .ok (.dup, 1) := by decide +kernel
theorem dX1_cutBehind_60 : decode cX1_cutBehind 60 = .ok (.getfield 23, 3) := by decide +kernel
theorem dX1_cutBehind_63 : decode cX1_cutBehind 63 = .ok (.iconst 1, 1) := by decide +kernel
theorem dX1_cutBehind_64 : decode cX1_cutBehind 64 = .ok (.isub, 1) := by decide +kernel
theorem dX1_cutBehind_65 : decode cX1_cutBehind 65 = .ok (.putfield 23, 3) := by decide +kernel
theorem dX1_cutBehind_68 : decode cX1_cutBehind 68 = .ok (.aload_n 2, 1) := by decide +kernel
theorem dX1_cutBehind_69 : decode cX1_cutBehind 69 = .ok (.aconst_null, 1) := by decide +kernel
theorem dX1_cutBehind_70 : decode cX1_cutBehind 70 = .ok (.putfield 9, 3) := by decide +kernel
theorem dX1_cutBehind_73 : decode cX1_cutBehind 73 = .ok (.aload_n 2, 1) := by decide +kernel
theorem dX1_cutBehind_74 : decode cX1_cutBehind 74 = .ok (.areturn, 1) := by decide +kernel
set_option maxRecDepth 20000 in
theorem a_X1_cutBehind_58 {Q : Sg → Option Nat → Prop} {X : Sg → String → Prop} {th : Nat} (K : MD l R p s m args c cX1_cutBehind 3 RX1 D cA tys A n0 s0 0 0 []) (hQ : CQA p l e R s m args below meth c cX1_cutBehind D cA A n0 s0 QM σi 0 Q) (hX : CX p l e R s m args below meth c 3 D cA A n0 s0 QM σi X) (hTh : CT p l e R s m args below meth c cX1_cutBehind 3 D cA A n0 s0 QM σi RX1 X) : ∀ (σ : Sg) (v2 : Option Nat) (g2 : tyV σ 0 v2), w_X1_cutBehind_58 th Q X σ v2 → RG σ → TY σ → Ext σi σ → kO σ th 1 → JJ p l e R s m args below meth c 3 D cA A n0 s0 QM σ 58 [(0, .ref th), (2, va_rf v2)] [] := by
  intro σ v2 g2 h hGσ hYσ hE hth H locs ls hH hl hc
  have B := K.1
  have hl9 := K.2.2.2.2.2.2
  unfold w_X1_cutBehind_58 at h
  refine lv_aload_n B.1 B.2.1 dX1_cutBehind_58 rfl (lv_at hl 0 rfl) ?_
  refine lv_dup B.1 B.2.1 dX1_cutBehind_59 rfl ?_
  refine f_geti B hH hth (by decide) rfl wu_X1 2 (by decide) wf_X1_23 rfl rfl dX1_cutBehind_60 ?_
  refine lv_iconst (v := i32 1) B.1 B.2.1 dX1_cutBehind_63 (by decide) ?_
  obtain ⟨q1, h⟩ := h
  refine lv_isub B.1 B.2.1 dX1_cutBehind_64 ?_
  rw [i32_sub]
  obtain ⟨σ21, eσ21⟩ : ∃ z, z = pI σ th 2 (gI σ th 2 - 1) := ⟨_, rfl⟩
  have h := h σ21 eσ21
  refine f_puti B hH hth (by decide) rfl wu_X1 tyX1 tyX1_ok nmX1 2 (by decide) wf_X1_23 rfl (ty := .int) rfl rfl rfl rfl rfl dX1_cutBehind_65 (fun H locs hH => ?_)
  have hH : Hd D cA A s (pI σ th 2 (gI σ th 2 - 1)) H locs := hH
  rw [← eσ21] at hH
  have hGσ21 : RG σ21 := by rw [eσ21]; exact hGσ.pI q1
  have hYσ21 : TY σ21 := by rw [eσ21]; exact hYσ.pI
  have xσ21 : Ext σ σ21 := by rw [eσ21]; exact Ext.pI
  have hc : CB n0 s0 σ21 := by rw [eσ21]; exact hc
  rw [show gc σ = gc σ21 by rw [eσ21]; try rfl, show gs σ = gs σ21 by rw [eσ21]; try rfl]
  refine lv_aload_nQ B.1 B.2.1 dX1_cutBehind_68 rfl (lv_at hl 1 rfl) ?_
  refine lv_null B.1 B.2.1 dX1_cutBehind_69 ?_
  obtain ⟨a22, ea22, h⟩ := h
  have ka22 : kO σ21 a22 0 := (g2.up xσ21) a22 ea22
  have h := h ka22
  obtain ⟨σ23, eσ23⟩ : ∃ z, z = pP σ21 a22 1 none := ⟨_, rfl⟩
  have h := h σ23 eσ23
  refine W.eq (g2 := F0 m 70 ls [va_rf none, .ref a22]) (by rw [ea22]; rfl) ?_
  refine f_putp B hH ka22 (by decide) rfl wu_X0 tyX0 tyX0_ok nmX0 1 (by decide) wf_X1_9 rfl (r := none) (ty := .object "StreamHouse$Cell") rfl rfl rfl (nrO _ _) (ftO _ _) dX1_cutBehind_70 (fun H locs hH => ?_)
  have hH : Hd D cA A s (pP σ21 a22 1 none) H locs := hH
  rw [← eσ23] at hH
  have hGσ23 : RG σ23 := by rw [eσ23]; exact hGσ21.pP
  have hYσ23 : TY σ23 := by rw [eσ23]; exact hYσ21.pP ka22 (d := 0) (by decide) (tyn _ _)
  have xσ23 : Ext σ21 σ23 := by rw [eσ23]; exact Ext.pP
  have hc : CB n0 s0 σ23 := by rw [eσ23]; exact hc
  rw [show gc σ21 = gc σ23 by rw [eσ23]; try rfl, show gs σ21 = gs σ23 by rw [eσ23]; try rfl]
  refine lv_aload_nQ B.1 B.2.1 dX1_cutBehind_73 rfl (lv_at hl 1 rfl) ?_
  exact hQ _ _ _ _ _ _ (g2.up (xσ21.trans xσ23)) dX1_cutBehind_74 hH hc h hGσ23 hYσ23 ((hE.trans xσ21).trans xσ23)
set_option maxRecDepth 20000 in
theorem a_X1_cutBehind_53 {Q : Sg → Option Nat → Prop} {X : Sg → String → Prop} {th : Nat} (K : MD l R p s m args c cX1_cutBehind 3 RX1 D cA tys A n0 s0 0 0 []) (hQ : CQA p l e R s m args below meth c cX1_cutBehind D cA A n0 s0 QM σi 0 Q) (hX : CX p l e R s m args below meth c 3 D cA A n0 s0 QM σi X) (hTh : CT p l e R s m args below meth c cX1_cutBehind 3 D cA A n0 s0 QM σi RX1 X) : ∀ (σ : Sg) (v1 : Option Nat) (v2 : Option Nat) (g1 : tyV σ 0 v1) (g2 : tyV σ 0 v2), w_X1_cutBehind_53 th Q X σ v1 v2 → RG σ → TY σ → Ext σi σ → kO σ th 1 → JJ p l e R s m args below meth c 3 D cA A n0 s0 QM σ 53 [(0, .ref th), (1, va_rf v1), (2, va_rf v2)] [] := by
  intro σ v1 v2 g1 g2 h hGσ hYσ hE hth H locs ls hH hl hc
  have B := K.1
  have hl9 := K.2.2.2.2.2.2
  unfold w_X1_cutBehind_53 at h
  refine lv_aload_n B.1 B.2.1 dX1_cutBehind_53 rfl (lv_at hl 0 rfl) ?_
  refine lv_aload_nQ B.1 B.2.1 dX1_cutBehind_54 rfl (lv_at hl 1 rfl) ?_
  obtain ⟨σ24, eσ24⟩ : ∃ z, z = pP σ th 1 v1 := ⟨_, rfl⟩
  have h := h σ24 eσ24
  refine W.eq (g2 := F0 m 55 ls [va_rf v1, .ref th]) (rfl) ?_
  refine f_putp B hH hth (by decide) rfl wu_X1 tyX1 tyX1_ok nmX1 1 (by decide) wf_X1_15 rfl (r := v1) (ty := .object "StreamHouse$Cell") rfl rfl rfl (nrO _ _) (ftO _ _) dX1_cutBehind_55 (fun H locs hH => ?_)
  have hH : Hd D cA A s (pP σ th 1 v1) H locs := hH
  rw [← eσ24] at hH
  have hGσ24 : RG σ24 := by rw [eσ24]; exact hGσ.pP
  have hYσ24 : TY σ24 := by rw [eσ24]; exact hYσ.pP hth (d := 0) (by decide) g1
  have xσ24 : Ext σ σ24 := by rw [eσ24]; exact Ext.pP
  have hc : CB n0 s0 σ24 := by rw [eσ24]; exact hc
  rw [show gc σ = gc σ24 by rw [eσ24]; try rfl, show gs σ = gs σ24 by rw [eσ24]; try rfl]
  exact a_X1_cutBehind_58 K hQ hX hTh _ _ (g2.up xσ24) h hGσ24 hYσ24 (hE.trans xσ24) (hth.up xσ24) _ _ _ hH (lv_sub (l' := [(0, .ref th), (2, va_rf v2)]) hl [0, 2] rfl) hc
set_option maxRecDepth 20000 in
theorem a_X1_cutBehind_45 {Q : Sg → Option Nat → Prop} {X : Sg → String → Prop} {th : Nat} (K : MD l R p s m args c cX1_cutBehind 3 RX1 D cA tys A n0 s0 0 0 []) (hQ : CQA p l e R s m args below meth c cX1_cutBehind D cA A n0 s0 QM σi 0 Q) (hX : CX p l e R s m args below meth c 3 D cA A n0 s0 QM σi X) (hTh : CT p l e R s m args below meth c cX1_cutBehind 3 D cA A n0 s0 QM σi RX1 X) : ∀ (σ : Sg) (v1 : Option Nat) (v2 : Option Nat) (g1 : tyV σ 0 v1) (g2 : tyV σ 0 v2), w_X1_cutBehind_45 th Q X σ v1 v2 → RG σ → TY σ → Ext σi σ → kO σ th 1 → JJ p l e R s m args below meth c 3 D cA A n0 s0 QM σ 45 [(0, .ref th), (1, va_rf v1), (2, va_rf v2)] [] := by
  intro σ v1 v2 g1 g2 h hGσ hYσ hE hth H locs ls hH hl hc
  have B := K.1
  have hl9 := K.2.2.2.2.2.2
  unfold w_X1_cutBehind_45 at h
  refine lv_aload_n B.1 B.2.1 dX1_cutBehind_45 rfl (lv_at hl 0 rfl) ?_
  refine f_getp B hH hth (by decide) rfl wu_X1 1 (by decide) wf_X1_15 rfl rfl dX1_cutBehind_46 ?_
  refine lv_aload_nQ B.1 B.2.1 dX1_cutBehind_49 rfl (lv_at hl 2 rfl) ?_
  refine W.eq (g2 := F0 m 50 ls [va_rf v2, va_rf (gP σ th 1)]) (rfl) ?_
  refine lv_acmp_ne (tgt := 58) B.1 B.2.1 dX1_cutBehind_50 (by decide) (fun h9 => ?_) (fun h9 => ?_)
  · rw [if_pos (h9)] at h
    exact a_X1_cutBehind_58 K hQ hX hTh _ _ g2 h hGσ hYσ hE hth _ _ _ hH (lv_sub (l' := [(0, .ref th), (2, va_rf v2)]) hl [0, 2] rfl) hc
  · rw [if_neg (fun q => q h9)] at h
    exact a_X1_cutBehind_53 K hQ hX hTh _ _ _ g1 g2 h hGσ hYσ hE hth _ _ _ hH (lv_sub (l' := [(0, .ref th), (1, va_rf v1), (2, va_rf v2)]) hl [0, 1, 2] rfl) hc
set_option maxRecDepth 20000 in
theorem a_X1_cutBehind_37 {Q : Sg → Option Nat → Prop} {X : Sg → String → Prop} {th : Nat} (K : MD l R p s m args c cX1_cutBehind 3 RX1 D cA tys A n0 s0 0 0 []) (hQ : CQA p l e R s m args below meth c cX1_cutBehind D cA A n0 s0 QM σi 0 Q) (hX : CX p l e R s m args below meth c 3 D cA A n0 s0 QM σi X) (hTh : CT p l e R s m args below meth c cX1_cutBehind 3 D cA A n0 s0 QM σi RX1 X) : ∀ (σ : Sg) (v1 : Option Nat) (v2 : Option Nat) (g1 : tyV σ 0 v1) (g2 : tyV σ 0 v2), w_X1_cutBehind_37 th Q X σ v1 v2 → RG σ → TY σ → Ext σi σ → kO σ th 1 → JJ p l e R s m args below meth c 3 D cA A n0 s0 QM σ 37 [(0, .ref th), (1, va_rf v1), (2, va_rf v2)] [] := by
  intro σ v1 v2 g1 g2 h hGσ hYσ hE hth H locs ls hH hl hc
  have B := K.1
  have hl9 := K.2.2.2.2.2.2
  unfold w_X1_cutBehind_37 at h
  refine lv_aload_nQ B.1 B.2.1 dX1_cutBehind_37 rfl (lv_at hl 1 rfl) ?_
  refine lv_aload_nQ B.1 B.2.1 dX1_cutBehind_38 rfl (lv_at hl 2 rfl) ?_
  obtain ⟨a25, ea25, h⟩ := h
  have ka25 : kO σ a25 0 := g2 a25 ea25
  have h := h ka25
  refine W.eq (g2 := F0 m 39 ls [.ref a25, va_rf v1]) (by rw [ea25]; rfl) ?_
  refine f_getp B hH ka25 (by decide) rfl wu_X0 1 (by decide) wf_X1_9 rfl rfl dX1_cutBehind_39 ?_
  obtain ⟨a26, ea26, h⟩ := h
  have ka26 : kO σ a26 0 := g1 a26 ea26
  have h := h ka26
  obtain ⟨σ27, eσ27⟩ : ∃ z, z = pP σ a26 1 (gP σ a25 1) := ⟨_, rfl⟩
  have h := h σ27 eσ27
  refine W.eq (g2 := F0 m 42 ls [va_rf (gP σ a25 1), .ref a26]) (by rw [ea26]; rfl) ?_
  refine f_putp B hH ka26 (by decide) rfl wu_X0 tyX0 tyX0_ok nmX0 1 (by decide) wf_X1_9 rfl (r := (gP σ a25 1)) (ty := .object "StreamHouse$Cell") rfl rfl rfl (nrO _ _) (ftO _ _) dX1_cutBehind_42 (fun H locs hH => ?_)
  have hH : Hd D cA A s (pP σ a26 1 (gP σ a25 1)) H locs := hH
  rw [← eσ27] at hH
  have hGσ27 : RG σ27 := by rw [eσ27]; exact hGσ.pP
  have hYσ27 : TY σ27 := by rw [eσ27]; exact hYσ.pP ka26 (d := 0) (by decide) (hYσ.get ka25 (by decide))
  have xσ27 : Ext σ σ27 := by rw [eσ27]; exact Ext.pP
  have hc : CB n0 s0 σ27 := by rw [eσ27]; exact hc
  rw [show gc σ = gc σ27 by rw [eσ27]; try rfl, show gs σ = gs σ27 by rw [eσ27]; try rfl]
  exact a_X1_cutBehind_45 K hQ hX hTh _ _ _ (g1.up xσ27) (g2.up xσ27) h hGσ27 hYσ27 (hE.trans xσ27) (hth.up xσ27) _ _ _ hH (lv_sub (l' := [(0, .ref th), (1, va_rf v1), (2, va_rf v2)]) hl [0, 1, 2] rfl) hc
set_option maxRecDepth 20000 in
theorem a_X1_cutBehind_26 {Q : Sg → Option Nat → Prop} {X : Sg → String → Prop} {th : Nat} (K : MD l R p s m args c cX1_cutBehind 3 RX1 D cA tys A n0 s0 0 0 []) (hQ : CQA p l e R s m args below meth c cX1_cutBehind D cA A n0 s0 QM σi 0 Q) (hX : CX p l e R s m args below meth c 3 D cA A n0 s0 QM σi X) (hTh : CT p l e R s m args below meth c cX1_cutBehind 3 D cA A n0 s0 QM σi RX1 X) : ∀ (σ : Sg) (v1 : Option Nat) (v2 : Option Nat) (g1 : tyV σ 0 v1) (g2 : tyV σ 0 v2), w_X1_cutBehind_26 th Q X σ v1 v2 → RG σ → TY σ → Ext σi σ → kO σ th 1 → JJ p l e R s m args below meth c 3 D cA A n0 s0 QM σ 26 [(0, .ref th), (1, va_rf v1), (2, va_rf v2)] [] := by
  intro σ v1 v2 g1 g2 h hGσ hYσ hE hth H locs ls hH hl hc
  have B := K.1
  have hl9 := K.2.2.2.2.2.2
  unfold w_X1_cutBehind_26 at h
  refine lv_aload_n B.1 B.2.1 dX1_cutBehind_26 rfl (lv_at hl 0 rfl) ?_
  refine lv_aload_nQ B.1 B.2.1 dX1_cutBehind_27 rfl (lv_at hl 2 rfl) ?_
  obtain ⟨a28, ea28, h⟩ := h
  have ka28 : kO σ a28 0 := g2 a28 ea28
  have h := h ka28
  refine W.eq (g2 := F0 m 28 ls [.ref a28, .ref th]) (by rw [ea28]; rfl) ?_
  refine f_getp B hH ka28 (by decide) rfl wu_X0 1 (by decide) wf_X1_9 rfl rfl dX1_cutBehind_28 ?_
  obtain ⟨σ29, eσ29⟩ : ∃ z, z = pP σ th 0 (gP σ a28 1) := ⟨_, rfl⟩
  have h := h σ29 eσ29
  refine W.eq (g2 := F0 m 31 ls [va_rf (gP σ a28 1), .ref th]) (rfl) ?_
  refine f_putp B hH hth (by decide) rfl wu_X1 tyX1 tyX1_ok nmX1 0 (by decide) wf_X1_20 rfl (r := (gP σ a28 1)) (ty := .object "StreamHouse$Cell") rfl rfl rfl (nrO _ _) (ftO _ _) dX1_cutBehind_31 (fun H locs hH => ?_)
  have hH : Hd D cA A s (pP σ th 0 (gP σ a28 1)) H locs := hH
  rw [← eσ29] at hH
  have hGσ29 : RG σ29 := by rw [eσ29]; exact hGσ.pP
  have hYσ29 : TY σ29 := by rw [eσ29]; exact hYσ.pP hth (d := 0) (by decide) (hYσ.get ka28 (by decide))
  have xσ29 : Ext σ σ29 := by rw [eσ29]; exact Ext.pP
  have hc : CB n0 s0 σ29 := by rw [eσ29]; exact hc
  rw [show gc σ = gc σ29 by rw [eσ29]; try rfl, show gs σ = gs σ29 by rw [eσ29]; try rfl]
  refine lv_goto (tgt := 45) B.1 B.2.1 dX1_cutBehind_34 (by decide) ?_
  exact a_X1_cutBehind_45 K hQ hX hTh _ _ _ (g1.up xσ29) (g2.up xσ29) h hGσ29 hYσ29 (hE.trans xσ29) (hth.up xσ29) _ _ _ hH (lv_sub (l' := [(0, .ref th), (1, va_rf v1), (2, va_rf v2)]) hl [0, 1, 2] rfl) hc
set_option maxRecDepth 20000 in
theorem a_X1_cutBehind_22 {Q : Sg → Option Nat → Prop} {X : Sg → String → Prop} {th : Nat} (K : MD l R p s m args c cX1_cutBehind 3 RX1 D cA tys A n0 s0 0 0 []) (hQ : CQA p l e R s m args below meth c cX1_cutBehind D cA A n0 s0 QM σi 0 Q) (hX : CX p l e R s m args below meth c 3 D cA A n0 s0 QM σi X) (hTh : CT p l e R s m args below meth c cX1_cutBehind 3 D cA A n0 s0 QM σi RX1 X) : ∀ (σ : Sg) (v1 : Option Nat) (v2 : Option Nat) (g1 : tyV σ 0 v1) (g2 : tyV σ 0 v2), w_X1_cutBehind_22 th Q X σ v1 v2 → RG σ → TY σ → Ext σi σ → kO σ th 1 → JJ p l e R s m args below meth c 3 D cA A n0 s0 QM σ 22 [(0, .ref th), (1, va_rf v1), (2, va_rf v2)] [] := by
  intro σ v1 v2 g1 g2 h hGσ hYσ hE hth H locs ls hH hl hc
  have B := K.1
  have hl9 := K.2.2.2.2.2.2
  unfold w_X1_cutBehind_22 at h
  refine lv_aload_nQ B.1 B.2.1 dX1_cutBehind_22 rfl (lv_at hl 1 rfl) ?_
  refine lv_ifnonnullQ (tgt := 37) B.1 B.2.1 dX1_cutBehind_23 (by decide) (fun h9 => ?_) (fun h9 => ?_)
  · rw [if_pos (h9)] at h
    exact a_X1_cutBehind_37 K hQ hX hTh _ _ _ g1 g2 h hGσ hYσ hE hth _ _ _ hH (lv_sub (l' := [(0, .ref th), (1, va_rf v1), (2, va_rf v2)]) hl [0, 1, 2] rfl) hc
  · rw [if_neg (h9)] at h
    exact a_X1_cutBehind_26 K hQ hX hTh _ _ _ g1 g2 h hGσ hYσ hE hth _ _ _ hH (lv_sub (l' := [(0, .ref th), (1, va_rf v1), (2, va_rf v2)]) hl [0, 1, 2] rfl) hc
set_option maxRecDepth 20000 in
theorem a_X1_cutBehind_20 {Q : Sg → Option Nat → Prop} {X : Sg → String → Prop} {th : Nat} (K : MD l R p s m args c cX1_cutBehind 3 RX1 D cA tys A n0 s0 0 0 []) (hQ : CQA p l e R s m args below meth c cX1_cutBehind D cA A n0 s0 QM σi 0 Q) (hX : CX p l e R s m args below meth c 3 D cA A n0 s0 QM σi X) (hTh : CT p l e R s m args below meth c cX1_cutBehind 3 D cA A n0 s0 QM σi RX1 X) : ∀ (σ : Sg), w_X1_cutBehind_20 th Q X σ → RG σ → TY σ → Ext σi σ → kO σ th 1 → JJ p l e R s m args below meth c 3 D cA A n0 s0 QM σ 20 [(0, .ref th)] [] := by
  intro σ h hGσ hYσ hE hth H locs ls hH hl hc
  have B := K.1
  have hl9 := K.2.2.2.2.2.2
  unfold w_X1_cutBehind_20 at h
  refine lv_null B.1 B.2.1 dX1_cutBehind_20 ?_
  refine W.eq (g2 := F0 m 21 ls [va_rf none]) (rfl) ?_
  exact hQ _ _ _ _ _ _ (tyn _ _) dX1_cutBehind_21 hH hc h hGσ hYσ hE
set_option maxRecDepth 20000 in
theorem a_X1_cutBehind_15 {Q : Sg → Option Nat → Prop} {X : Sg → String → Prop} {th : Nat} (K : MD l R p s m args c cX1_cutBehind 3 RX1 D cA tys A n0 s0 0 0 []) (hQ : CQA p l e R s m args below meth c cX1_cutBehind D cA A n0 s0 QM σi 0 Q) (hX : CX p l e R s m args below meth c 3 D cA A n0 s0 QM σi X) (hTh : CT p l e R s m args below meth c cX1_cutBehind 3 D cA A n0 s0 QM σi RX1 X) : ∀ (σ : Sg) (v1 : Option Nat) (u0 : Option Nat) (g1 : tyV σ 0 v1) (gu0 : tyV σ 0 u0), w_X1_cutBehind_15 th Q X σ v1 u0 → RG σ → TY σ → Ext σi σ → kO σ th 1 → JJ p l e R s m args below meth c 3 D cA A n0 s0 QM σ 15 [(0, .ref th), (1, va_rf v1)] [va_rf u0] := by
  intro σ v1 u0 g1 gu0 h hGσ hYσ hE hth H locs ls hH hl hc
  have B := K.1
  have hl9 := K.2.2.2.2.2.2
  unfold w_X1_cutBehind_15 at h
  refine lv_astore_nQ (lv' := [(2, va_rf u0), (0, .ref th), (1, va_rf v1)]) B.1 B.2.1 dX1_cutBehind_15 rfl hl (by decide) (by generalize v1 = w9; cases w9 <;> rfl) (fun ls hl => ?_)
  refine lv_aload_nQ B.1 B.2.1 dX1_cutBehind_16 rfl (lv_at hl 0 rfl) ?_
  refine lv_ifnonnullQ (tgt := 22) B.1 B.2.1 dX1_cutBehind_17 (by decide) (fun h9 => ?_) (fun h9 => ?_)
  · rw [if_pos (h9)] at h
    exact a_X1_cutBehind_22 K hQ hX hTh _ _ _ g1 gu0 h hGσ hYσ hE hth _ _ _ hH (lv_sub (l' := [(0, .ref th), (1, va_rf v1), (2, va_rf u0)]) hl [1, 2, 0] rfl) hc
  · rw [if_neg (h9)] at h
    exact a_X1_cutBehind_20 K hQ hX hTh _ h hGσ hYσ hE hth _ _ _ hH (lv_sub (l' := [(0, .ref th)]) hl [1] rfl) hc
set_option maxRecDepth 20000 in
theorem a_X1_cutBehind_11 {Q : Sg → Option Nat → Prop} {X : Sg → String → Prop} {th : Nat} (K : MD l R p s m args c cX1_cutBehind 3 RX1 D cA tys A n0 s0 0 0 []) (hQ : CQA p l e R s m args below meth c cX1_cutBehind D cA A n0 s0 QM σi 0 Q) (hX : CX p l e R s m args below meth c 3 D cA A n0 s0 QM σi X) (hTh : CT p l e R s m args below meth c cX1_cutBehind 3 D cA A n0 s0 QM σi RX1 X) : ∀ (σ : Sg) (v1 : Option Nat) (g1 : tyV σ 0 v1), w_X1_cutBehind_11 th Q X σ v1 → RG σ → TY σ → Ext σi σ → kO σ th 1 → JJ p l e R s m args below meth c 3 D cA A n0 s0 QM σ 11 [(0, .ref th), (1, va_rf v1)] [] := by
  intro σ v1 g1 h hGσ hYσ hE hth H locs ls hH hl hc
  have B := K.1
  have hl9 := K.2.2.2.2.2.2
  unfold w_X1_cutBehind_11 at h
  refine lv_aload_nQ B.1 B.2.1 dX1_cutBehind_11 rfl (lv_at hl 1 rfl) ?_
  obtain ⟨a30, ea30, h⟩ := h
  have ka30 : kO σ a30 0 := g1 a30 ea30
  have h := h ka30
  refine W.eq (g2 := F0 m 12 ls [.ref a30]) (by rw [ea30]; rfl) ?_
  refine f_getp B hH ka30 (by decide) rfl wu_X0 1 (by decide) wf_X1_9 rfl rfl dX1_cutBehind_12 ?_
  exact a_X1_cutBehind_15 K hQ hX hTh _ _ _ g1 (hYσ.get ka30 (by decide)) h hGσ hYσ hE hth _ _ _ hH (lv_sub (l' := [(0, .ref th), (1, va_rf v1)]) hl [0, 1] rfl) hc
set_option maxRecDepth 20000 in
theorem a_X1_cutBehind_4 {Q : Sg → Option Nat → Prop} {X : Sg → String → Prop} {th : Nat} (K : MD l R p s m args c cX1_cutBehind 3 RX1 D cA tys A n0 s0 0 0 []) (hQ : CQA p l e R s m args below meth c cX1_cutBehind D cA A n0 s0 QM σi 0 Q) (hX : CX p l e R s m args below meth c 3 D cA A n0 s0 QM σi X) (hTh : CT p l e R s m args below meth c cX1_cutBehind 3 D cA A n0 s0 QM σi RX1 X) : ∀ (σ : Sg) (v1 : Option Nat) (g1 : tyV σ 0 v1), w_X1_cutBehind_4 th Q X σ v1 → RG σ → TY σ → Ext σi σ → kO σ th 1 → JJ p l e R s m args below meth c 3 D cA A n0 s0 QM σ 4 [(0, .ref th), (1, va_rf v1)] [] := by
  intro σ v1 g1 h hGσ hYσ hE hth H locs ls hH hl hc
  have B := K.1
  have hl9 := K.2.2.2.2.2.2
  unfold w_X1_cutBehind_4 at h
  refine lv_aload_n B.1 B.2.1 dX1_cutBehind_4 rfl (lv_at hl 0 rfl) ?_
  refine f_getp B hH hth (by decide) rfl wu_X1 0 (by decide) wf_X1_20 rfl rfl dX1_cutBehind_5 ?_
  refine lv_goto (tgt := 15) B.1 B.2.1 dX1_cutBehind_8 (by decide) ?_
  exact a_X1_cutBehind_15 K hQ hX hTh _ _ _ g1 (hYσ.get hth (by decide)) h hGσ hYσ hE hth _ _ _ hH (lv_sub (l' := [(0, .ref th), (1, va_rf v1)]) hl [0, 1] rfl) hc
set_option maxRecDepth 20000 in
theorem a_X1_cutBehind_0 {Q : Sg → Option Nat → Prop} {X : Sg → String → Prop} {th : Nat} (K : MD l R p s m args c cX1_cutBehind 3 RX1 D cA tys A n0 s0 0 0 []) (hQ : CQA p l e R s m args below meth c cX1_cutBehind D cA A n0 s0 QM σi 0 Q) (hX : CX p l e R s m args below meth c 3 D cA A n0 s0 QM σi X) (hTh : CT p l e R s m args below meth c cX1_cutBehind 3 D cA A n0 s0 QM σi RX1 X) : ∀ (σ : Sg) (v1 : Option Nat) (g1 : tyV σ 0 v1), w_X1_cutBehind_0 th Q X σ v1 → RG σ → TY σ → Ext σi σ → kO σ th 1 → JJ p l e R s m args below meth c 3 D cA A n0 s0 QM σ 0 [(0, .ref th), (1, va_rf v1)] [] := by
  intro σ v1 g1 h hGσ hYσ hE hth H locs ls hH hl hc
  have B := K.1
  have hl9 := K.2.2.2.2.2.2
  unfold w_X1_cutBehind_0 at h
  refine lv_aload_nQ B.1 B.2.1 dX1_cutBehind_0 rfl (lv_at hl 1 rfl) ?_
  refine lv_ifnonnullQ (tgt := 11) B.1 B.2.1 dX1_cutBehind_1 (by decide) (fun h9 => ?_) (fun h9 => ?_)
  · rw [if_pos (h9)] at h
    exact a_X1_cutBehind_11 K hQ hX hTh _ _ g1 h hGσ hYσ hE hth _ _ _ hH (lv_sub (l' := [(0, .ref th), (1, va_rf v1)]) hl [0, 1] rfl) hc
  · rw [if_neg (h9)] at h
    exact a_X1_cutBehind_4 K hQ hX hTh _ _ g1 h hGσ hYσ hE hth _ _ _ hH (lv_sub (l' := [(0, .ref th), (1, va_rf v1)]) hl [0, 1] rfl) hc
theorem ok_X1_cutBehind (hl0 : l.stackTraces = false) (hT : TyC cA tys) {Q : Sg → Option Nat → Prop} {X : Sg → String → Prop} (σ : Sg) (th : Nat) (v1 : Option Nat) (g1 : tyV σ 0 v1) (hth : kO σ th 1) (hG : RG σ) (hY : TY σ) (h : wp_X1_cutBehind th v1 σ Q X) : Ok l D cA tys A yX1_cutBehind (.code yX1_cutBehind cX1_cutBehind 3 (some (.object "StreamHouse$Cell"))) 0 0 [.ref th, va_rf v1] σ (QcA σ 0 Q) (QxC σ X) := by
  unfold wp_X1_cutBehind at h
  exact oc_A hl0 (by decide) (by cases v1 <;> exact Nat.le_of_ble_eq_true rfl) hT (fun p e R s m args below meth c K hQ hX hTh H locs ls hH hl hc => a_X1_cutBehind_0 K hQ hX hTh σ v1 g1 h hG hY (Ext.rfl' σ) hth H locs ls hH (lv_sub (l' := [(0, .ref th), (1, va_rf v1)]) hl [0, 1] (by cases v1 <;> rfl)) hc)
theorem dX8_newSet_0 : decode cX8_newSet 0 = .ok (.aload_n 0, 1) := by decide +kernel
theorem dX8_newSet_1 : decode cX8_newSet 1 = .ok (.getfield 81, 3) := by decide +kernel
theorem dX8_newSet_4 : decode cX8_newSet 4 = .ok (.sipush 30000, 3) := by decide +kernel
theorem dX8_newSet_7 : decode cX8_newSet 7 = .ok (.if_icmp .lt 11, 3) := by decide +kernel
theorem dX8_newSet_10 : decode cX8_newSet 10 = .ok (.new 84, 3) := by decide +kernel
theorem dX8_newSet_13 : decode cX8_newSet 13 = .ok (.dup, 1) := by decide +kernel
theorem dX8_newSet_14 : decode cX8_newSet 14 = .ok (.invokespecial 86, 3) := by decide +kernel
theorem dX8_newSet_17 : decode cX8_newSet 17 = .ok (.athrow, 1) := by decide +kernel
theorem dX8_newSet_18 : decode cX8_newSet 18 = .ok (.aload_n 0, 1) := by decide +kernel
theorem dX8_newSet_19 : decode cX8_newSet 19 = .ok (.getfield 81, 3) := by decide +kernel
theorem dX8_newSet_22 : decode cX8_newSet 22 = .ok (.iconst 4, 1) := by decide +kernel
theorem dX8_newSet_23 : decode cX8_newSet 23 = .ok (.imul, 1) := by decide +kernel
theorem dX8_newSet_24 : decode cX8_newSet 24 = .ok (.istore_n 1, 1) := by decide +kernel
theorem dX8_newSet_25 : decode cX8_newSet 25 = .ok (.iload_n 1, 1) := by decide +kernel
theorem dX8_newSet_26 : decode cX8_newSet 26 = .ok (.iconst 4, 1) := by decide +kernel
theorem dX8_newSet_27 : decode cX8_newSet 27 = .ok (.iadd, 1) := by decide +kernel
theorem dX8_newSet_28 : decode cX8_newSet 28 = .ok (.aload_n 0, 1) := by decide +kernel
theorem dX8_newSet_29 : decode cX8_newSet 29 = .ok (.getfield 11, 3) := by decide +kernel
theorem dX8_newSet_32 : decode cX8_newSet 32 = .ok (.arraylength, 1) := by decide +kernel
theorem dX8_newSet_33 : decode cX8_newSet 33 = .ok (.if_icmp .le 21, 3) := by decide +kernel
theorem dX8_newSet_36 : decode cX8_newSet 36 = .ok (.aload_n 0, 1) := by decide +kernel
theorem dX8_newSet_37 : decode cX8_newSet 37 = .ok (.aload_n 0, 1) := by decide +kernel
theorem dX8_newSet_38 : decode cX8_newSet 38 = .ok (.getfield 11, 3) := by decide +kernel
theorem dX8_newSet_41 : decode cX8_newSet 41 = .ok (.iconst 2, 1) := by decide +kernel
theorem dX8_newSet_42 : decode cX8_newSet 42 = .ok (.aload_n 0, 1) := by decide +kernel
theorem dX8_newSet_43 : decode cX8_newSet 43 = .ok (.getfield 11, 3) := by decide +kernel
theorem dX8_newSet_46 : decode cX8_newSet 46 = .ok (.arraylength, 1) := by decide +kernel
theorem dX8_newSet_47 : decode cX8_newSet 47 = .ok (.imul, 1) := by decide +kernel
theorem dX8_newSet_48 : decode cX8_newSet 48 = .ok (.invokestatic 87, 3) := by decide +kernel
theorem dX8_newSet_51 : decode cX8_newSet 51 = .ok (.putfield 11, 3) := by decide +kernel
theorem dX8_newSet_54 : decode cX8_newSet 54 = .ok (.iconst 0, 1) := by decide +kernel
theorem dX8_newSet_55 : decode cX8_newSet 55 = .ok (.istore_n 2, 1) := by decide +kernel
theorem dX8_newSet_56 : decode cX8_newSet 56 = .ok (.iload_n 2, 1) := by decide +kernel
theorem dX8_newSet_57 : decode cX8_newSet 57 = .ok (.iconst 4, 1) := by decide +kernel
theorem dX8_newSet_58 : decode cX8_newSet 58 = .ok (.if_icmp .ge 18, 3) := by decide +kernel
theorem dX8_newSet_61 : decode cX8_newSet 61 = .ok (.aload_n 0, 1) := by decide +kernel
theorem dX8_newSet_62 : decode cX8_newSet 62 = .ok (.getfield 11, 3) := by decide +kernel
theorem dX8_newSet_65 : decode cX8_newSet 65 = .ok (.iload_n 1, 1) := by decide +kernel
theorem dX8_newSet_66 : decode cX8_newSet 66 = .ok (.iload_n 2, 1) := by decide +kernel
theorem dX8_newSet_67 : decode cX8_newSet 67 = .ok (.iadd, 1) := by decide +kernel
theorem dX8_newSet_68 : decode cX8_newSet 68 = .ok (.lconst 0, 1) := by decide +kernel
theorem dX8_newSet_69 : decode cX8_newSet 69 = .ok (.lastore, 1) := by decide +kernel
theorem dX8_newSet_70 : decode cX8_newSet 70 = .ok (.iinc 2 1, 3) := by decide +kernel
theorem dX8_newSet_73 : decode cX8_newSet 73 = .ok (.goto (-17), 3) := by decide +kernel
theorem dX8_newSet_76 : decode cX8_newSet 76 = .ok (.aload_n 0, 1) := by decide +kernel
theorem dX8_newSet_77 : decode cX8_newSet 77 = .ok (.dup, 1) := by decide +kernel
theorem dX8_newSet_78 : decode cX8_newSet 78 = .ok (.getfield 81, 3) := by decide +kernel
theorem dX8_newSet_81 : decode cX8_newSet 81 = .ok (.iconst 1, 1) := by decide +kernel
theorem dX8_newSet_82 : decode cX8_newSet 82 = .ok (.iadd, 1) := by decide +kernel
theorem dX8_newSet_83 : decode cX8_newSet 83 = .ok (.putfield 81, 3) := by decide +kernel
theorem dX8_newSet_86 : decode cX8_newSet 86 = .ok (.aload_n 0, 1) := by decide +kernel
theorem dX8_newSet_87 : decode cX8_newSet 87 = .ok (.getfield 81, 3) := by decide +kernel
theorem dX8_newSet_90 : decode cX8_newSet 90 = .ok (.iconst 1, 1) := by decide +kernel
theorem dX8_newSet_91 : decode cX8_newSet 91 = .ok (.isub, 1) := by decide +kernel
theorem dX8_newSet_92 : decode cX8_newSet 92 = .ok (.ireturn, 1) := by decide +kernel
set_option maxRecDepth 20000 in
theorem a_X8_newSet_76 {Q : Sg → Int → Prop} {X : Sg → String → Prop} {th : Nat} (K : MD l R p s m args c cX8_newSet 3 RX8 D cA tys A n0 s0 6 90 []) (hQ : CQI p l e R s m args below meth c cX8_newSet D cA A n0 s0 QM σi Q) (hX : CX p l e R s m args below meth c 3 D cA A n0 s0 QM σi X) (hTh : CT p l e R s m args below meth c cX8_newSet 3 D cA A n0 s0 QM σi RX8 X) : ∀ (σ : Sg), w_X8_newSet_76 th Q X σ → RG σ → TY σ → Ext σi σ → kO σ th 8 → JJ p l e R s m args below meth c 3 D cA A n0 s0 QM σ 76 [(0, .ref th)] [] := by
  intro σ h hGσ hYσ hE hth H locs ls hH hl hc
  have B := K.1
  have hl9 := K.2.2.2.2.2.2
  unfold w_X8_newSet_76 at h
  refine lv_aload_n B.1 B.2.1 dX8_newSet_76 rfl (lv_at hl 0 rfl) ?_
  refine lv_dup B.1 B.2.1 dX8_newSet_77 rfl ?_
  refine f_geti B hH hth (by decide) rfl wu_X8 1 (by decide) wf_X8_81 rfl rfl dX8_newSet_78 ?_
  refine lv_iconst (v := i32 1) B.1 B.2.1 dX8_newSet_81 (by decide) ?_
  obtain ⟨q1, h⟩ := h
  refine lv_iadd B.1 B.2.1 dX8_newSet_82 ?_
  rw [i32_add]
  obtain ⟨σ17, eσ17⟩ : ∃ z, z = pI σ th 1 (gI σ th 1 + 1) := ⟨_, rfl⟩
  have h := h σ17 eσ17
  refine f_puti B hH hth (by decide) rfl wu_X8 tyX8 tyX8_ok nmX8 1 (by decide) wf_X8_81 rfl (ty := .int) rfl rfl rfl rfl rfl dX8_newSet_83 (fun H locs hH => ?_)
  have hH : Hd D cA A s (pI σ th 1 (gI σ th 1 + 1)) H locs := hH
  rw [← eσ17] at hH
  have hGσ17 : RG σ17 := by rw [eσ17]; exact hGσ.pI q1
  have hYσ17 : TY σ17 := by rw [eσ17]; exact hYσ.pI
  have xσ17 : Ext σ σ17 := by rw [eσ17]; exact Ext.pI
  have hc : CB n0 s0 σ17 := by rw [eσ17]; exact hc
  rw [show gc σ = gc σ17 by rw [eσ17]; try rfl, show gs σ = gs σ17 by rw [eσ17]; try rfl]
  refine lv_aload_n B.1 B.2.1 dX8_newSet_86 rfl (lv_at hl 0 rfl) ?_
  refine f_geti B hH (hth.up xσ17) (by decide) rfl wu_X8 1 (by decide) wf_X8_81 rfl rfl dX8_newSet_87 ?_
  refine lv_iconst (v := i32 1) B.1 B.2.1 dX8_newSet_90 (by decide) ?_
  obtain ⟨q2, h⟩ := h
  refine lv_isub B.1 B.2.1 dX8_newSet_91 ?_
  rw [i32_sub]
  exact hQ _ _ _ _ _ _ q2 dX8_newSet_92 hH hc h hGσ17 hYσ17 (hE.trans xσ17)
set_option maxRecDepth 20000 in
theorem a_X8_newSet_61 {Q : Sg → Int → Prop} {X : Sg → String → Prop} {th : Nat} (K : MD l R p s m args c cX8_newSet 3 RX8 D cA tys A n0 s0 6 90 []) (hQ : CQI p l e R s m args below meth c cX8_newSet D cA A n0 s0 QM σi Q) (hX : CX p l e R s m args below meth c 3 D cA A n0 s0 QM σi X) (hTh : CT p l e R s m args below meth c cX8_newSet 3 D cA A n0 s0 QM σi RX8 X) {K56 : Sg → Int → Int → Prop} (hK56 : ∀ (σ : Sg) (v1 : Int) (v2 : Int) (g1 : rng v1) (g2 : rng v2), K56 σ v1 v2 → RG σ → TY σ → Ext σi σ → kO σ th 8 → JJ p l e R s m args below meth c 3 D cA A n0 s0 QM σ 56 [(0, .ref th), (1, .int (i32 v1)), (2, .int (i32 v2))] []) : ∀ (σ : Sg) (v1 : Int) (v2 : Int) (g1 : rng v1) (g2 : rng v2), w_X8_newSet_61 th K56 Q X σ v1 v2 → RG σ → TY σ → Ext σi σ → kO σ th 8 → JJ p l e R s m args below meth c 3 D cA A n0 s0 QM σ 61 [(0, .ref th), (1, .int (i32 v1)), (2, .int (i32 v2))] [] := by
  intro σ v1 v2 g1 g2 h hGσ hYσ hE hth H locs ls hH hl hc
  have B := K.1
  have hl9 := K.2.2.2.2.2.2
  unfold w_X8_newSet_61 at h
  refine lv_aload_n B.1 B.2.1 dX8_newSet_61 rfl (lv_at hl 0 rfl) ?_
  refine f_getp B hH hth (by decide) rfl wu_X8 2 (by decide) wf_X8_11 rfl rfl dX8_newSet_62 ?_
  refine lv_iload_n B.1 B.2.1 dX8_newSet_65 rfl (lv_at hl 1 rfl) ?_
  refine lv_iload_n B.1 B.2.1 dX8_newSet_66 rfl (lv_at hl 2 rfl) ?_
  obtain ⟨q1, h⟩ := h
  refine lv_iadd B.1 B.2.1 dX8_newSet_67 ?_
  rw [i32_add]
  refine lv_lconst (v := 0) B.1 B.2.1 dX8_newSet_68 (by decide) ?_
  obtain ⟨a18, ea18, h⟩ := h
  have ka18 : kO σ a18 101 := (hYσ.get hth (by decide)) a18 ea18
  have h := h ka18
  obtain ⟨q2, h⟩ := h
  obtain ⟨σ19, eσ19⟩ : ∃ z, z = pJ σ a18 (v1 + v2).toNat 0 := ⟨_, rfl⟩
  have h := h σ19 eσ19
  refine W.eq (g2 := F0 m 69 ls [.long 0, .int (i32 (v1 + v2)), .ref a18]) (by rw [ea18]; rfl) ?_
  refine y_last B K.2.1 hH ka18 q2 dX8_newSet_69 (hYσ.2 _) (fun H locs hH => ?_)
  have hH : Hd D cA A s (pJ σ a18 (v1 + v2).toNat 0) H locs := hH
  rw [← eσ19] at hH
  have hGσ19 : RG σ19 := by rw [eσ19]; exact hGσ.pJ
  have hYσ19 : TY σ19 := by rw [eσ19]; exact hYσ.pJ
  have xσ19 : Ext σ σ19 := by rw [eσ19]; exact Ext.pJ
  have hc : CB n0 s0 σ19 := by rw [eσ19]; exact hc
  rw [show gc σ = gc σ19 by rw [eσ19]; try rfl, show gs σ = gs σ19 by rw [eσ19]; try rfl]
  obtain ⟨q3, h⟩ := h
  refine lv_iinc (k := 2) (v := i32 (v2 + 1)) (lv' := [(2, .int (i32 (v2 + 1))), (0, .ref th), (1, .int (i32 v1))]) B.1 B.2.1 dX8_newSet_70 hl rfl (i32_add _ _) (by decide) rfl (fun ls hl => ?_)
  refine lv_goto (tgt := 56) B.1 B.2.1 dX8_newSet_73 (by decide) ?_
  exact hK56 _ _ _ g1 q3 h hGσ19 hYσ19 (hE.trans xσ19) (hth.up xσ19) _ _ _ hH (lv_sub (l' := [(0, .ref th), (1, .int (i32 v1)), (2, .int (i32 (v2 + 1)))]) hl [1, 2, 0] rfl) hc
set_option maxRecDepth 20000 in
theorem a_X8_newSet_56 {Q : Sg → Int → Prop} {X : Sg → String → Prop} {th : Nat} (K : MD l R p s m args c cX8_newSet 3 RX8 D cA tys A n0 s0 6 90 []) (hQ : CQI p l e R s m args below meth c cX8_newSet D cA A n0 s0 QM σi Q) (hX : CX p l e R s m args below meth c 3 D cA A n0 s0 QM σi X) (hTh : CT p l e R s m args below meth c cX8_newSet 3 D cA A n0 s0 QM σi RX8 X) {K56 : Sg → Int → Int → Prop} (hK56 : ∀ (σ : Sg) (v1 : Int) (v2 : Int) (g1 : rng v1) (g2 : rng v2), K56 σ v1 v2 → RG σ → TY σ → Ext σi σ → kO σ th 8 → JJ p l e R s m args below meth c 3 D cA A n0 s0 QM σ 56 [(0, .ref th), (1, .int (i32 v1)), (2, .int (i32 v2))] []) : ∀ (σ : Sg) (v1 : Int) (v2 : Int) (g1 : rng v1) (g2 : rng v2), w_X8_newSet_56 th K56 Q X σ v1 v2 → RG σ → TY σ → Ext σi σ → kO σ th 8 → JJ p l e R s m args below meth c 3 D cA A n0 s0 QM σ 56 [(0, .ref th), (1, .int (i32 v1)), (2, .int (i32 v2))] [] := by
  intro σ v1 v2 g1 g2 h hGσ hYσ hE hth H locs ls hH hl hc
  have B := K.1
  have hl9 := K.2.2.2.2.2.2
  unfold w_X8_newSet_56 at h
  refine lv_iload_n B.1 B.2.1 dX8_newSet_56 rfl (lv_at hl 2 rfl) ?_
  refine lv_iconst (v := i32 4) B.1 B.2.1 dX8_newSet_57 (by decide) ?_
  refine lv_icmp_ge (tgt := 76) B.1 B.2.1 dX8_newSet_58 (by decide) (fun h9 => ?_) (fun h9 => ?_)
  · rw [if_pos ((i32_le (by unfold rng; omega) g2).mp h9)] at h
    exact a_X8_newSet_76 K hQ hX hTh _ h hGσ hYσ hE hth _ _ _ hH (lv_sub (l' := [(0, .ref th)]) hl [0] rfl) hc
  · rw [if_neg (fun q => h9 ((i32_le (by unfold rng; omega) g2).mpr q))] at h
    exact a_X8_newSet_61 K hQ hX hTh hK56 _ _ _ g1 g2 h hGσ hYσ hE hth _ _ _ hH (lv_sub (l' := [(0, .ref th), (1, .int (i32 v1)), (2, .int (i32 v2))]) hl [0, 1, 2] rfl) hc
theorem al_X8_newSet_56 {Q : Sg → Int → Prop} {X : Sg → String → Prop} {th : Nat} (K : MD l R p s m args c cX8_newSet 3 RX8 D cA tys A n0 s0 6 90 []) (hQ : CQI p l e R s m args below meth c cX8_newSet D cA A n0 s0 QM σi Q) (hX : CX p l e R s m args below meth c 3 D cA A n0 s0 QM σi X) (hTh : CT p l e R s m args below meth c cX8_newSet 3 D cA A n0 s0 QM σi RX8 X) : ∀ (n : Nat), ∀ (σ : Sg) (v1 : Int) (v2 : Int) (g1 : rng v1) (g2 : rng v2), wl_X8_newSet_56 th Q X n σ v1 v2 → RG σ → TY σ → Ext σi σ → kO σ th 8 → JJ p l e R s m args below meth c 3 D cA A n0 s0 QM σ 56 [(0, .ref th), (1, .int (i32 v1)), (2, .int (i32 v2))] [] := by
  intro n
  induction n with
  | zero => intro σ v1 v2 g1 g2 h; exact h.elim
  | succ n ih => exact fun σ v1 v2 g1 g2 h => a_X8_newSet_56 K hQ hX hTh ih σ v1 v2 g1 g2 h
set_option maxRecDepth 20000 in
theorem a_X8_newSet_54 {Q : Sg → Int → Prop} {X : Sg → String → Prop} {th : Nat} (K : MD l R p s m args c cX8_newSet 3 RX8 D cA tys A n0 s0 6 90 []) (hQ : CQI p l e R s m args below meth c cX8_newSet D cA A n0 s0 QM σi Q) (hX : CX p l e R s m args below meth c 3 D cA A n0 s0 QM σi X) (hTh : CT p l e R s m args below meth c cX8_newSet 3 D cA A n0 s0 QM σi RX8 X) : ∀ (σ : Sg) (v1 : Int) (g1 : rng v1), w_X8_newSet_54 th Q X σ v1 → RG σ → TY σ → Ext σi σ → kO σ th 8 → JJ p l e R s m args below meth c 3 D cA A n0 s0 QM σ 54 [(0, .ref th), (1, .int (i32 v1))] [] := by
  intro σ v1 g1 h hGσ hYσ hE hth H locs ls hH hl hc
  have B := K.1
  have hl9 := K.2.2.2.2.2.2
  unfold w_X8_newSet_54 at h
  refine lv_iconst (v := i32 0) B.1 B.2.1 dX8_newSet_54 (by decide) ?_
  refine lv_istore_n (lv' := [(2, .int (i32 0)), (0, .ref th), (1, .int (i32 v1))]) B.1 B.2.1 dX8_newSet_55 rfl hl (by decide) rfl (fun ls hl => ?_)
  obtain ⟨n9, h⟩ := h
  exact al_X8_newSet_56 K hQ hX hTh n9 _ _ _ g1 (by unfold rng; omega) h hGσ hYσ hE hth _ _ _ hH (lv_sub (l' := [(0, .ref th), (1, .int (i32 v1)), (2, .int (i32 0))]) hl [1, 2, 0] rfl) hc
set_option maxRecDepth 20000 in
theorem a_X8_newSet_36 {Q : Sg → Int → Prop} {X : Sg → String → Prop} {th : Nat} (K : MD l R p s m args c cX8_newSet 3 RX8 D cA tys A n0 s0 6 90 []) (hQ : CQI p l e R s m args below meth c cX8_newSet D cA A n0 s0 QM σi Q) (hX : CX p l e R s m args below meth c 3 D cA A n0 s0 QM σi X) (hTh : CT p l e R s m args below meth c cX8_newSet 3 D cA A n0 s0 QM σi RX8 X) : ∀ (σ : Sg) (v1 : Int) (g1 : rng v1), w_X8_newSet_36 th Q X σ v1 → RG σ → TY σ → Ext σi σ → kO σ th 8 → JJ p l e R s m args below meth c 3 D cA A n0 s0 QM σ 36 [(0, .ref th), (1, .int (i32 v1))] [] := by
  intro σ v1 g1 h hGσ hYσ hE hth H locs ls hH hl hc
  have B := K.1
  have hl9 := K.2.2.2.2.2.2
  unfold w_X8_newSet_36 at h
  refine lv_aload_n B.1 B.2.1 dX8_newSet_36 rfl (lv_at hl 0 rfl) ?_
  refine lv_aload_n B.1 B.2.1 dX8_newSet_37 rfl (lv_at hl 0 rfl) ?_
  refine f_getp B hH hth (by decide) rfl wu_X8 2 (by decide) wf_X8_11 rfl rfl dX8_newSet_38 ?_
  refine lv_iconst (v := i32 2) B.1 B.2.1 dX8_newSet_41 (by decide) ?_
  refine lv_aload_n B.1 B.2.1 dX8_newSet_42 rfl (lv_at hl 0 rfl) ?_
  refine f_getp B hH hth (by decide) rfl wu_X8 2 (by decide) wf_X8_11 rfl rfl dX8_newSet_43 ?_
  obtain ⟨a20, ea20, h⟩ := h
  have ka20 : kO σ a20 101 := (hYσ.get hth (by decide)) a20 ea20
  have h := h ka20
  refine W.eq (g2 := F0 m 46 ls [.ref a20, .int (i32 2), va_rf (gP σ th 2), .ref th]) (by rw [ea20]; rfl) ?_
  refine h_alen B hH ka20.1 (by decide) ka20.2 1 K.2.1.1.2.1 dX8_newSet_46 ?_
  obtain ⟨q1, h⟩ := h
  refine lv_imul B.1 B.2.1 dX8_newSet_47 ?_
  rw [i32_mul]
  refine W.eq (g2 := F0 m 48 ls [.int (i32 (2 * (gn σ a20 : Int))), va_rf (gP σ th 2), .ref th]) (rfl) ?_
  refine c_S B hH hl hc K.2.2.1 (As := [va_rf (gP σ th 2), .int (i32 (2 * (gn σ a20 : Int)))]) (okC_J7_copyOf_c38d5 hl9 K.2.1 σ (gP σ th 2) (2 * (gn σ a20 : Int)) (hYσ.get hth (by decide)) q1 hGσ hYσ h) wc_X8_87 2 hdC_J7_copyOf_c38d5 ⟨Nat.le_trans (Nat.le_of_ble_eq_true rfl) K.2.2.2.1, Nat.le_trans (Nat.le_of_ble_eq_true rfl) K.2.2.2.2.1⟩ rfl (rest := [.ref th]) rfl (Nat.le_of_ble_eq_true rfl) dX8_newSet_48 (fun σ21 w hq => ?_) (fun σ9 E9 hx9 => hX σ9 E9 _ _ _ (tb_out K.2.2.2.2.2.1 rfl) hx9.1 hx9.2.1 hx9.2.2.1 (hE.trans hx9.2.2.2))
  obtain ⟨r22, rfl, tr22, h, hGσ21, hYσ21, xσ21⟩ := hq
  have h := h xσ21 tr22
  intro H locs ls hH hl hc
  refine W.eq (g2 := F0 m 51 ls [va_rf r22, .ref th]) (rfl) ?_
  try dsimp only at h
  obtain ⟨σ23, eσ23⟩ : ∃ z, z = pP σ21 th 2 r22 := ⟨_, rfl⟩
  have h := h σ23 eσ23
  refine W.eq (g2 := F0 m 51 ls [va_rf r22, .ref th]) (rfl) ?_
  refine f_putp B hH (hth.up xσ21) (by decide) rfl wu_X8 tyX8 tyX8_ok nmX8 2 (by decide) wf_X8_11 rfl (r := r22) (ty := .array .long) rfl rfl rfl (nrA _ _) (ftA _ _) dX8_newSet_51 (fun H locs hH => ?_)
  have hH : Hd D cA A s (pP σ21 th 2 r22) H locs := hH
  rw [← eσ23] at hH
  have hGσ23 : RG σ23 := by rw [eσ23]; exact hGσ21.pP
  have hYσ23 : TY σ23 := by rw [eσ23]; exact hYσ21.pP (hth.up xσ21) (d := 101) (by decide) tr22
  have xσ23 : Ext σ21 σ23 := by rw [eσ23]; exact Ext.pP
  have hc : CB n0 s0 σ23 := by rw [eσ23]; exact hc
  rw [show gc σ21 = gc σ23 by rw [eσ23]; try rfl, show gs σ21 = gs σ23 by rw [eσ23]; try rfl]
  exact a_X8_newSet_54 K hQ hX hTh _ _ g1 h hGσ23 hYσ23 ((hE.trans xσ21).trans xσ23) (hth.up (xσ21.trans xσ23)) _ _ _ hH (lv_sub (l' := [(0, .ref th), (1, .int (i32 v1))]) hl [0, 1] rfl) hc
set_option maxRecDepth 20000 in
theorem a_X8_newSet_18 {Q : Sg → Int → Prop} {X : Sg → String → Prop} {th : Nat} (K : MD l R p s m args c cX8_newSet 3 RX8 D cA tys A n0 s0 6 90 []) (hQ : CQI p l e R s m args below meth c cX8_newSet D cA A n0 s0 QM σi Q) (hX : CX p l e R s m args below meth c 3 D cA A n0 s0 QM σi X) (hTh : CT p l e R s m args below meth c cX8_newSet 3 D cA A n0 s0 QM σi RX8 X) : ∀ (σ : Sg), w_X8_newSet_18 th Q X σ → RG σ → TY σ → Ext σi σ → kO σ th 8 → JJ p l e R s m args below meth c 3 D cA A n0 s0 QM σ 18 [(0, .ref th)] [] := by
  intro σ h hGσ hYσ hE hth H locs ls hH hl hc
  have B := K.1
  have hl9 := K.2.2.2.2.2.2
  unfold w_X8_newSet_18 at h
  refine lv_aload_n B.1 B.2.1 dX8_newSet_18 rfl (lv_at hl 0 rfl) ?_
  refine f_geti B hH hth (by decide) rfl wu_X8 1 (by decide) wf_X8_81 rfl rfl dX8_newSet_19 ?_
  refine lv_iconst (v := i32 4) B.1 B.2.1 dX8_newSet_22 (by decide) ?_
  obtain ⟨q1, h⟩ := h
  refine lv_imul B.1 B.2.1 dX8_newSet_23 ?_
  rw [i32_mul]
  refine lv_istore_n (lv' := [(1, .int (i32 (gI σ th 1 * 4))), (0, .ref th)]) B.1 B.2.1 dX8_newSet_24 rfl hl (by decide) rfl (fun ls hl => ?_)
  refine lv_iload_n B.1 B.2.1 dX8_newSet_25 rfl (lv_at hl 0 rfl) ?_
  refine lv_iconst (v := i32 4) B.1 B.2.1 dX8_newSet_26 (by decide) ?_
  obtain ⟨q2, h⟩ := h
  refine lv_iadd B.1 B.2.1 dX8_newSet_27 ?_
  rw [i32_add]
  refine lv_aload_n B.1 B.2.1 dX8_newSet_28 rfl (lv_at hl 1 rfl) ?_
  refine f_getp B hH hth (by decide) rfl wu_X8 2 (by decide) wf_X8_11 rfl rfl dX8_newSet_29 ?_
  obtain ⟨a24, ea24, h⟩ := h
  have ka24 : kO σ a24 101 := (hYσ.get hth (by decide)) a24 ea24
  have h := h ka24
  refine W.eq (g2 := F0 m 32 ls [.ref a24, .int (i32 ((gI σ th 1 * 4) + 4))]) (by rw [ea24]; rfl) ?_
  refine h_alen B hH ka24.1 (by decide) ka24.2 1 K.2.1.1.2.1 dX8_newSet_32 ?_
  refine lv_icmp_le (tgt := 54) B.1 B.2.1 dX8_newSet_33 (by decide) (fun h9 => ?_) (fun h9 => ?_)
  · rw [if_pos ((i32_le q2 (rng_gn (hYσ.2 _))).mp h9)] at h
    exact a_X8_newSet_54 K hQ hX hTh _ _ q1 h hGσ hYσ hE hth _ _ _ hH (lv_sub (l' := [(0, .ref th), (1, .int (i32 (gI σ th 1 * 4)))]) hl [1, 0] rfl) hc
  · rw [if_neg (fun q => h9 ((i32_le q2 (rng_gn (hYσ.2 _))).mpr q))] at h
    exact a_X8_newSet_36 K hQ hX hTh _ _ q1 h hGσ hYσ hE hth _ _ _ hH (lv_sub (l' := [(0, .ref th), (1, .int (i32 (gI σ th 1 * 4)))]) hl [1, 0] rfl) hc
set_option maxRecDepth 20000 in
theorem a_X8_newSet_10 {Q : Sg → Int → Prop} {X : Sg → String → Prop} {th : Nat} (K : MD l R p s m args c cX8_newSet 3 RX8 D cA tys A n0 s0 6 90 []) (hQ : CQI p l e R s m args below meth c cX8_newSet D cA A n0 s0 QM σi Q) (hX : CX p l e R s m args below meth c 3 D cA A n0 s0 QM σi X) (hTh : CT p l e R s m args below meth c cX8_newSet 3 D cA A n0 s0 QM σi RX8 X) : ∀ (σ : Sg), w_X8_newSet_10 th Q X σ → RG σ → TY σ → Ext σi σ → kO σ th 8 → JJ p l e R s m args below meth c 3 D cA A n0 s0 QM σ 10 [(0, .ref th)] [] := by
  intro σ h hGσ hYσ hE hth H locs ls hH hl hc
  have B := K.1
  have hl9 := K.2.2.2.2.2.2
  unfold w_X8_newSet_10 at h
  obtain ⟨q9, h⟩ := h
  exact hTh _ _ _ _ _ _ _ _ _ tw_X8_84_86 dX8_newSet_10 dX8_newSet_13 dX8_newSet_14 dX8_newSet_17 hH hl hc q9 h hGσ hYσ hE (by have := K.2.2.2.1; omega) (by have := K.2.2.2.2.1; omega)
set_option maxRecDepth 20000 in
theorem a_X8_newSet_0 {Q : Sg → Int → Prop} {X : Sg → String → Prop} {th : Nat} (K : MD l R p s m args c cX8_newSet 3 RX8 D cA tys A n0 s0 6 90 []) (hQ : CQI p l e R s m args below meth c cX8_newSet D cA A n0 s0 QM σi Q) (hX : CX p l e R s m args below meth c 3 D cA A n0 s0 QM σi X) (hTh : CT p l e R s m args below meth c cX8_newSet 3 D cA A n0 s0 QM σi RX8 X) : ∀ (σ : Sg), w_X8_newSet_0 th Q X σ → RG σ → TY σ → Ext σi σ → kO σ th 8 → JJ p l e R s m args below meth c 3 D cA A n0 s0 QM σ 0 [(0, .ref th)] [] := by
  intro σ h hGσ hYσ hE hth H locs ls hH hl hc
  have B := K.1
  have hl9 := K.2.2.2.2.2.2
  unfold w_X8_newSet_0 at h
  refine lv_aload_n B.1 B.2.1 dX8_newSet_0 rfl (lv_at hl 0 rfl) ?_
  refine f_geti B hH hth (by decide) rfl wu_X8 1 (by decide) wf_X8_81 rfl rfl dX8_newSet_1 ?_
  refine lv_sipush (v := i32 30000) B.1 B.2.1 dX8_newSet_4 (by decide) ?_
  refine lv_icmp_lt (tgt := 18) B.1 B.2.1 dX8_newSet_7 (by decide) (fun h9 => ?_) (fun h9 => ?_)
  · rw [if_pos ((i32_lt (hGσ _ _) (by unfold rng; omega)).mp h9)] at h
    exact a_X8_newSet_18 K hQ hX hTh _ h hGσ hYσ hE hth _ _ _ hH (lv_sub (l' := [(0, .ref th)]) hl [0] rfl) hc
  · rw [if_neg (fun q => h9 ((i32_lt (hGσ _ _) (by unfold rng; omega)).mpr q))] at h
    exact a_X8_newSet_10 K hQ hX hTh _ h hGσ hYσ hE hth _ _ _ hH (lv_sub (l' := [(0, .ref th)]) hl [0] rfl) hc
theorem ok_X8_newSet (hl0 : l.stackTraces = false) (hT : TyC cA tys) {Q : Sg → Int → Prop} {X : Sg → String → Prop} (σ : Sg) (th : Nat) (hth : kO σ th 8) (hG : RG σ) (hY : TY σ) (h : wp_X8_newSet th σ Q X) : Ok l D cA tys A yX8_newSet (.code yX8_newSet cX8_newSet 3 (some .int)) 6 90 [.ref th] σ (QcI σ Q) (QxC σ X) := by
  unfold wp_X8_newSet at h
  exact oc_I hl0 (by decide) (by exact Nat.le_of_ble_eq_true rfl) hT (fun p e R s m args below meth c K hQ hX hTh H locs ls hH hl hc => a_X8_newSet_0 K hQ hX hTh σ h hG hY (Ext.rfl' σ) hth H locs ls hH (lv_sub (l' := [(0, .ref th)]) hl [0] rfl) hc)
theorem dX8_together_0 : decode cX8_together 0 = .ok (.iload_n 1, 1) := by decide +kernel
theorem dX8_together_1 : decode cX8_together 1 = .ok (.iload_n 2, 1) := by decide +kernel
theorem dX8_together_2 : decode cX8_together 2 = .ok (.if_icmp .eq 11, 3) := by decide +kernel
theorem dX8_together_5 : decode cX8_together 5 = .ok (.iload_n 1, 1) := by decide +kernel
theorem dX8_together_6 : decode cX8_together 6 = .ok (.ifCond .lt 7, 3) := by decide +kernel
theorem dX8_together_9 : decode cX8_together 9 = .ok (.iload_n 2, 1) := by decide +kernel
theorem dX8_together_10 : decode cX8_together 10 = .ok (.ifCond .ge 5, 3) := by decide +kernel
theorem dX8_together_13 : decode cX8_together 13 = .ok (.iload_n 1, 1) := by decide +kernel
theorem dX8_together_14 : decode cX8_together 14 = .ok (.ireturn, 1) := by decide +kernel
theorem dX8_together_15 : decode cX8_together 15 = .ok (.aload_n 0, 1) := by decide +kernel
theorem dX8_together_16 : decode cX8_together 16 = .ok (.invokevirtual 77, 3) := by decide +kernel
theorem dX8_together_19 : decode cX8_together 19 = .ok (.istore_n 3, 1) := by decide +kernel
theorem dX8_together_20 : decode cX8_together 20 = .ok (.iconst 0, 1) := by decide +kernel
theorem dX8_together_21 : decode cX8_together 21 = .ok (.istore 4, 2) := by decide +kernel
theorem dX8_together_23 : decode cX8_together 23 = .ok (.iload 4, 2) := by decide +kernel
theorem dX8_together_25 : decode cX8_together 25 = .ok (.iconst 4, 1) := by decide +kernel
theorem dX8_together_26 : decode cX8_together 26 = .ok (.if_icmp .ge 43, 3) := by decide +kernel
theorem dX8_together_29 : decode cX8_together 29 = .ok (.aload_n 0, 1) := by decide +kernel
theorem dX8_together_30 : decode cX8_together 30 = .ok (.getfield 11, 3) := by decide +kernel
theorem dX8_together_33 : decode cX8_together 33 = .ok (.iload_n 3, 1) := by decide +kernel
theorem dX8_together_34 : decode cX8_together 34 = .ok (.iconst 4, 1) := by decide +kernel
theorem dX8_together_35 : decode cX8_together 35 = .ok (.imul, 1) := by decide +kernel
theorem dX8_together_36 : decode cX8_together 36 = .ok (.iload 4, 2) := by decide +kernel
theorem dX8_together_38 : decode cX8_together 38 = .ok (.iadd, 1) := by decide +kernel
theorem dX8_together_39 : decode cX8_together 39 = .ok (.aload_n 0, 1) := by decide +kernel
theorem dX8_together_40 : decode cX8_together 40 = .ok (.getfield 11, 3) := by decide +kernel
theorem dX8_together_43 : decode cX8_together 43 = .ok (.iload_n 1, 1) := by decide +kernel
theorem dX8_together_44 : decode cX8_together 44 = .ok (.iconst 4, 1) := by decide +kernel
theorem dX8_together_45 : decode cX8_together 45 = .ok (.imul, 1) := by decide +kernel
theorem dX8_together_46 : decode cX8_together 46 = .ok (.iload 4, 2) := by decide +kernel
theorem dX8_together_48 : decode cX8_together 48 = .ok (.iadd, 1) := by decide +kernel
theorem dX8_together_49 : decode cX8_together 49 = .ok (.laload, 1) := by decide +kernel
theorem dX8_together_50 : decode cX8_together 50 = .ok (.aload_n 0, 1) := by decide +kernel
theorem dX8_together_51 : decode cX8_together 51 = .ok (.getfield 11, 3) := by decide +kernel
theorem dX8_together_54 : decode cX8_together 54 = .ok (.iload_n 2, 1) := by decide +kernel
theorem dX8_together_55 : decode cX8_together 55 = .ok (.iconst 4, 1) := by decide +kernel
theorem dX8_together_56 : decode cX8_together 56 = .ok (.imul, 1) := by decide +kernel
theorem dX8_together_57 : decode cX8_together 57 = .ok (.iload 4, 2) := by decide +kernel
theorem dX8_together_59 : decode cX8_together 59 = .ok (.iadd, 1) := by decide +kernel
theorem dX8_together_60 : decode cX8_together 60 = .ok (.laload, 1) := by decide +kernel
theorem dX8_together_61 : decode cX8_together 61 = .ok (.lor, 1) := by decide +kernel
theorem dX8_together_62 : decode cX8_together 62 = .ok (.lastore, 1) := by decide +kernel
theorem dX8_together_63 : decode cX8_together 63 = .ok (.iinc 4 1, 3) := by decide +kernel
theorem dX8_together_66 : decode cX8_together 66 = .ok (.goto (-43), 3) := by decide +kernel
theorem dX8_together_69 : decode cX8_together 69 = .ok (.iload_n 3, 1) := by decide +kernel
theorem dX8_together_70 : decode cX8_together 70 = .ok (.ireturn, 1) := by decide +kernel
set_option maxRecDepth 20000 in
theorem a_X8_together_13 {Q : Sg → Int → Prop} {X : Sg → String → Prop} {th : Nat} (K : MD l R p s m args c cX8_together 5 RX8 D cA tys A n0 s0 7 112 []) (hQ : CQI p l e R s m args below meth c cX8_together D cA A n0 s0 QM σi Q) (hX : CX p l e R s m args below meth c 5 D cA A n0 s0 QM σi X) (hTh : CT p l e R s m args below meth c cX8_together 5 D cA A n0 s0 QM σi RX8 X) : ∀ (σ : Sg) (v1 : Int) (g1 : rng v1), w_X8_together_13 th Q X σ v1 → RG σ → TY σ → Ext σi σ → kO σ th 8 → JJ p l e R s m args below meth c 5 D cA A n0 s0 QM σ 13 [(0, .ref th), (1, .int (i32 v1))] [] := by
  intro σ v1 g1 h hGσ hYσ hE hth H locs ls hH hl hc
  have B := K.1
  have hl9 := K.2.2.2.2.2.2
  unfold w_X8_together_13 at h
  refine lv_iload_n B.1 B.2.1 dX8_together_13 rfl (lv_at hl 1 rfl) ?_
  exact hQ _ _ _ _ _ _ g1 dX8_together_14 hH hc h hGσ hYσ hE
set_option maxRecDepth 20000 in
theorem a_X8_together_69 {Q : Sg → Int → Prop} {X : Sg → String → Prop} {th : Nat} (K : MD l R p s m args c cX8_together 5 RX8 D cA tys A n0 s0 7 112 []) (hQ : CQI p l e R s m args below meth c cX8_together D cA A n0 s0 QM σi Q) (hX : CX p l e R s m args below meth c 5 D cA A n0 s0 QM σi X) (hTh : CT p l e R s m args below meth c cX8_together 5 D cA A n0 s0 QM σi RX8 X) : ∀ (σ : Sg) (v3 : Int) (g3 : rng v3), w_X8_together_69 th Q X σ v3 → RG σ → TY σ → Ext σi σ → kO σ th 8 → JJ p l e R s m args below meth c 5 D cA A n0 s0 QM σ 69 [(0, .ref th), (3, .int (i32 v3))] [] := by
  intro σ v3 g3 h hGσ hYσ hE hth H locs ls hH hl hc
  have B := K.1
  have hl9 := K.2.2.2.2.2.2
  unfold w_X8_together_69 at h
  refine lv_iload_n B.1 B.2.1 dX8_together_69 rfl (lv_at hl 1 rfl) ?_
  exact hQ _ _ _ _ _ _ g3 dX8_together_70 hH hc h hGσ hYσ hE
set_option maxRecDepth 20000 in
theorem a_X8_together_29 {Q : Sg → Int → Prop} {X : Sg → String → Prop} {th : Nat} (K : MD l R p s m args c cX8_together 5 RX8 D cA tys A n0 s0 7 112 []) (hQ : CQI p l e R s m args below meth c cX8_together D cA A n0 s0 QM σi Q) (hX : CX p l e R s m args below meth c 5 D cA A n0 s0 QM σi X) (hTh : CT p l e R s m args below meth c cX8_together 5 D cA A n0 s0 QM σi RX8 X) {K23 : Sg → Int → Int → Int → Int → Prop} (hK23 : ∀ (σ : Sg) (v1 : Int) (v2 : Int) (v3 : Int) (v4 : Int) (g1 : rng v1) (g2 : rng v2) (g3 : rng v3) (g4 : rng v4), K23 σ v1 v2 v3 v4 → RG σ → TY σ → Ext σi σ → kO σ th 8 → JJ p l e R s m args below meth c 5 D cA A n0 s0 QM σ 23 [(0, .ref th), (1, .int (i32 v1)), (2, .int (i32 v2)), (3, .int (i32 v3)), (4, .int (i32 v4))] []) : ∀ (σ : Sg) (v1 : Int) (v2 : Int) (v3 : Int) (v4 : Int) (g1 : rng v1) (g2 : rng v2) (g3 : rng v3) (g4 : rng v4), w_X8_together_29 th K23 Q X σ v1 v2 v3 v4 → RG σ → TY σ → Ext σi σ → kO σ th 8 → JJ p l e R s m args below meth c 5 D cA A n0 s0 QM σ 29 [(0, .ref th), (1, .int (i32 v1)), (2, .int (i32 v2)), (3, .int (i32 v3)), (4, .int (i32 v4))] [] := by
  intro σ v1 v2 v3 v4 g1 g2 g3 g4 h hGσ hYσ hE hth H locs ls hH hl hc
  have B := K.1
  have hl9 := K.2.2.2.2.2.2
  unfold w_X8_together_29 at h
  refine lv_aload_n B.1 B.2.1 dX8_together_29 rfl (lv_at hl 0 rfl) ?_
  refine f_getp B hH hth (by decide) rfl wu_X8 2 (by decide) wf_X8_11 rfl rfl dX8_together_30 ?_
  refine lv_iload_n B.1 B.2.1 dX8_together_33 rfl (lv_at hl 3 rfl) ?_
  refine lv_iconst (v := i32 4) B.1 B.2.1 dX8_together_34 (by decide) ?_
  obtain ⟨q1, h⟩ := h
  refine lv_imul B.1 B.2.1 dX8_together_35 ?_
  rw [i32_mul]
  refine lv_iload B.1 B.2.1 dX8_together_36 (lv_at hl 4 rfl) ?_
  obtain ⟨q2, h⟩ := h
  refine lv_iadd B.1 B.2.1 dX8_together_38 ?_
  rw [i32_add]
  refine lv_aload_n B.1 B.2.1 dX8_together_39 rfl (lv_at hl 0 rfl) ?_
  refine f_getp B hH hth (by decide) rfl wu_X8 2 (by decide) wf_X8_11 rfl rfl dX8_together_40 ?_
  refine lv_iload_n B.1 B.2.1 dX8_together_43 rfl (lv_at hl 1 rfl) ?_
  refine lv_iconst (v := i32 4) B.1 B.2.1 dX8_together_44 (by decide) ?_
  obtain ⟨q3, h⟩ := h
  refine lv_imul B.1 B.2.1 dX8_together_45 ?_
  rw [i32_mul]
  refine lv_iload B.1 B.2.1 dX8_together_46 (lv_at hl 4 rfl) ?_
  obtain ⟨q4, h⟩ := h
  refine lv_iadd B.1 B.2.1 dX8_together_48 ?_
  rw [i32_add]
  obtain ⟨a9, ea9, h⟩ := h
  have ka9 : kO σ a9 101 := (hYσ.get hth (by decide)) a9 ea9
  have h := h ka9
  obtain ⟨q5, h⟩ := h
  refine W.eq (g2 := F0 m 49 ls [.int (i32 ((v1 * 4) + v4)), .ref a9, .int (i32 ((v3 * 4) + v4)), va_rf (gP σ th 2)]) (by rw [ea9]; rfl) ?_
  refine y_lald B K.2.1 hH ka9 q5 dX8_together_49 (hYσ.2 _) ?_
  refine lv_aload_n B.1 B.2.1 dX8_together_50 rfl (lv_at hl 0 rfl) ?_
  refine f_getp B hH hth (by decide) rfl wu_X8 2 (by decide) wf_X8_11 rfl rfl dX8_together_51 ?_
  refine lv_iload_n B.1 B.2.1 dX8_together_54 rfl (lv_at hl 2 rfl) ?_
  refine lv_iconst (v := i32 4) B.1 B.2.1 dX8_together_55 (by decide) ?_
  obtain ⟨q6, h⟩ := h
  refine lv_imul B.1 B.2.1 dX8_together_56 ?_
  rw [i32_mul]
  refine lv_iload B.1 B.2.1 dX8_together_57 (lv_at hl 4 rfl) ?_
  obtain ⟨q7, h⟩ := h
  refine lv_iadd B.1 B.2.1 dX8_together_59 ?_
  rw [i32_add]
  obtain ⟨q8, h⟩ := h
  refine W.eq (g2 := F0 m 60 ls [.int (i32 ((v2 * 4) + v4)), .ref a9, .long (gJ σ a9 ((v1 * 4) + v4).toNat), .int (i32 ((v3 * 4) + v4)), va_rf (gP σ th 2)]) (by rw [ea9]; rfl) ?_
  refine y_lald B K.2.1 hH ka9 q8 dX8_together_60 (hYσ.2 _) ?_
  refine lv_lor B.1 B.2.1 dX8_together_61 ?_
  obtain ⟨q9, h⟩ := h
  obtain ⟨σ10, eσ10⟩ : ∃ z, z = pJ σ a9 ((v3 * 4) + v4).toNat ((gJ σ a9 ((v1 * 4) + v4).toNat) ||| (gJ σ a9 ((v2 * 4) + v4).toNat)) := ⟨_, rfl⟩
  have h := h σ10 eσ10
  refine W.eq (g2 := F0 m 62 ls [.long ((gJ σ a9 ((v1 * 4) + v4).toNat) ||| (gJ σ a9 ((v2 * 4) + v4).toNat)), .int (i32 ((v3 * 4) + v4)), .ref a9]) (by rw [ea9]; rfl) ?_
  refine y_last B K.2.1 hH ka9 q9 dX8_together_62 (hYσ.2 _) (fun H locs hH => ?_)
  have hH : Hd D cA A s (pJ σ a9 ((v3 * 4) + v4).toNat ((gJ σ a9 ((v1 * 4) + v4).toNat) ||| (gJ σ a9 ((v2 * 4) + v4).toNat))) H locs := hH
  rw [← eσ10] at hH
  have hGσ10 : RG σ10 := by rw [eσ10]; exact hGσ.pJ
  have hYσ10 : TY σ10 := by rw [eσ10]; exact hYσ.pJ
  have xσ10 : Ext σ σ10 := by rw [eσ10]; exact Ext.pJ
  have hc : CB n0 s0 σ10 := by rw [eσ10]; exact hc
  rw [show gc σ = gc σ10 by rw [eσ10]; try rfl, show gs σ = gs σ10 by rw [eσ10]; try rfl]
  obtain ⟨q10, h⟩ := h
  refine lv_iinc (k := 4) (v := i32 (v4 + 1)) (lv' := [(4, .int (i32 (v4 + 1))), (0, .ref th), (1, .int (i32 v1)), (2, .int (i32 v2)), (3, .int (i32 v3))]) B.1 B.2.1 dX8_together_63 hl rfl (i32_add _ _) (by decide) rfl (fun ls hl => ?_)
  refine lv_goto (tgt := 23) B.1 B.2.1 dX8_together_66 (by decide) ?_
  exact hK23 _ _ _ _ _ g1 g2 g3 q10 h hGσ10 hYσ10 (hE.trans xσ10) (hth.up xσ10) _ _ _ hH (lv_sub (l' := [(0, .ref th), (1, .int (i32 v1)), (2, .int (i32 v2)), (3, .int (i32 v3)), (4, .int (i32 (v4 + 1)))]) hl [1, 2, 3, 4, 0] rfl) hc
set_option maxRecDepth 20000 in
theorem a_X8_together_23 {Q : Sg → Int → Prop} {X : Sg → String → Prop} {th : Nat} (K : MD l R p s m args c cX8_together 5 RX8 D cA tys A n0 s0 7 112 []) (hQ : CQI p l e R s m args below meth c cX8_together D cA A n0 s0 QM σi Q) (hX : CX p l e R s m args below meth c 5 D cA A n0 s0 QM σi X) (hTh : CT p l e R s m args below meth c cX8_together 5 D cA A n0 s0 QM σi RX8 X) {K23 : Sg → Int → Int → Int → Int → Prop} (hK23 : ∀ (σ : Sg) (v1 : Int) (v2 : Int) (v3 : Int) (v4 : Int) (g1 : rng v1) (g2 : rng v2) (g3 : rng v3) (g4 : rng v4), K23 σ v1 v2 v3 v4 → RG σ → TY σ → Ext σi σ → kO σ th 8 → JJ p l e R s m args below meth c 5 D cA A n0 s0 QM σ 23 [(0, .ref th), (1, .int (i32 v1)), (2, .int (i32 v2)), (3, .int (i32 v3)), (4, .int (i32 v4))] []) : ∀ (σ : Sg) (v1 : Int) (v2 : Int) (v3 : Int) (v4 : Int) (g1 : rng v1) (g2 : rng v2) (g3 : rng v3) (g4 : rng v4), w_X8_together_23 th K23 Q X σ v1 v2 v3 v4 → RG σ → TY σ → Ext σi σ → kO σ th 8 → JJ p l e R s m args below meth c 5 D cA A n0 s0 QM σ 23 [(0, .ref th), (1, .int (i32 v1)), (2, .int (i32 v2)), (3, .int (i32 v3)), (4, .int (i32 v4))] [] := by
  intro σ v1 v2 v3 v4 g1 g2 g3 g4 h hGσ hYσ hE hth H locs ls hH hl hc
  have B := K.1
  have hl9 := K.2.2.2.2.2.2
  unfold w_X8_together_23 at h
  refine lv_iload B.1 B.2.1 dX8_together_23 (lv_at hl 4 rfl) ?_
  refine lv_iconst (v := i32 4) B.1 B.2.1 dX8_together_25 (by decide) ?_
  refine lv_icmp_ge (tgt := 69) B.1 B.2.1 dX8_together_26 (by decide) (fun h9 => ?_) (fun h9 => ?_)
  · rw [if_pos ((i32_le (by unfold rng; omega) g4).mp h9)] at h
    exact a_X8_together_69 K hQ hX hTh _ _ g3 h hGσ hYσ hE hth _ _ _ hH (lv_sub (l' := [(0, .ref th), (3, .int (i32 v3))]) hl [0, 3] rfl) hc
  · rw [if_neg (fun q => h9 ((i32_le (by unfold rng; omega) g4).mpr q))] at h
    exact a_X8_together_29 K hQ hX hTh hK23 _ _ _ _ _ g1 g2 g3 g4 h hGσ hYσ hE hth _ _ _ hH (lv_sub (l' := [(0, .ref th), (1, .int (i32 v1)), (2, .int (i32 v2)), (3, .int (i32 v3)), (4, .int (i32 v4))]) hl [0, 1, 2, 3, 4] rfl) hc
theorem al_X8_together_23 {Q : Sg → Int → Prop} {X : Sg → String → Prop} {th : Nat} (K : MD l R p s m args c cX8_together 5 RX8 D cA tys A n0 s0 7 112 []) (hQ : CQI p l e R s m args below meth c cX8_together D cA A n0 s0 QM σi Q) (hX : CX p l e R s m args below meth c 5 D cA A n0 s0 QM σi X) (hTh : CT p l e R s m args below meth c cX8_together 5 D cA A n0 s0 QM σi RX8 X) : ∀ (n : Nat), ∀ (σ : Sg) (v1 : Int) (v2 : Int) (v3 : Int) (v4 : Int) (g1 : rng v1) (g2 : rng v2) (g3 : rng v3) (g4 : rng v4), wl_X8_together_23 th Q X n σ v1 v2 v3 v4 → RG σ → TY σ → Ext σi σ → kO σ th 8 → JJ p l e R s m args below meth c 5 D cA A n0 s0 QM σ 23 [(0, .ref th), (1, .int (i32 v1)), (2, .int (i32 v2)), (3, .int (i32 v3)), (4, .int (i32 v4))] [] := by
  intro n
  induction n with
  | zero => intro σ v1 v2 v3 v4 g1 g2 g3 g4 h; exact h.elim
  | succ n ih => exact fun σ v1 v2 v3 v4 g1 g2 g3 g4 h => a_X8_together_23 K hQ hX hTh ih σ v1 v2 v3 v4 g1 g2 g3 g4 h
set_option maxRecDepth 20000 in
theorem a_X8_together_15 {Q : Sg → Int → Prop} {X : Sg → String → Prop} {th : Nat} (K : MD l R p s m args c cX8_together 5 RX8 D cA tys A n0 s0 7 112 []) (hQ : CQI p l e R s m args below meth c cX8_together D cA A n0 s0 QM σi Q) (hX : CX p l e R s m args below meth c 5 D cA A n0 s0 QM σi X) (hTh : CT p l e R s m args below meth c cX8_together 5 D cA A n0 s0 QM σi RX8 X) : ∀ (σ : Sg) (v1 : Int) (v2 : Int) (g1 : rng v1) (g2 : rng v2), w_X8_together_15 th Q X σ v1 v2 → RG σ → TY σ → Ext σi σ → kO σ th 8 → JJ p l e R s m args below meth c 5 D cA A n0 s0 QM σ 15 [(0, .ref th), (1, .int (i32 v1)), (2, .int (i32 v2))] [] := by
  intro σ v1 v2 g1 g2 h hGσ hYσ hE hth H locs ls hH hl hc
  have B := K.1
  have hl9 := K.2.2.2.2.2.2
  unfold w_X8_together_15 at h
  refine lv_aload_n B.1 B.2.1 dX8_together_15 rfl (lv_at hl 0 rfl) ?_
  refine W.eq (g2 := F0 m 16 ls [.ref th]) (rfl) ?_
  refine c_V B hH hl hc K.2.2.1 (C := RX8) (T := TX8) (N := 3) (ci := 8) (As := []) (ok_X8_newSet hl9 K.2.1 σ th hth hGσ hYσ h) wc_X8_77 0 hd_X8_newSet ⟨Nat.le_trans (Nat.le_of_ble_eq_true rfl) K.2.2.2.1, Nat.le_trans (Nat.le_of_ble_eq_true rfl) K.2.2.2.2.1⟩ hth.1 hth.2 (by decide) rfl rfl (rest := []) rfl (Nat.le_of_ble_eq_true rfl) dX8_together_16 (fun σ11 w hq => ?_) (fun σ9 E9 hx9 => hX σ9 E9 _ _ _ (tb_out K.2.2.2.2.2.1 rfl) hx9.1 hx9.2.1 hx9.2.2.1 (hE.trans hx9.2.2.2))
  obtain ⟨r12, rfl, gr12, h, hGσ11, hYσ11, xσ11⟩ := hq
  have h := h xσ11
  intro H locs ls hH hl hc
  refine W.eq (g2 := F0 m 19 ls [.int (i32 r12)]) (rfl) ?_
  try dsimp only at h
  refine lv_istore_n (lv' := [(3, .int (i32 r12)), (0, .ref th), (1, .int (i32 v1)), (2, .int (i32 v2))]) B.1 B.2.1 dX8_together_19 rfl hl (by decide) rfl (fun ls hl => ?_)
  refine lv_iconst (v := i32 0) B.1 B.2.1 dX8_together_20 (by decide) ?_
  refine lv_istore (lv' := [(4, .int (i32 0)), (3, .int (i32 r12)), (0, .ref th), (1, .int (i32 v1)), (2, .int (i32 v2))]) B.1 B.2.1 dX8_together_21 hl (by decide) rfl (fun ls hl => ?_)
  obtain ⟨n9, h⟩ := h
  exact al_X8_together_23 K hQ hX hTh n9 _ _ _ _ _ g1 g2 gr12 (by unfold rng; omega) h hGσ11 hYσ11 (hE.trans xσ11) (hth.up xσ11) _ _ _ hH (lv_sub (l' := [(0, .ref th), (1, .int (i32 v1)), (2, .int (i32 v2)), (3, .int (i32 r12)), (4, .int (i32 0))]) hl [2, 3, 4, 1, 0] rfl) hc
set_option maxRecDepth 20000 in
theorem a_X8_together_9 {Q : Sg → Int → Prop} {X : Sg → String → Prop} {th : Nat} (K : MD l R p s m args c cX8_together 5 RX8 D cA tys A n0 s0 7 112 []) (hQ : CQI p l e R s m args below meth c cX8_together D cA A n0 s0 QM σi Q) (hX : CX p l e R s m args below meth c 5 D cA A n0 s0 QM σi X) (hTh : CT p l e R s m args below meth c cX8_together 5 D cA A n0 s0 QM σi RX8 X) : ∀ (σ : Sg) (v1 : Int) (v2 : Int) (g1 : rng v1) (g2 : rng v2), w_X8_together_9 th Q X σ v1 v2 → RG σ → TY σ → Ext σi σ → kO σ th 8 → JJ p l e R s m args below meth c 5 D cA A n0 s0 QM σ 9 [(0, .ref th), (1, .int (i32 v1)), (2, .int (i32 v2))] [] := by
  intro σ v1 v2 g1 g2 h hGσ hYσ hE hth H locs ls hH hl hc
  have B := K.1
  have hl9 := K.2.2.2.2.2.2
  unfold w_X8_together_9 at h
  refine lv_iload_n B.1 B.2.1 dX8_together_9 rfl (lv_at hl 2 rfl) ?_
  refine lv_if_ge (tgt := 15) B.1 B.2.1 dX8_together_10 (by decide) (fun h9 => ?_) (fun h9 => ?_)
  · rw [if_pos ((z_ge g2).mp h9)] at h
    exact a_X8_together_15 K hQ hX hTh _ _ _ g1 g2 h hGσ hYσ hE hth _ _ _ hH (lv_sub (l' := [(0, .ref th), (1, .int (i32 v1)), (2, .int (i32 v2))]) hl [0, 1, 2] rfl) hc
  · rw [if_neg (fun q => h9 ((z_ge g2).mpr q))] at h
    exact a_X8_together_13 K hQ hX hTh _ _ g1 h hGσ hYσ hE hth _ _ _ hH (lv_sub (l' := [(0, .ref th), (1, .int (i32 v1))]) hl [0, 1] rfl) hc
set_option maxRecDepth 20000 in
theorem a_X8_together_5 {Q : Sg → Int → Prop} {X : Sg → String → Prop} {th : Nat} (K : MD l R p s m args c cX8_together 5 RX8 D cA tys A n0 s0 7 112 []) (hQ : CQI p l e R s m args below meth c cX8_together D cA A n0 s0 QM σi Q) (hX : CX p l e R s m args below meth c 5 D cA A n0 s0 QM σi X) (hTh : CT p l e R s m args below meth c cX8_together 5 D cA A n0 s0 QM σi RX8 X) : ∀ (σ : Sg) (v1 : Int) (v2 : Int) (g1 : rng v1) (g2 : rng v2), w_X8_together_5 th Q X σ v1 v2 → RG σ → TY σ → Ext σi σ → kO σ th 8 → JJ p l e R s m args below meth c 5 D cA A n0 s0 QM σ 5 [(0, .ref th), (1, .int (i32 v1)), (2, .int (i32 v2))] [] := by
  intro σ v1 v2 g1 g2 h hGσ hYσ hE hth H locs ls hH hl hc
  have B := K.1
  have hl9 := K.2.2.2.2.2.2
  unfold w_X8_together_5 at h
  refine lv_iload_n B.1 B.2.1 dX8_together_5 rfl (lv_at hl 1 rfl) ?_
  refine lv_if_lt (tgt := 13) B.1 B.2.1 dX8_together_6 (by decide) (fun h9 => ?_) (fun h9 => ?_)
  · rw [if_pos ((z_lt g1).mp h9)] at h
    exact a_X8_together_13 K hQ hX hTh _ _ g1 h hGσ hYσ hE hth _ _ _ hH (lv_sub (l' := [(0, .ref th), (1, .int (i32 v1))]) hl [0, 1] rfl) hc
  · rw [if_neg (fun q => h9 ((z_lt g1).mpr q))] at h
    exact a_X8_together_9 K hQ hX hTh _ _ _ g1 g2 h hGσ hYσ hE hth _ _ _ hH (lv_sub (l' := [(0, .ref th), (1, .int (i32 v1)), (2, .int (i32 v2))]) hl [0, 1, 2] rfl) hc
set_option maxRecDepth 20000 in
theorem a_X8_together_0 {Q : Sg → Int → Prop} {X : Sg → String → Prop} {th : Nat} (K : MD l R p s m args c cX8_together 5 RX8 D cA tys A n0 s0 7 112 []) (hQ : CQI p l e R s m args below meth c cX8_together D cA A n0 s0 QM σi Q) (hX : CX p l e R s m args below meth c 5 D cA A n0 s0 QM σi X) (hTh : CT p l e R s m args below meth c cX8_together 5 D cA A n0 s0 QM σi RX8 X) : ∀ (σ : Sg) (v1 : Int) (v2 : Int) (g1 : rng v1) (g2 : rng v2), w_X8_together_0 th Q X σ v1 v2 → RG σ → TY σ → Ext σi σ → kO σ th 8 → JJ p l e R s m args below meth c 5 D cA A n0 s0 QM σ 0 [(0, .ref th), (1, .int (i32 v1)), (2, .int (i32 v2))] [] := by
  intro σ v1 v2 g1 g2 h hGσ hYσ hE hth H locs ls hH hl hc
  have B := K.1
  have hl9 := K.2.2.2.2.2.2
  unfold w_X8_together_0 at h
  refine lv_iload_n B.1 B.2.1 dX8_together_0 rfl (lv_at hl 1 rfl) ?_
  refine lv_iload_n B.1 B.2.1 dX8_together_1 rfl (lv_at hl 2 rfl) ?_
  refine lv_icmp_eq (tgt := 13) B.1 B.2.1 dX8_together_2 (by decide) (fun h9 => ?_) (fun h9 => ?_)
  · rw [if_pos ((i32_eq g1 g2).mp h9)] at h
    exact a_X8_together_13 K hQ hX hTh _ _ g1 h hGσ hYσ hE hth _ _ _ hH (lv_sub (l' := [(0, .ref th), (1, .int (i32 v1))]) hl [0, 1] rfl) hc
  · rw [if_neg (fun q => h9 ((i32_eq g1 g2).mpr q))] at h
    exact a_X8_together_5 K hQ hX hTh _ _ _ g1 g2 h hGσ hYσ hE hth _ _ _ hH (lv_sub (l' := [(0, .ref th), (1, .int (i32 v1)), (2, .int (i32 v2))]) hl [0, 1, 2] rfl) hc
theorem ok_X8_together (hl0 : l.stackTraces = false) (hT : TyC cA tys) {Q : Sg → Int → Prop} {X : Sg → String → Prop} (σ : Sg) (th : Nat) (v1 : Int) (v2 : Int) (g1 : rng v1) (g2 : rng v2) (hth : kO σ th 8) (hG : RG σ) (hY : TY σ) (h : wp_X8_together th v1 v2 σ Q X) : Ok l D cA tys A yX8_together (.code yX8_together cX8_together 5 (some .int)) 7 112 [.ref th, .int (i32 v1), .int (i32 v2)] σ (QcI σ Q) (QxC σ X) := by
  unfold wp_X8_together at h
  exact oc_I hl0 (by decide) (by exact Nat.le_of_ble_eq_true rfl) hT (fun p e R s m args below meth c K hQ hX hTh H locs ls hH hl hc => a_X8_together_0 K hQ hX hTh σ v1 v2 g1 g2 h hG hY (Ext.rfl' σ) hth H locs ls hH (lv_sub (l' := [(0, .ref th), (1, .int (i32 v1)), (2, .int (i32 v2))]) hl [0, 1, 2] rfl) hc)
theorem dX11_addNearTo_0 : decode cX11_addNearTo 0 = .ok (.aconst_null, 1) := by decide +kernel
theorem dX11_addNearTo_1 : decode cX11_addNearTo 1 = .ok (.astore 6, 2) := by decide +kernel
theorem dX11_addNearTo_3 : decode cX11_addNearTo 3 = .ok (.aload_n 2, 1) := by decide +kernel
theorem dX11_addNearTo_4 : decode cX11_addNearTo 4 = .ok (.getfield 225, 3) := by decide +kernel
theorem dX11_addNearTo_7 : decode cX11_addNearTo 7 = .ok (.astore 7, 2) := by decide +kernel
theorem dX11_addNearTo_9 : decode cX11_addNearTo 9 = .ok (.aload 7, 2) := by decide +kernel
theorem dX11_addNearTo_11 : decode cX11_addNearTo 11 = .ok (.ifnull 162, 3) := by decide +kernel
theorem dX11_addNearTo_14 : decode cX11_addNearTo 14 = .ok (.aload 7, 2) := by decide +kernel
theorem dX11_addNearTo_16 : decode cX11_addNearTo 16 = .ok (.getfield 235, 3) := by decide +kernel
theorem dX11_addNearTo_19 : decode cX11_addNearTo 19 = .ok (.astore 8, 2) := by decide +kernel
theorem dX11_addNearTo_21 : decode cX11_addNearTo 21 = .ok (.aload 7, 2) := by decide +kernel
theorem dX11_addNearTo_23 : decode cX11_addNearTo 23 = .ok (.getfield 72, 3) := by decide +kernel
theorem dX11_addNearTo_26 : decode cX11_addNearTo 26 = .ok (.aload_n 3, 1) := by decide +kernel
theorem dX11_addNearTo_27 : decode cX11_addNearTo 27 = .ok (.getfield 72, 3) := by decide +kernel
theorem dX11_addNearTo_30 : decode cX11_addNearTo 30 = .ok (.lcmp, 1) := by decide +kernel
theorem dX11_addNearTo_31 : decode cX11_addNearTo 31 = .ok (.ifCond .ne 131, 3) := by decide +kernel
theorem dX11_addNearTo_34 : decode cX11_addNearTo 34 = .ok (.aload 7, 2) := by decide +kernel
theorem dX11_addNearTo_36 : decode cX11_addNearTo 36 = .ok (.getfield 92, 3) := by decide +kernel
theorem dX11_addNearTo_39 : decode cX11_addNearTo 39 = .ok (.lload 4, 2) := by decide +kernel
theorem dX11_addNearTo_41 : decode cX11_addNearTo 41 = .ok (.lsub, 1) := by decide +kernel
theorem dX11_addNearTo_42 : decode cX11_addNearTo 42 = .ok (.aload_n 1, 1) := by decide +kernel
theorem dX11_addNearTo_43 : decode cX11_addNearTo 43 = .ok (.getfield 76, 3) := by decide +kernel
theorem dX11_addNearTo_46 : decode cX11_addNearTo 46 = .ok (.i2l, 1) := by decide +kernel
theorem dX11_addNearTo_47 : decode cX11_addNearTo 47 = .ok (.lcmp, 1) := by decide +kernel
theorem dX11_addNearTo_48 : decode cX11_addNearTo 48 = .ok (.ifCond .ge 114, 3) := by decide +kernel
theorem dX11_addNearTo_51 : decode cX11_addNearTo 51 = .ok (.lload 4, 2) := by decide +kernel
theorem dX11_addNearTo_53 : decode cX11_addNearTo 53 = .ok (.aload 7, 2) := by decide +kernel
theorem dX11_addNearTo_55 : decode cX11_addNearTo 55 = .ok (.getfield 85, 3) := by decide +kernel
theorem dX11_addNearTo_58 : decode cX11_addNearTo 58 = .ok (.lsub, 1) := by decide +kernel
theorem dX11_addNearTo_59 : decode cX11_addNearTo 59 = .ok (.aload_n 1, 1) := by decide +kernel
theorem dX11_addNearTo_60 : decode cX11_addNearTo 60 = .ok (.getfield 76, 3) := by decide +kernel
theorem dX11_addNearTo_63 : decode cX11_addNearTo 63 = .ok (.i2l, 1) := by decide +kernel
theorem dX11_addNearTo_64 : decode cX11_addNearTo 64 = .ok (.lcmp, 1) := by decide +kernel
theorem dX11_addNearTo_65 : decode cX11_addNearTo 65 = .ok (.ifCond .ge 97, 3) := by decide +kernel
theorem dX11_addNearTo_68 : decode cX11_addNearTo 68 = .ok (.aload_n 2, 1) := by decide +kernel
theorem dX11_addNearTo_69 : decode cX11_addNearTo 69 = .ok (.aload 6, 2) := by decide +kernel
theorem dX11_addNearTo_71 : decode cX11_addNearTo 71 = .ok (.invokevirtual 238, 3) := by decide +kernel
theorem dX11_addNearTo_74 : decode cX11_addNearTo 74 = .ok (.pop, 1) := by decide +kernel
theorem dX11_addNearTo_75 : decode cX11_addNearTo 75 = .ok (.aload_n 0, 1) := by decide +kernel
theorem dX11_addNearTo_76 : decode cX11_addNearTo 76 = .ok (.dup, 1) := by decide +kernel
theorem dX11_addNearTo_77 : decode cX11_addNearTo 77 = .ok (.getfield 165, 3) := by decide +kernel
theorem dX11_addNearTo_80 : decode cX11_addNearTo 80 = .ok (.iconst 1, 1) := by decide +kernel
theorem dX11_addNearTo_81 : decode cX11_addNearTo 81 = .ok (.isub, 1) := by decide +kernel
theorem dX11_addNearTo_82 : decode cX11_addNearTo 82 = .ok (.putfield 165, 3) := by decide +kernel
theorem dX11_addNearTo_85 : decode cX11_addNearTo 85 = .ok (.aload_n 3, 1) := by decide +kernel
theorem dX11_addNearTo_86 : decode cX11_addNearTo 86 = .ok (.aload_n 3, 1) := by decide +kernel
theorem dX11_addNearTo_87 : decode cX11_addNearTo 87 = .ok (.getfield 92, 3) := by decide +kernel
theorem dX11_addNearTo_90 : decode cX11_addNearTo 90 = .ok (.aload 7, 2) := by decide +kernel
theorem dX11_addNearTo_92 : decode cX11_addNearTo 92 = .ok (.getfield 92, 3) := by decide +kernel
theorem dX11_addNearTo_95 : decode cX11_addNearTo 95 = .ok (.invokestatic 242, 3) := by decide +kernel
theorem dX11_addNearTo_98 : decode cX11_addNearTo 98 = .ok (.putfield 92, 3) := by decide +kernel
theorem dX11_addNearTo_101 : decode cX11_addNearTo 101 = .ok (.aload_n 3, 1) := by decide +kernel
theorem dX11_addNearTo_102 : decode cX11_addNearTo 102 = .ok (.aload_n 3, 1) := by decide +kernel
theorem dX11_addNearTo_103 : decode cX11_addNearTo 103 = .ok (.getfield 85, 3) := by decide +kernel
theorem dX11_addNearTo_106 : decode cX11_addNearTo 106 = .ok (.aload 7, 2) := by decide +kernel
theorem dX11_addNearTo_108 : decode cX11_addNearTo 108 = .ok (.getfield 85, 3) := by decide +kernel
theorem dX11_addNearTo_111 : decode cX11_addNearTo 111 = .ok (.invokestatic 245, 3) := by decide +kernel
theorem dX11_addNearTo_114 : decode cX11_addNearTo 114 = .ok (.putfield 85, 3) := by decide +kernel
theorem dX11_addNearTo_117 : decode cX11_addNearTo 117 = .ok (.aload_n 3, 1) := by decide +kernel
theorem dX11_addNearTo_118 : decode cX11_addNearTo 118 = .ok (.aload_n 0, 1) := by decide +kernel
theorem dX11_addNearTo_119 : decode cX11_addNearTo 119 = .ok (.getfield 22, 3) := by decide +kernel
theorem dX11_addNearTo_122 : decode cX11_addNearTo 122 = .ok (.aload_n 3, 1) := by decide +kernel
theorem dX11_addNearTo_123 : decode cX11_addNearTo 123 = .ok (.getfield 195, 3) := by decide +kernel
theorem dX11_addNearTo_126 : decode cX11_addNearTo 126 = .ok (.aload 7, 2) := by decide +kernel
theorem dX11_addNearTo_128 : decode cX11_addNearTo 128 = .ok (.getfield 195, 3) := by decide +kernel
theorem dX11_addNearTo_131 : decode cX11_addNearTo 131 = .ok (.invokevirtual 228, 3) := by decide +kernel
theorem dX11_addNearTo_134 : decode cX11_addNearTo 134 = .ok (.putfield 195, 3) := by decide +kernel
theorem dX11_addNearTo_137 : decode cX11_addNearTo 137 = .ok (.aload_n 1, 1) := by decide +kernel
theorem dX11_addNearTo_138 : decode cX11_addNearTo 138 = .ok (.aload_n 3, 1) := by decide +kernel
theorem dX11_addNearTo_139 : decode cX11_addNearTo 139 = .ok (.getfield 64, 3) := by decide +kernel
theorem dX11_addNearTo_142 : decode cX11_addNearTo 142 = .ok (.aload 7, 2) := by decide +kernel
theorem dX11_addNearTo_144 : decode cX11_addNearTo 144 = .ok (.getfield 64, 3) := by decide +kernel
theorem dX11_addNearTo_147 : decode cX11_addNearTo 147 = .ok (.invokestatic 231, 3) := by decide +kernel
theorem dX11_addNearTo_150 : decode cX11_addNearTo 150 = .ok (.aload_n 0, 1) := by decide +kernel
theorem dX11_addNearTo_151 : decode cX11_addNearTo 151 = .ok (.getfield 22, 3) := by decide +kernel
theorem dX11_addNearTo_154 : decode cX11_addNearTo 154 = .ok (.aload 7, 2) := by decide +kernel
theorem dX11_addNearTo_156 : decode cX11_addNearTo 156 = .ok (.invokevirtual 174, 3) := by decide +kernel
theorem dX11_addNearTo_159 : decode cX11_addNearTo 159 = .ok (.goto 7, 3) := by decide +kernel
theorem dX11_addNearTo_162 : decode cX11_addNearTo 162 = .ok (.aload 7, 2) := by decide +kernel
theorem dX11_addNearTo_164 : decode cX11_addNearTo 164 = .ok (.astore 6, 2) := by decide +kernel
theorem dX11_addNearTo_166 : decode cX11_addNearTo 166 = .ok (.aload 8, 2) := by decide +kernel
theorem dX11_addNearTo_168 : decode cX11_addNearTo 168 = .ok (.astore 7, 2) := by decide +kernel
theorem dX11_addNearTo_170 : decode cX11_addNearTo 170 = .ok (.goto (-161), 3) := by decide +kernel
theorem dX11_addNearTo_173 : decode cX11_addNearTo 173 = .ok (.return_, 1) := by decide +kernel
set_option maxRecDepth 20000 in
theorem a_X11_addNearTo_173 {Q : Sg → Unit → Prop} {X : Sg → String → Prop} {th : Nat} (K : MD l R p s m args c cX11_addNearTo 9 RX11 D cA tys A n0 s0 8 136 []) (hQ : CQV p l e R s m args below meth c cX11_addNearTo D cA A n0 s0 QM σi Q) (hX : CX p l e R s m args below meth c 9 D cA A n0 s0 QM σi X) (hTh : CT p l e R s m args below meth c cX11_addNearTo 9 D cA A n0 s0 QM σi RX11 X) : ∀ (σ : Sg), w_X11_addNearTo_173 th Q X σ → RG σ → TY σ → Ext σi σ → kO σ th 11 → JJ p l e R s m args below meth c 9 D cA A n0 s0 QM σ 173 [(0, .ref th)] [] := by
  intro σ h hGσ hYσ hE hth H locs ls hH hl hc
  have B := K.1
  have hl9 := K.2.2.2.2.2.2
  unfold w_X11_addNearTo_173 at h
  exact hQ _ _ _ _ _ dX11_addNearTo_173 hH hc h hGσ hYσ hE
set_option maxRecDepth 20000 in
theorem a_X11_addNearTo_166 {Q : Sg → Unit → Prop} {X : Sg → String → Prop} {th : Nat} (K : MD l R p s m args c cX11_addNearTo 9 RX11 D cA tys A n0 s0 8 136 []) (hQ : CQV p l e R s m args below meth c cX11_addNearTo D cA A n0 s0 QM σi Q) (hX : CX p l e R s m args below meth c 9 D cA A n0 s0 QM σi X) (hTh : CT p l e R s m args below meth c cX11_addNearTo 9 D cA A n0 s0 QM σi RX11 X) {K9 : Sg → Option Nat → Option Nat → Option Nat → Int64 → Option Nat → Option Nat → Prop} (hK9 : ∀ (σ : Sg) (v1 : Option Nat) (v2 : Option Nat) (v3 : Option Nat) (v4 : Int64) (v6 : Option Nat) (v7 : Option Nat) (g1 : tyV σ 5 v1) (g2 : tyV σ 1 v2) (g3 : tyV σ 0 v3) (g6 : tyV σ 0 v6) (g7 : tyV σ 0 v7), K9 σ v1 v2 v3 v4 v6 v7 → RG σ → TY σ → Ext σi σ → kO σ th 11 → JJ p l e R s m args below meth c 9 D cA A n0 s0 QM σ 9 [(0, .ref th), (1, va_rf v1), (2, va_rf v2), (3, va_rf v3), (4, .long v4), (6, va_rf v6), (7, va_rf v7)] []) : ∀ (σ : Sg) (v1 : Option Nat) (v2 : Option Nat) (v3 : Option Nat) (v4 : Int64) (v6 : Option Nat) (v8 : Option Nat) (g1 : tyV σ 5 v1) (g2 : tyV σ 1 v2) (g3 : tyV σ 0 v3) (g6 : tyV σ 0 v6) (g8 : tyV σ 0 v8), w_X11_addNearTo_166 th K9 Q X σ v1 v2 v3 v4 v6 v8 → RG σ → TY σ → Ext σi σ → kO σ th 11 → JJ p l e R s m args below meth c 9 D cA A n0 s0 QM σ 166 [(0, .ref th), (1, va_rf v1), (2, va_rf v2), (3, va_rf v3), (4, .long v4), (6, va_rf v6), (8, va_rf v8)] [] := by
  intro σ v1 v2 v3 v4 v6 v8 g1 g2 g3 g6 g8 h hGσ hYσ hE hth H locs ls hH hl hc
  have B := K.1
  have hl9 := K.2.2.2.2.2.2
  unfold w_X11_addNearTo_166 at h
  refine lv_aloadQ B.1 B.2.1 dX11_addNearTo_166 (lv_at hl 6 rfl) ?_
  refine lv_astoreQ (lv' := [(7, va_rf v8), (0, .ref th), (1, va_rf v1), (2, va_rf v2), (3, va_rf v3), (4, .long v4), (6, va_rf v6), (8, va_rf v8)]) B.1 B.2.1 dX11_addNearTo_168 hl (by decide) (by generalize v6 = w9; cases w9 <;> rfl) (fun ls hl => ?_)
  refine lv_goto (tgt := 9) B.1 B.2.1 dX11_addNearTo_170 (by decide) ?_
  exact hK9 _ _ _ _ _ _ _ g1 g2 g3 g6 g8 h hGσ hYσ hE hth _ _ _ hH (lv_sub (l' := [(0, .ref th), (1, va_rf v1), (2, va_rf v2), (3, va_rf v3), (4, .long v4), (6, va_rf v6), (7, va_rf v8)]) hl [1, 2, 3, 4, 5, 6, 0] rfl) hc
set_option maxRecDepth 20000 in
theorem a_X11_addNearTo_162 {Q : Sg → Unit → Prop} {X : Sg → String → Prop} {th : Nat} (K : MD l R p s m args c cX11_addNearTo 9 RX11 D cA tys A n0 s0 8 136 []) (hQ : CQV p l e R s m args below meth c cX11_addNearTo D cA A n0 s0 QM σi Q) (hX : CX p l e R s m args below meth c 9 D cA A n0 s0 QM σi X) (hTh : CT p l e R s m args below meth c cX11_addNearTo 9 D cA A n0 s0 QM σi RX11 X) {K9 : Sg → Option Nat → Option Nat → Option Nat → Int64 → Option Nat → Option Nat → Prop} (hK9 : ∀ (σ : Sg) (v1 : Option Nat) (v2 : Option Nat) (v3 : Option Nat) (v4 : Int64) (v6 : Option Nat) (v7 : Option Nat) (g1 : tyV σ 5 v1) (g2 : tyV σ 1 v2) (g3 : tyV σ 0 v3) (g6 : tyV σ 0 v6) (g7 : tyV σ 0 v7), K9 σ v1 v2 v3 v4 v6 v7 → RG σ → TY σ → Ext σi σ → kO σ th 11 → JJ p l e R s m args below meth c 9 D cA A n0 s0 QM σ 9 [(0, .ref th), (1, va_rf v1), (2, va_rf v2), (3, va_rf v3), (4, .long v4), (6, va_rf v6), (7, va_rf v7)] []) : ∀ (σ : Sg) (v1 : Option Nat) (v2 : Option Nat) (v3 : Option Nat) (v4 : Int64) (v7 : Option Nat) (v8 : Option Nat) (g1 : tyV σ 5 v1) (g2 : tyV σ 1 v2) (g3 : tyV σ 0 v3) (g7 : tyV σ 0 v7) (g8 : tyV σ 0 v8), w_X11_addNearTo_162 th K9 Q X σ v1 v2 v3 v4 v7 v8 → RG σ → TY σ → Ext σi σ → kO σ th 11 → JJ p l e R s m args below meth c 9 D cA A n0 s0 QM σ 162 [(0, .ref th), (1, va_rf v1), (2, va_rf v2), (3, va_rf v3), (4, .long v4), (7, va_rf v7), (8, va_rf v8)] [] := by
  intro σ v1 v2 v3 v4 v7 v8 g1 g2 g3 g7 g8 h hGσ hYσ hE hth H locs ls hH hl hc
  have B := K.1
  have hl9 := K.2.2.2.2.2.2
  unfold w_X11_addNearTo_162 at h
  refine lv_aloadQ B.1 B.2.1 dX11_addNearTo_162 (lv_at hl 5 rfl) ?_
  refine lv_astoreQ (lv' := [(6, va_rf v7), (0, .ref th), (1, va_rf v1), (2, va_rf v2), (3, va_rf v3), (4, .long v4), (7, va_rf v7), (8, va_rf v8)]) B.1 B.2.1 dX11_addNearTo_164 hl (by decide) rfl (fun ls hl => ?_)
  exact a_X11_addNearTo_166 K hQ hX hTh hK9 _ _ _ _ _ _ _ g1 g2 g3 g7 g8 h hGσ hYσ hE hth _ _ _ hH (lv_sub (l' := [(0, .ref th), (1, va_rf v1), (2, va_rf v2), (3, va_rf v3), (4, .long v4), (6, va_rf v7), (8, va_rf v8)]) hl [1, 2, 3, 4, 5, 0, 7] rfl) hc
set_option maxRecDepth 20000 in
theorem a_X11_addNearTo_68 {Q : Sg → Unit → Prop} {X : Sg → String → Prop} {th : Nat} (K : MD l R p s m args c cX11_addNearTo 9 RX11 D cA tys A n0 s0 8 136 []) (hQ : CQV p l e R s m args below meth c cX11_addNearTo D cA A n0 s0 QM σi Q) (hX : CX p l e R s m args below meth c 9 D cA A n0 s0 QM σi X) (hTh : CT p l e R s m args below meth c cX11_addNearTo 9 D cA A n0 s0 QM σi RX11 X) {K9 : Sg → Option Nat → Option Nat → Option Nat → Int64 → Option Nat → Option Nat → Prop} (hK9 : ∀ (σ : Sg) (v1 : Option Nat) (v2 : Option Nat) (v3 : Option Nat) (v4 : Int64) (v6 : Option Nat) (v7 : Option Nat) (g1 : tyV σ 5 v1) (g2 : tyV σ 1 v2) (g3 : tyV σ 0 v3) (g6 : tyV σ 0 v6) (g7 : tyV σ 0 v7), K9 σ v1 v2 v3 v4 v6 v7 → RG σ → TY σ → Ext σi σ → kO σ th 11 → JJ p l e R s m args below meth c 9 D cA A n0 s0 QM σ 9 [(0, .ref th), (1, va_rf v1), (2, va_rf v2), (3, va_rf v3), (4, .long v4), (6, va_rf v6), (7, va_rf v7)] []) : ∀ (σ : Sg) (v1 : Option Nat) (v2 : Option Nat) (v3 : Option Nat) (v4 : Int64) (v6 : Option Nat) (v7 : Option Nat) (v8 : Option Nat) (g1 : tyV σ 5 v1) (g2 : tyV σ 1 v2) (g3 : tyV σ 0 v3) (g6 : tyV σ 0 v6) (g7 : tyV σ 0 v7) (g8 : tyV σ 0 v8), w_X11_addNearTo_68 th K9 Q X σ v1 v2 v3 v4 v6 v7 v8 → RG σ → TY σ → Ext σi σ → kO σ th 11 → JJ p l e R s m args below meth c 9 D cA A n0 s0 QM σ 68 [(0, .ref th), (1, va_rf v1), (2, va_rf v2), (3, va_rf v3), (4, .long v4), (6, va_rf v6), (7, va_rf v7), (8, va_rf v8)] [] := by
  intro σ v1 v2 v3 v4 v6 v7 v8 g1 g2 g3 g6 g7 g8 h hGσ hYσ hE hth H locs ls hH hl hc
  have B := K.1
  have hl9 := K.2.2.2.2.2.2
  unfold w_X11_addNearTo_68 at h
  refine lv_aload_nQ B.1 B.2.1 dX11_addNearTo_68 rfl (lv_at hl 2 rfl) ?_
  refine lv_aloadQ B.1 B.2.1 dX11_addNearTo_69 (lv_at hl 5 rfl) ?_
  obtain ⟨a80, ea80, h⟩ := h
  have ka80 : kO σ a80 1 := g2 a80 ea80
  have h := h ka80
  refine W.eq (g2 := F0 m 71 ls [va_rf v6, .ref a80]) (by rw [ea80]; rfl) ?_
  refine c_V B hH hl hc K.2.2.1 (C := RX1) (T := TX1) (N := 3) (ci := 1) (As := [va_rf v6]) (ok_X1_cutBehind hl9 K.2.1 σ a80 v6 g6 ka80 hGσ hYσ h) wc_X11_238 1 hd_X1_cutBehind ⟨Nat.le_trans (Nat.le_of_ble_eq_true rfl) K.2.2.2.1, Nat.le_trans (Nat.le_of_ble_eq_true rfl) K.2.2.2.2.1⟩ ka80.1 ka80.2 (by decide) rfl rfl (rest := []) rfl (Nat.le_of_ble_eq_true rfl) dX11_addNearTo_71 (fun σ78 w hq => ?_) (fun σ9 E9 hx9 => hX σ9 E9 _ _ _ (tb_out K.2.2.2.2.2.1 rfl) hx9.1 hx9.2.1 hx9.2.2.1 (hE.trans hx9.2.2.2))
  obtain ⟨r79, rfl, tr79, h, hGσ78, hYσ78, xσ78⟩ := hq
  have h := h xσ78 tr79
  intro H locs ls hH hl hc
  refine W.eq (g2 := F0 m 74 ls [va_rf r79]) (rfl) ?_
  try dsimp only at h
  refine lv_pop B.1 B.2.1 dX11_addNearTo_74 (rf_cat _) ?_
  refine lv_aload_n B.1 B.2.1 dX11_addNearTo_75 rfl (lv_at hl 0 rfl) ?_
  refine lv_dup B.1 B.2.1 dX11_addNearTo_76 rfl ?_
  refine f_geti B hH (hth.up xσ78) (by decide) rfl wu_X11 4 (by decide) wf_X11_165 rfl rfl dX11_addNearTo_77 ?_
  refine lv_iconst (v := i32 1) B.1 B.2.1 dX11_addNearTo_80 (by decide) ?_
  obtain ⟨q1, h⟩ := h
  refine lv_isub B.1 B.2.1 dX11_addNearTo_81 ?_
  rw [i32_sub]
  obtain ⟨σ81, eσ81⟩ : ∃ z, z = pI σ78 th 4 (gI σ78 th 4 - 1) := ⟨_, rfl⟩
  have h := h σ81 eσ81
  refine f_puti B hH (hth.up xσ78) (by decide) rfl wu_X11 tyX11 tyX11_ok nmX11 4 (by decide) wf_X11_165 rfl (ty := .int) rfl rfl rfl rfl rfl dX11_addNearTo_82 (fun H locs hH => ?_)
  have hH : Hd D cA A s (pI σ78 th 4 (gI σ78 th 4 - 1)) H locs := hH
  rw [← eσ81] at hH
  have hGσ81 : RG σ81 := by rw [eσ81]; exact hGσ78.pI q1
  have hYσ81 : TY σ81 := by rw [eσ81]; exact hYσ78.pI
  have xσ81 : Ext σ78 σ81 := by rw [eσ81]; exact Ext.pI
  have hc : CB n0 s0 σ81 := by rw [eσ81]; exact hc
  rw [show gc σ78 = gc σ81 by rw [eσ81]; try rfl, show gs σ78 = gs σ81 by rw [eσ81]; try rfl]
  refine lv_aload_nQ B.1 B.2.1 dX11_addNearTo_85 rfl (lv_at hl 3 rfl) ?_
  refine lv_aload_nQ B.1 B.2.1 dX11_addNearTo_86 rfl (lv_at hl 3 rfl) ?_
  obtain ⟨a82, ea82, h⟩ := h
  have ka82 : kO σ81 a82 0 := (g3.up (xσ78.trans xσ81)) a82 ea82
  have h := h ka82
  refine W.eq (g2 := F0 m 87 ls [.ref a82, va_rf v3]) (by rw [ea82]; rfl) ?_
  refine f_getl B hH ka82 (by decide) rfl wu_X0 6 (by decide) wf_X11_92 rfl rfl dX11_addNearTo_87 ?_
  refine lv_aloadQ B.1 B.2.1 dX11_addNearTo_90 (lv_at hl 6 rfl) ?_
  obtain ⟨a83, ea83, h⟩ := h
  have ka83 : kO σ81 a83 0 := (g7.up (xσ78.trans xσ81)) a83 ea83
  have h := h ka83
  refine W.eq (g2 := F0 m 92 ls [.ref a83, .long (gJ σ81 a82 6), va_rf v3]) (by rw [ea83]; rfl) ?_
  refine f_getl B hH ka83 (by decide) rfl wu_X0 6 (by decide) wf_X11_92 rfl rfl dX11_addNearTo_92 ?_
  refine c_S B hH hl hc K.2.2.1 (As := [.long (gJ σ81 a82 6), .long (gJ σ81 a83 6)]) (okC_J9_min_f86c9 hl9 K.2.1 σ81 (gJ σ81 a82 6) (gJ σ81 a83 6) hGσ81 hYσ81 h) wc_X11_242 2 hdC_J9_min_f86c9 ⟨Nat.le_trans (Nat.le_of_ble_eq_true rfl) K.2.2.2.1, Nat.le_trans (Nat.le_of_ble_eq_true rfl) K.2.2.2.2.1⟩ rfl (rest := [va_rf v3]) rfl (by simp only [List.map_cons, List.map_nil, rf_cat]; exact Nat.le_of_ble_eq_true rfl) dX11_addNearTo_95 (fun σ84 w hq => ?_) (fun σ9 E9 hx9 => hX σ9 E9 _ _ _ (tb_out K.2.2.2.2.2.1 rfl) hx9.1 hx9.2.1 hx9.2.2.1 (((hE.trans xσ78).trans xσ81).trans hx9.2.2.2))
  obtain ⟨r85, rfl, h, hGσ84, hYσ84, xσ84⟩ := hq
  have h := h xσ84
  intro H locs ls hH hl hc
  refine W.eq (g2 := F0 m 98 ls [.long r85, va_rf v3]) (rfl) ?_
  try dsimp only at h
  obtain ⟨σ86, eσ86⟩ : ∃ z, z = pJ σ84 a82 6 r85 := ⟨_, rfl⟩
  have h := h σ86 eσ86
  refine W.eq (g2 := F0 m 98 ls [.long r85, .ref a82]) (by rw [ea82]; rfl) ?_
  refine f_putl B hH (ka82.up xσ84) (by decide) rfl wu_X0 tyX0 tyX0_ok nmX0 6 (by decide) wf_X11_92 rfl (ty := .long) rfl rfl rfl rfl rfl dX11_addNearTo_98 (fun H locs hH => ?_)
  have hH : Hd D cA A s (pJ σ84 a82 6 r85) H locs := hH
  rw [← eσ86] at hH
  have hGσ86 : RG σ86 := by rw [eσ86]; exact hGσ84.pJ
  have hYσ86 : TY σ86 := by rw [eσ86]; exact hYσ84.pJ
  have xσ86 : Ext σ84 σ86 := by rw [eσ86]; exact Ext.pJ
  have hc : CB n0 s0 σ86 := by rw [eσ86]; exact hc
  rw [show gc σ84 = gc σ86 by rw [eσ86]; try rfl, show gs σ84 = gs σ86 by rw [eσ86]; try rfl]
  refine lv_aload_nQ B.1 B.2.1 dX11_addNearTo_101 rfl (lv_at hl 3 rfl) ?_
  refine lv_aload_nQ B.1 B.2.1 dX11_addNearTo_102 rfl (lv_at hl 3 rfl) ?_
  refine W.eq (g2 := F0 m 103 ls [.ref a82, va_rf v3]) (by rw [ea82]; rfl) ?_
  refine f_getl B hH (ka82.up (xσ84.trans xσ86)) (by decide) rfl wu_X0 5 (by decide) wf_X11_85 rfl rfl dX11_addNearTo_103 ?_
  refine lv_aloadQ B.1 B.2.1 dX11_addNearTo_106 (lv_at hl 6 rfl) ?_
  refine W.eq (g2 := F0 m 108 ls [.ref a83, .long (gJ σ86 a82 5), va_rf v3]) (by rw [ea83]; rfl) ?_
  refine f_getl B hH (ka83.up (xσ84.trans xσ86)) (by decide) rfl wu_X0 5 (by decide) wf_X11_85 rfl rfl dX11_addNearTo_108 ?_
  refine c_S B hH hl hc K.2.2.1 (As := [.long (gJ σ86 a82 5), .long (gJ σ86 a83 5)]) (okC_J9_max_f86c9 hl9 K.2.1 σ86 (gJ σ86 a82 5) (gJ σ86 a83 5) hGσ86 hYσ86 h) wc_X11_245 2 hdC_J9_max_f86c9 ⟨Nat.le_trans (Nat.le_of_ble_eq_true rfl) K.2.2.2.1, Nat.le_trans (Nat.le_of_ble_eq_true rfl) K.2.2.2.2.1⟩ rfl (rest := [va_rf v3]) rfl (by simp only [List.map_cons, List.map_nil, rf_cat]; exact Nat.le_of_ble_eq_true rfl) dX11_addNearTo_111 (fun σ87 w hq => ?_) (fun σ9 E9 hx9 => hX σ9 E9 _ _ _ (tb_out K.2.2.2.2.2.1 rfl) hx9.1 hx9.2.1 hx9.2.2.1 (((((hE.trans xσ78).trans xσ81).trans xσ84).trans xσ86).trans hx9.2.2.2))
  obtain ⟨r88, rfl, h, hGσ87, hYσ87, xσ87⟩ := hq
  have h := h xσ87
  intro H locs ls hH hl hc
  refine W.eq (g2 := F0 m 114 ls [.long r88, va_rf v3]) (rfl) ?_
  try dsimp only at h
  obtain ⟨σ89, eσ89⟩ : ∃ z, z = pJ σ87 a82 5 r88 := ⟨_, rfl⟩
  have h := h σ89 eσ89
  refine W.eq (g2 := F0 m 114 ls [.long r88, .ref a82]) (by rw [ea82]; rfl) ?_
  refine f_putl B hH (ka82.up (xσ84.trans (xσ86.trans xσ87))) (by decide) rfl wu_X0 tyX0 tyX0_ok nmX0 5 (by decide) wf_X11_85 rfl (ty := .long) rfl rfl rfl rfl rfl dX11_addNearTo_114 (fun H locs hH => ?_)
  have hH : Hd D cA A s (pJ σ87 a82 5 r88) H locs := hH
  rw [← eσ89] at hH
  have hGσ89 : RG σ89 := by rw [eσ89]; exact hGσ87.pJ
  have hYσ89 : TY σ89 := by rw [eσ89]; exact hYσ87.pJ
  have xσ89 : Ext σ87 σ89 := by rw [eσ89]; exact Ext.pJ
  have hc : CB n0 s0 σ89 := by rw [eσ89]; exact hc
  rw [show gc σ87 = gc σ89 by rw [eσ89]; try rfl, show gs σ87 = gs σ89 by rw [eσ89]; try rfl]
  refine lv_aload_nQ B.1 B.2.1 dX11_addNearTo_117 rfl (lv_at hl 3 rfl) ?_
  refine lv_aload_n B.1 B.2.1 dX11_addNearTo_118 rfl (lv_at hl 0 rfl) ?_
  refine f_getp B hH (hth.up (xσ78.trans (xσ81.trans (xσ84.trans (xσ86.trans (xσ87.trans xσ89)))))) (by decide) rfl wu_X11 0 (by decide) wf_X11_22 rfl rfl dX11_addNearTo_119 ?_
  refine lv_aload_nQ B.1 B.2.1 dX11_addNearTo_122 rfl (lv_at hl 3 rfl) ?_
  refine W.eq (g2 := F0 m 123 ls [.ref a82, va_rf (gP σ89 th 0), va_rf v3]) (by rw [ea82]; rfl) ?_
  refine f_geti B hH (ka82.up (xσ84.trans (xσ86.trans (xσ87.trans xσ89)))) (by decide) rfl wu_X0 4 (by decide) wf_X11_195 rfl rfl dX11_addNearTo_123 ?_
  refine lv_aloadQ B.1 B.2.1 dX11_addNearTo_126 (lv_at hl 6 rfl) ?_
  refine W.eq (g2 := F0 m 128 ls [.ref a83, .int (i32 (gI σ89 a82 4)), va_rf (gP σ89 th 0), va_rf v3]) (by rw [ea83]; rfl) ?_
  refine f_geti B hH (ka83.up (xσ84.trans (xσ86.trans (xσ87.trans xσ89)))) (by decide) rfl wu_X0 4 (by decide) wf_X11_195 rfl rfl dX11_addNearTo_128 ?_
  obtain ⟨a92, ea92, h⟩ := h
  have ka92 : kO σ89 a92 8 := (hYσ89.get (hth.up (xσ78.trans (xσ81.trans (xσ84.trans (xσ86.trans (xσ87.trans xσ89)))))) (by decide)) a92 ea92
  have h := h ka92
  refine W.eq (g2 := F0 m 131 ls [.int (i32 (gI σ89 a83 4)), .int (i32 (gI σ89 a82 4)), .ref a92, va_rf v3]) (by rw [ea92]; rfl) ?_
  refine c_V B hH hl hc K.2.2.1 (C := RX8) (T := TX8) (N := 3) (ci := 8) (As := [.int (i32 (gI σ89 a82 4)), .int (i32 (gI σ89 a83 4))]) (ok_X8_together hl9 K.2.1 σ89 a92 (gI σ89 a82 4) (gI σ89 a83 4) (hGσ89 _ _) (hGσ89 _ _) ka92 hGσ89 hYσ89 h) wc_X11_228 2 hd_X8_together ⟨Nat.le_trans (Nat.le_of_ble_eq_true rfl) K.2.2.2.1, Nat.le_trans (Nat.le_of_ble_eq_true rfl) K.2.2.2.2.1⟩ ka92.1 ka92.2 (by decide) rfl rfl (rest := [va_rf v3]) rfl (by simp only [List.map_cons, List.map_nil, rf_cat]; exact Nat.le_of_ble_eq_true rfl) dX11_addNearTo_131 (fun σ90 w hq => ?_) (fun σ9 E9 hx9 => hX σ9 E9 _ _ _ (tb_out K.2.2.2.2.2.1 rfl) hx9.1 hx9.2.1 hx9.2.2.1 (((((((hE.trans xσ78).trans xσ81).trans xσ84).trans xσ86).trans xσ87).trans xσ89).trans hx9.2.2.2))
  obtain ⟨r91, rfl, gr91, h, hGσ90, hYσ90, xσ90⟩ := hq
  have h := h xσ90
  intro H locs ls hH hl hc
  refine W.eq (g2 := F0 m 134 ls [.int (i32 r91), va_rf v3]) (rfl) ?_
  try dsimp only at h
  obtain ⟨σ93, eσ93⟩ : ∃ z, z = pI σ90 a82 4 r91 := ⟨_, rfl⟩
  have h := h σ93 eσ93
  refine W.eq (g2 := F0 m 134 ls [.int (i32 r91), .ref a82]) (by rw [ea82]; rfl) ?_
  refine f_puti B hH (ka82.up (xσ84.trans (xσ86.trans (xσ87.trans (xσ89.trans xσ90))))) (by decide) rfl wu_X0 tyX0 tyX0_ok nmX0 4 (by decide) wf_X11_195 rfl (ty := .int) rfl rfl rfl rfl rfl dX11_addNearTo_134 (fun H locs hH => ?_)
  have hH : Hd D cA A s (pI σ90 a82 4 r91) H locs := hH
  rw [← eσ93] at hH
  have hGσ93 : RG σ93 := by rw [eσ93]; exact hGσ90.pI gr91
  have hYσ93 : TY σ93 := by rw [eσ93]; exact hYσ90.pI
  have xσ93 : Ext σ90 σ93 := by rw [eσ93]; exact Ext.pI
  have hc : CB n0 s0 σ93 := by rw [eσ93]; exact hc
  rw [show gc σ90 = gc σ93 by rw [eσ93]; try rfl, show gs σ90 = gs σ93 by rw [eσ93]; try rfl]
  refine lv_aload_nQ B.1 B.2.1 dX11_addNearTo_137 rfl (lv_at hl 1 rfl) ?_
  refine lv_aload_nQ B.1 B.2.1 dX11_addNearTo_138 rfl (lv_at hl 3 rfl) ?_
  refine W.eq (g2 := F0 m 139 ls [.ref a82, va_rf v1]) (by rw [ea82]; rfl) ?_
  refine f_getp B hH (ka82.up (xσ84.trans (xσ86.trans (xσ87.trans (xσ89.trans (xσ90.trans xσ93)))))) (by decide) rfl wu_X0 0 (by decide) wf_X11_64 rfl rfl dX11_addNearTo_139 ?_
  refine lv_aloadQ B.1 B.2.1 dX11_addNearTo_142 (lv_at hl 6 rfl) ?_
  refine W.eq (g2 := F0 m 144 ls [.ref a83, va_rf (gP σ93 a82 0), va_rf v1]) (by rw [ea83]; rfl) ?_
  refine f_getp B hH (ka83.up (xσ84.trans (xσ86.trans (xσ87.trans (xσ89.trans (xσ90.trans xσ93)))))) (by decide) rfl wu_X0 0 (by decide) wf_X11_64 rfl rfl dX11_addNearTo_144 ?_
  refine W.eq (g2 := F0 m 147 ls [va_rf (gP σ93 a83 0), va_rf (gP σ93 a82 0), va_rf v1]) (rfl) ?_
  refine c_S B hH hl hc K.2.2.1 (As := [va_rf v1, va_rf (gP σ93 a82 0), va_rf (gP σ93 a83 0)]) (ok_X11_addUp hl9 K.2.1 σ93 v1 (gP σ93 a82 0) (gP σ93 a83 0) (g1.up (xσ78.trans (xσ81.trans (xσ84.trans (xσ86.trans (xσ87.trans (xσ89.trans (xσ90.trans xσ93)))))))) (hYσ93.get (ka82.up (xσ84.trans (xσ86.trans (xσ87.trans (xσ89.trans (xσ90.trans xσ93)))))) (by decide)) (hYσ93.get (ka83.up (xσ84.trans (xσ86.trans (xσ87.trans (xσ89.trans (xσ90.trans xσ93)))))) (by decide)) hGσ93 hYσ93 h) wc_X11_231 3 hd_X11_addUp ⟨Nat.le_trans (Nat.le_of_ble_eq_true rfl) K.2.2.2.1, Nat.le_trans (Nat.le_of_ble_eq_true rfl) K.2.2.2.2.1⟩ rfl (rest := []) rfl (Nat.le_of_ble_eq_true rfl) dX11_addNearTo_147 (fun σ94 w hq => ?_) (fun σ9 E9 hx9 => hX σ9 E9 _ _ _ (tb_out K.2.2.2.2.2.1 rfl) hx9.1 hx9.2.1 hx9.2.2.1 (((((((((hE.trans xσ78).trans xσ81).trans xσ84).trans xσ86).trans xσ87).trans xσ89).trans xσ90).trans xσ93).trans hx9.2.2.2))
  obtain ⟨rfl, h, hGσ94, hYσ94, xσ94⟩ := hq
  have h := h xσ94
  intro H locs ls hH hl hc
  refine W.eq (g2 := F0 m 150 ls []) (rfl) ?_
  try dsimp only at h
  refine lv_aload_n B.1 B.2.1 dX11_addNearTo_150 rfl (lv_at hl 0 rfl) ?_
  refine f_getp B hH (hth.up (xσ78.trans (xσ81.trans (xσ84.trans (xσ86.trans (xσ87.trans (xσ89.trans (xσ90.trans (xσ93.trans xσ94))))))))) (by decide) rfl wu_X11 0 (by decide) wf_X11_22 rfl rfl dX11_addNearTo_151 ?_
  refine lv_aloadQ B.1 B.2.1 dX11_addNearTo_154 (lv_at hl 6 rfl) ?_
  obtain ⟨a96, ea96, h⟩ := h
  have ka96 : kO σ94 a96 8 := (hYσ94.get (hth.up (xσ78.trans (xσ81.trans (xσ84.trans (xσ86.trans (xσ87.trans (xσ89.trans (xσ90.trans (xσ93.trans xσ94))))))))) (by decide)) a96 ea96
  have h := h ka96
  refine W.eq (g2 := F0 m 156 ls [va_rf v7, .ref a96]) (by rw [ea96]; rfl) ?_
  refine c_V B hH hl hc K.2.2.1 (C := RX8) (T := TX8) (N := 3) (ci := 8) (As := [va_rf v7]) (ok_X8_release hl9 K.2.1 σ94 a96 v7 (g7.up (xσ78.trans (xσ81.trans (xσ84.trans (xσ86.trans (xσ87.trans (xσ89.trans (xσ90.trans (xσ93.trans xσ94))))))))) ka96 hGσ94 hYσ94 h) wc_X11_174 1 hd_X8_release ⟨Nat.le_trans (Nat.le_of_ble_eq_true rfl) K.2.2.2.1, Nat.le_trans (Nat.le_of_ble_eq_true rfl) K.2.2.2.2.1⟩ ka96.1 ka96.2 (by decide) rfl rfl (rest := []) rfl (Nat.le_of_ble_eq_true rfl) dX11_addNearTo_156 (fun σ95 w hq => ?_) (fun σ9 E9 hx9 => hX σ9 E9 _ _ _ (tb_out K.2.2.2.2.2.1 rfl) hx9.1 hx9.2.1 hx9.2.2.1 ((((((((((hE.trans xσ78).trans xσ81).trans xσ84).trans xσ86).trans xσ87).trans xσ89).trans xσ90).trans xσ93).trans xσ94).trans hx9.2.2.2))
  obtain ⟨rfl, h, hGσ95, hYσ95, xσ95⟩ := hq
  have h := h xσ95
  intro H locs ls hH hl hc
  refine W.eq (g2 := F0 m 159 ls []) (rfl) ?_
  try dsimp only at h
  refine lv_goto (tgt := 166) B.1 B.2.1 dX11_addNearTo_159 (by decide) ?_
  exact a_X11_addNearTo_166 K hQ hX hTh hK9 _ _ _ _ _ _ _ (g1.up (xσ78.trans (xσ81.trans (xσ84.trans (xσ86.trans (xσ87.trans (xσ89.trans (xσ90.trans (xσ93.trans (xσ94.trans xσ95)))))))))) (g2.up (xσ78.trans (xσ81.trans (xσ84.trans (xσ86.trans (xσ87.trans (xσ89.trans (xσ90.trans (xσ93.trans (xσ94.trans xσ95)))))))))) (g3.up (xσ78.trans (xσ81.trans (xσ84.trans (xσ86.trans (xσ87.trans (xσ89.trans (xσ90.trans (xσ93.trans (xσ94.trans xσ95)))))))))) (g6.up (xσ78.trans (xσ81.trans (xσ84.trans (xσ86.trans (xσ87.trans (xσ89.trans (xσ90.trans (xσ93.trans (xσ94.trans xσ95)))))))))) (g8.up (xσ78.trans (xσ81.trans (xσ84.trans (xσ86.trans (xσ87.trans (xσ89.trans (xσ90.trans (xσ93.trans (xσ94.trans xσ95)))))))))) h hGσ95 hYσ95 ((((((((((hE.trans xσ78).trans xσ81).trans xσ84).trans xσ86).trans xσ87).trans xσ89).trans xσ90).trans xσ93).trans xσ94).trans xσ95) (hth.up (xσ78.trans (xσ81.trans (xσ84.trans (xσ86.trans (xσ87.trans (xσ89.trans (xσ90.trans (xσ93.trans (xσ94.trans xσ95)))))))))) _ _ _ hH (lv_sub (l' := [(0, .ref th), (1, va_rf v1), (2, va_rf v2), (3, va_rf v3), (4, .long v4), (6, va_rf v6), (8, va_rf v8)]) hl [0, 1, 2, 3, 4, 5, 7] rfl) hc
set_option maxRecDepth 20000 in
theorem a_X11_addNearTo_51 {Q : Sg → Unit → Prop} {X : Sg → String → Prop} {th : Nat} (K : MD l R p s m args c cX11_addNearTo 9 RX11 D cA tys A n0 s0 8 136 []) (hQ : CQV p l e R s m args below meth c cX11_addNearTo D cA A n0 s0 QM σi Q) (hX : CX p l e R s m args below meth c 9 D cA A n0 s0 QM σi X) (hTh : CT p l e R s m args below meth c cX11_addNearTo 9 D cA A n0 s0 QM σi RX11 X) {K9 : Sg → Option Nat → Option Nat → Option Nat → Int64 → Option Nat → Option Nat → Prop} (hK9 : ∀ (σ : Sg) (v1 : Option Nat) (v2 : Option Nat) (v3 : Option Nat) (v4 : Int64) (v6 : Option Nat) (v7 : Option Nat) (g1 : tyV σ 5 v1) (g2 : tyV σ 1 v2) (g3 : tyV σ 0 v3) (g6 : tyV σ 0 v6) (g7 : tyV σ 0 v7), K9 σ v1 v2 v3 v4 v6 v7 → RG σ → TY σ → Ext σi σ → kO σ th 11 → JJ p l e R s m args below meth c 9 D cA A n0 s0 QM σ 9 [(0, .ref th), (1, va_rf v1), (2, va_rf v2), (3, va_rf v3), (4, .long v4), (6, va_rf v6), (7, va_rf v7)] []) : ∀ (σ : Sg) (v1 : Option Nat) (v2 : Option Nat) (v3 : Option Nat) (v4 : Int64) (v6 : Option Nat) (v7 : Option Nat) (v8 : Option Nat) (g1 : tyV σ 5 v1) (g2 : tyV σ 1 v2) (g3 : tyV σ 0 v3) (g6 : tyV σ 0 v6) (g7 : tyV σ 0 v7) (g8 : tyV σ 0 v8), w_X11_addNearTo_51 th K9 Q X σ v1 v2 v3 v4 v6 v7 v8 → RG σ → TY σ → Ext σi σ → kO σ th 11 → JJ p l e R s m args below meth c 9 D cA A n0 s0 QM σ 51 [(0, .ref th), (1, va_rf v1), (2, va_rf v2), (3, va_rf v3), (4, .long v4), (6, va_rf v6), (7, va_rf v7), (8, va_rf v8)] [] := by
  intro σ v1 v2 v3 v4 v6 v7 v8 g1 g2 g3 g6 g7 g8 h hGσ hYσ hE hth H locs ls hH hl hc
  have B := K.1
  have hl9 := K.2.2.2.2.2.2
  unfold w_X11_addNearTo_51 at h
  refine lv_lload B.1 B.2.1 dX11_addNearTo_51 (lv_at hl 4 rfl) ?_
  refine lv_aloadQ B.1 B.2.1 dX11_addNearTo_53 (lv_at hl 6 rfl) ?_
  obtain ⟨a97, ea97, h⟩ := h
  have ka97 : kO σ a97 0 := g7 a97 ea97
  have h := h ka97
  refine W.eq (g2 := F0 m 55 ls [.ref a97, .long v4]) (by rw [ea97]; rfl) ?_
  refine f_getl B hH ka97 (by decide) rfl wu_X0 5 (by decide) wf_X11_85 rfl rfl dX11_addNearTo_55 ?_
  refine lv_lsub B.1 B.2.1 dX11_addNearTo_58 ?_
  refine lv_aload_nQ B.1 B.2.1 dX11_addNearTo_59 rfl (lv_at hl 1 rfl) ?_
  obtain ⟨a98, ea98, h⟩ := h
  have ka98 : kO σ a98 5 := g1 a98 ea98
  have h := h ka98
  refine W.eq (g2 := F0 m 60 ls [.ref a98, .long (v4 - gJ σ a97 5)]) (by rw [ea98]; rfl) ?_
  refine f_geti B hH ka98 (by decide) rfl wu_X5 11 (by decide) wf_X11_76 rfl rfl dX11_addNearTo_60 ?_
  refine lv_i2l B.1 B.2.1 dX11_addNearTo_63 (i32_i64 (hGσ _ _)) ?_
  refine W.lcmp B.1 B.2.1 dX11_addNearTo_64 ?_
  refine lv_if_ge (tgt := 162) B.1 B.2.1 dX11_addNearTo_65 (by decide) (fun h9 => ?_) (fun h9 => ?_)
  · rw [if_pos ((lg_cmp_ge _ _).mp h9)] at h
    exact a_X11_addNearTo_162 K hQ hX hTh hK9 _ _ _ _ _ _ _ g1 g2 g3 g7 g8 h hGσ hYσ hE hth _ _ _ hH (lv_sub (l' := [(0, .ref th), (1, va_rf v1), (2, va_rf v2), (3, va_rf v3), (4, .long v4), (7, va_rf v7), (8, va_rf v8)]) hl [0, 1, 2, 3, 4, 6, 7] rfl) hc
  · rw [if_neg (fun q => h9 ((lg_cmp_ge _ _).mpr q))] at h
    exact a_X11_addNearTo_68 K hQ hX hTh hK9 _ _ _ _ _ _ _ _ g1 g2 g3 g6 g7 g8 h hGσ hYσ hE hth _ _ _ hH (lv_sub (l' := [(0, .ref th), (1, va_rf v1), (2, va_rf v2), (3, va_rf v3), (4, .long v4), (6, va_rf v6), (7, va_rf v7), (8, va_rf v8)]) hl [0, 1, 2, 3, 4, 5, 6, 7] rfl) hc
set_option maxRecDepth 20000 in
theorem a_X11_addNearTo_34 {Q : Sg → Unit → Prop} {X : Sg → String → Prop} {th : Nat} (K : MD l R p s m args c cX11_addNearTo 9 RX11 D cA tys A n0 s0 8 136 []) (hQ : CQV p l e R s m args below meth c cX11_addNearTo D cA A n0 s0 QM σi Q) (hX : CX p l e R s m args below meth c 9 D cA A n0 s0 QM σi X) (hTh : CT p l e R s m args below meth c cX11_addNearTo 9 D cA A n0 s0 QM σi RX11 X) {K9 : Sg → Option Nat → Option Nat → Option Nat → Int64 → Option Nat → Option Nat → Prop} (hK9 : ∀ (σ : Sg) (v1 : Option Nat) (v2 : Option Nat) (v3 : Option Nat) (v4 : Int64) (v6 : Option Nat) (v7 : Option Nat) (g1 : tyV σ 5 v1) (g2 : tyV σ 1 v2) (g3 : tyV σ 0 v3) (g6 : tyV σ 0 v6) (g7 : tyV σ 0 v7), K9 σ v1 v2 v3 v4 v6 v7 → RG σ → TY σ → Ext σi σ → kO σ th 11 → JJ p l e R s m args below meth c 9 D cA A n0 s0 QM σ 9 [(0, .ref th), (1, va_rf v1), (2, va_rf v2), (3, va_rf v3), (4, .long v4), (6, va_rf v6), (7, va_rf v7)] []) : ∀ (σ : Sg) (v1 : Option Nat) (v2 : Option Nat) (v3 : Option Nat) (v4 : Int64) (v6 : Option Nat) (v7 : Option Nat) (v8 : Option Nat) (g1 : tyV σ 5 v1) (g2 : tyV σ 1 v2) (g3 : tyV σ 0 v3) (g6 : tyV σ 0 v6) (g7 : tyV σ 0 v7) (g8 : tyV σ 0 v8), w_X11_addNearTo_34 th K9 Q X σ v1 v2 v3 v4 v6 v7 v8 → RG σ → TY σ → Ext σi σ → kO σ th 11 → JJ p l e R s m args below meth c 9 D cA A n0 s0 QM σ 34 [(0, .ref th), (1, va_rf v1), (2, va_rf v2), (3, va_rf v3), (4, .long v4), (6, va_rf v6), (7, va_rf v7), (8, va_rf v8)] [] := by
  intro σ v1 v2 v3 v4 v6 v7 v8 g1 g2 g3 g6 g7 g8 h hGσ hYσ hE hth H locs ls hH hl hc
  have B := K.1
  have hl9 := K.2.2.2.2.2.2
  unfold w_X11_addNearTo_34 at h
  refine lv_aloadQ B.1 B.2.1 dX11_addNearTo_34 (lv_at hl 6 rfl) ?_
  obtain ⟨a99, ea99, h⟩ := h
  have ka99 : kO σ a99 0 := g7 a99 ea99
  have h := h ka99
  refine W.eq (g2 := F0 m 36 ls [.ref a99]) (by rw [ea99]; rfl) ?_
  refine f_getl B hH ka99 (by decide) rfl wu_X0 6 (by decide) wf_X11_92 rfl rfl dX11_addNearTo_36 ?_
  refine lv_lload B.1 B.2.1 dX11_addNearTo_39 (lv_at hl 4 rfl) ?_
  refine lv_lsub B.1 B.2.1 dX11_addNearTo_41 ?_
  refine lv_aload_nQ B.1 B.2.1 dX11_addNearTo_42 rfl (lv_at hl 1 rfl) ?_
  obtain ⟨a100, ea100, h⟩ := h
  have ka100 : kO σ a100 5 := g1 a100 ea100
  have h := h ka100
  refine W.eq (g2 := F0 m 43 ls [.ref a100, .long (gJ σ a99 6 - v4)]) (by rw [ea100]; rfl) ?_
  refine f_geti B hH ka100 (by decide) rfl wu_X5 11 (by decide) wf_X11_76 rfl rfl dX11_addNearTo_43 ?_
  refine lv_i2l B.1 B.2.1 dX11_addNearTo_46 (i32_i64 (hGσ _ _)) ?_
  refine W.lcmp B.1 B.2.1 dX11_addNearTo_47 ?_
  refine lv_if_ge (tgt := 162) B.1 B.2.1 dX11_addNearTo_48 (by decide) (fun h9 => ?_) (fun h9 => ?_)
  · rw [if_pos ((lg_cmp_ge _ _).mp h9)] at h
    exact a_X11_addNearTo_162 K hQ hX hTh hK9 _ _ _ _ _ _ _ g1 g2 g3 g7 g8 h hGσ hYσ hE hth _ _ _ hH (lv_sub (l' := [(0, .ref th), (1, va_rf v1), (2, va_rf v2), (3, va_rf v3), (4, .long v4), (7, va_rf v7), (8, va_rf v8)]) hl [0, 1, 2, 3, 4, 6, 7] rfl) hc
  · rw [if_neg (fun q => h9 ((lg_cmp_ge _ _).mpr q))] at h
    exact a_X11_addNearTo_51 K hQ hX hTh hK9 _ _ _ _ _ _ _ _ g1 g2 g3 g6 g7 g8 h hGσ hYσ hE hth _ _ _ hH (lv_sub (l' := [(0, .ref th), (1, va_rf v1), (2, va_rf v2), (3, va_rf v3), (4, .long v4), (6, va_rf v6), (7, va_rf v7), (8, va_rf v8)]) hl [0, 1, 2, 3, 4, 5, 6, 7] rfl) hc
set_option maxRecDepth 20000 in
theorem a_X11_addNearTo_14 {Q : Sg → Unit → Prop} {X : Sg → String → Prop} {th : Nat} (K : MD l R p s m args c cX11_addNearTo 9 RX11 D cA tys A n0 s0 8 136 []) (hQ : CQV p l e R s m args below meth c cX11_addNearTo D cA A n0 s0 QM σi Q) (hX : CX p l e R s m args below meth c 9 D cA A n0 s0 QM σi X) (hTh : CT p l e R s m args below meth c cX11_addNearTo 9 D cA A n0 s0 QM σi RX11 X) {K9 : Sg → Option Nat → Option Nat → Option Nat → Int64 → Option Nat → Option Nat → Prop} (hK9 : ∀ (σ : Sg) (v1 : Option Nat) (v2 : Option Nat) (v3 : Option Nat) (v4 : Int64) (v6 : Option Nat) (v7 : Option Nat) (g1 : tyV σ 5 v1) (g2 : tyV σ 1 v2) (g3 : tyV σ 0 v3) (g6 : tyV σ 0 v6) (g7 : tyV σ 0 v7), K9 σ v1 v2 v3 v4 v6 v7 → RG σ → TY σ → Ext σi σ → kO σ th 11 → JJ p l e R s m args below meth c 9 D cA A n0 s0 QM σ 9 [(0, .ref th), (1, va_rf v1), (2, va_rf v2), (3, va_rf v3), (4, .long v4), (6, va_rf v6), (7, va_rf v7)] []) : ∀ (σ : Sg) (v1 : Option Nat) (v2 : Option Nat) (v3 : Option Nat) (v4 : Int64) (v6 : Option Nat) (v7 : Option Nat) (g1 : tyV σ 5 v1) (g2 : tyV σ 1 v2) (g3 : tyV σ 0 v3) (g6 : tyV σ 0 v6) (g7 : tyV σ 0 v7), w_X11_addNearTo_14 th K9 Q X σ v1 v2 v3 v4 v6 v7 → RG σ → TY σ → Ext σi σ → kO σ th 11 → JJ p l e R s m args below meth c 9 D cA A n0 s0 QM σ 14 [(0, .ref th), (1, va_rf v1), (2, va_rf v2), (3, va_rf v3), (4, .long v4), (6, va_rf v6), (7, va_rf v7)] [] := by
  intro σ v1 v2 v3 v4 v6 v7 g1 g2 g3 g6 g7 h hGσ hYσ hE hth H locs ls hH hl hc
  have B := K.1
  have hl9 := K.2.2.2.2.2.2
  unfold w_X11_addNearTo_14 at h
  refine lv_aloadQ B.1 B.2.1 dX11_addNearTo_14 (lv_at hl 6 rfl) ?_
  obtain ⟨a101, ea101, h⟩ := h
  have ka101 : kO σ a101 0 := g7 a101 ea101
  have h := h ka101
  refine W.eq (g2 := F0 m 16 ls [.ref a101]) (by rw [ea101]; rfl) ?_
  refine f_getp B hH ka101 (by decide) rfl wu_X0 1 (by decide) wf_X11_235 rfl rfl dX11_addNearTo_16 ?_
  refine lv_astoreQ (lv' := [(8, va_rf (gP σ a101 1)), (0, .ref th), (1, va_rf v1), (2, va_rf v2), (3, va_rf v3), (4, .long v4), (6, va_rf v6), (7, va_rf v7)]) B.1 B.2.1 dX11_addNearTo_19 hl (by decide) (by generalize v7 = w9; cases w9 <;> rfl) (fun ls hl => ?_)
  refine lv_aloadQ B.1 B.2.1 dX11_addNearTo_21 (lv_at hl 7 rfl) ?_
  refine W.eq (g2 := F0 m 23 ls [.ref a101]) (by rw [ea101]; rfl) ?_
  refine f_getl B hH ka101 (by decide) rfl wu_X0 7 (by decide) wf_X11_72 rfl rfl dX11_addNearTo_23 ?_
  refine lv_aload_nQ B.1 B.2.1 dX11_addNearTo_26 rfl (lv_at hl 4 rfl) ?_
  obtain ⟨a102, ea102, h⟩ := h
  have ka102 : kO σ a102 0 := g3 a102 ea102
  have h := h ka102
  refine W.eq (g2 := F0 m 27 ls [.ref a102, .long (gJ σ a101 7)]) (by rw [ea102]; rfl) ?_
  refine f_getl B hH ka102 (by decide) rfl wu_X0 7 (by decide) wf_X11_72 rfl rfl dX11_addNearTo_27 ?_
  refine W.lcmp B.1 B.2.1 dX11_addNearTo_30 ?_
  refine lv_if_ne (tgt := 162) B.1 B.2.1 dX11_addNearTo_31 (by decide) (fun h9 => ?_) (fun h9 => ?_)
  · rw [if_pos (fun q => h9 ((lg_cmp_eq _ _).mpr q))] at h
    exact a_X11_addNearTo_162 K hQ hX hTh hK9 _ _ _ _ _ _ _ g1 g2 g3 g7 (hYσ.get ka101 (by decide)) h hGσ hYσ hE hth _ _ _ hH (lv_sub (l' := [(0, .ref th), (1, va_rf v1), (2, va_rf v2), (3, va_rf v3), (4, .long v4), (7, va_rf v7), (8, va_rf (gP σ a101 1))]) hl [1, 2, 3, 4, 5, 7, 0] rfl) hc
  · rw [if_neg (fun q => q ((lg_cmp_eq _ _).mp h9))] at h
    exact a_X11_addNearTo_34 K hQ hX hTh hK9 _ _ _ _ _ _ _ _ g1 g2 g3 g6 g7 (hYσ.get ka101 (by decide)) h hGσ hYσ hE hth _ _ _ hH (lv_sub (l' := [(0, .ref th), (1, va_rf v1), (2, va_rf v2), (3, va_rf v3), (4, .long v4), (6, va_rf v6), (7, va_rf v7), (8, va_rf (gP σ a101 1))]) hl [1, 2, 3, 4, 5, 6, 7, 0] rfl) hc
set_option maxRecDepth 20000 in
theorem a_X11_addNearTo_9 {Q : Sg → Unit → Prop} {X : Sg → String → Prop} {th : Nat} (K : MD l R p s m args c cX11_addNearTo 9 RX11 D cA tys A n0 s0 8 136 []) (hQ : CQV p l e R s m args below meth c cX11_addNearTo D cA A n0 s0 QM σi Q) (hX : CX p l e R s m args below meth c 9 D cA A n0 s0 QM σi X) (hTh : CT p l e R s m args below meth c cX11_addNearTo 9 D cA A n0 s0 QM σi RX11 X) {K9 : Sg → Option Nat → Option Nat → Option Nat → Int64 → Option Nat → Option Nat → Prop} (hK9 : ∀ (σ : Sg) (v1 : Option Nat) (v2 : Option Nat) (v3 : Option Nat) (v4 : Int64) (v6 : Option Nat) (v7 : Option Nat) (g1 : tyV σ 5 v1) (g2 : tyV σ 1 v2) (g3 : tyV σ 0 v3) (g6 : tyV σ 0 v6) (g7 : tyV σ 0 v7), K9 σ v1 v2 v3 v4 v6 v7 → RG σ → TY σ → Ext σi σ → kO σ th 11 → JJ p l e R s m args below meth c 9 D cA A n0 s0 QM σ 9 [(0, .ref th), (1, va_rf v1), (2, va_rf v2), (3, va_rf v3), (4, .long v4), (6, va_rf v6), (7, va_rf v7)] []) : ∀ (σ : Sg) (v1 : Option Nat) (v2 : Option Nat) (v3 : Option Nat) (v4 : Int64) (v6 : Option Nat) (v7 : Option Nat) (g1 : tyV σ 5 v1) (g2 : tyV σ 1 v2) (g3 : tyV σ 0 v3) (g6 : tyV σ 0 v6) (g7 : tyV σ 0 v7), w_X11_addNearTo_9 th K9 Q X σ v1 v2 v3 v4 v6 v7 → RG σ → TY σ → Ext σi σ → kO σ th 11 → JJ p l e R s m args below meth c 9 D cA A n0 s0 QM σ 9 [(0, .ref th), (1, va_rf v1), (2, va_rf v2), (3, va_rf v3), (4, .long v4), (6, va_rf v6), (7, va_rf v7)] [] := by
  intro σ v1 v2 v3 v4 v6 v7 g1 g2 g3 g6 g7 h hGσ hYσ hE hth H locs ls hH hl hc
  have B := K.1
  have hl9 := K.2.2.2.2.2.2
  unfold w_X11_addNearTo_9 at h
  refine lv_aloadQ B.1 B.2.1 dX11_addNearTo_9 (lv_at hl 6 rfl) ?_
  refine lv_ifnullQ (tgt := 173) B.1 B.2.1 dX11_addNearTo_11 (by decide) (fun h9 => ?_) (fun h9 => ?_)
  · rw [if_pos (h9)] at h
    exact a_X11_addNearTo_173 K hQ hX hTh _ h hGσ hYσ hE hth _ _ _ hH (lv_sub (l' := [(0, .ref th)]) hl [0] rfl) hc
  · rw [if_neg (h9)] at h
    exact a_X11_addNearTo_14 K hQ hX hTh hK9 _ _ _ _ _ _ _ g1 g2 g3 g6 g7 h hGσ hYσ hE hth _ _ _ hH (lv_sub (l' := [(0, .ref th), (1, va_rf v1), (2, va_rf v2), (3, va_rf v3), (4, .long v4), (6, va_rf v6), (7, va_rf v7)]) hl [0, 1, 2, 3, 4, 5, 6] rfl) hc
theorem al_X11_addNearTo_9 {Q : Sg → Unit → Prop} {X : Sg → String → Prop} {th : Nat} (K : MD l R p s m args c cX11_addNearTo 9 RX11 D cA tys A n0 s0 8 136 []) (hQ : CQV p l e R s m args below meth c cX11_addNearTo D cA A n0 s0 QM σi Q) (hX : CX p l e R s m args below meth c 9 D cA A n0 s0 QM σi X) (hTh : CT p l e R s m args below meth c cX11_addNearTo 9 D cA A n0 s0 QM σi RX11 X) : ∀ (n : Nat), ∀ (σ : Sg) (v1 : Option Nat) (v2 : Option Nat) (v3 : Option Nat) (v4 : Int64) (v6 : Option Nat) (v7 : Option Nat) (g1 : tyV σ 5 v1) (g2 : tyV σ 1 v2) (g3 : tyV σ 0 v3) (g6 : tyV σ 0 v6) (g7 : tyV σ 0 v7), wl_X11_addNearTo_9 th Q X n σ v1 v2 v3 v4 v6 v7 → RG σ → TY σ → Ext σi σ → kO σ th 11 → JJ p l e R s m args below meth c 9 D cA A n0 s0 QM σ 9 [(0, .ref th), (1, va_rf v1), (2, va_rf v2), (3, va_rf v3), (4, .long v4), (6, va_rf v6), (7, va_rf v7)] [] := by
  intro n
  induction n with
  | zero => intro σ v1 v2 v3 v4 v6 v7 g1 g2 g3 g6 g7 h; exact h.elim
  | succ n ih => exact fun σ v1 v2 v3 v4 v6 v7 g1 g2 g3 g6 g7 h => a_X11_addNearTo_9 K hQ hX hTh ih σ v1 v2 v3 v4 v6 v7 g1 g2 g3 g6 g7 h
set_option maxRecDepth 20000 in
theorem a_X11_addNearTo_0 {Q : Sg → Unit → Prop} {X : Sg → String → Prop} {th : Nat} (K : MD l R p s m args c cX11_addNearTo 9 RX11 D cA tys A n0 s0 8 136 []) (hQ : CQV p l e R s m args below meth c cX11_addNearTo D cA A n0 s0 QM σi Q) (hX : CX p l e R s m args below meth c 9 D cA A n0 s0 QM σi X) (hTh : CT p l e R s m args below meth c cX11_addNearTo 9 D cA A n0 s0 QM σi RX11 X) : ∀ (σ : Sg) (v1 : Option Nat) (v2 : Option Nat) (v3 : Option Nat) (v4 : Int64) (g1 : tyV σ 5 v1) (g2 : tyV σ 1 v2) (g3 : tyV σ 0 v3), w_X11_addNearTo_0 th Q X σ v1 v2 v3 v4 → RG σ → TY σ → Ext σi σ → kO σ th 11 → JJ p l e R s m args below meth c 9 D cA A n0 s0 QM σ 0 [(0, .ref th), (1, va_rf v1), (2, va_rf v2), (3, va_rf v3), (4, .long v4)] [] := by
  intro σ v1 v2 v3 v4 g1 g2 g3 h hGσ hYσ hE hth H locs ls hH hl hc
  have B := K.1
  have hl9 := K.2.2.2.2.2.2
  unfold w_X11_addNearTo_0 at h
  refine lv_null B.1 B.2.1 dX11_addNearTo_0 ?_
  refine W.eq (g2 := F0 m 1 ls [va_rf none]) (rfl) ?_
  refine lv_astoreQ (lv' := [(6, va_rf none), (0, .ref th), (1, va_rf v1), (2, va_rf v2), (3, va_rf v3), (4, .long v4)]) B.1 B.2.1 dX11_addNearTo_1 hl (by decide) rfl (fun ls hl => ?_)
  refine lv_aload_nQ B.1 B.2.1 dX11_addNearTo_3 rfl (lv_at hl 3 rfl) ?_
  obtain ⟨a103, ea103, h⟩ := h
  have ka103 : kO σ a103 1 := g2 a103 ea103
  have h := h ka103
  refine W.eq (g2 := F0 m 4 ls [.ref a103]) (by rw [ea103]; rfl) ?_
  refine f_getp B hH ka103 (by decide) rfl wu_X1 0 (by decide) wf_X11_225 rfl rfl dX11_addNearTo_4 ?_
  refine lv_astoreQ (lv' := [(7, va_rf (gP σ a103 0)), (6, va_rf none), (0, .ref th), (1, va_rf v1), (2, va_rf v2), (3, va_rf v3), (4, .long v4)]) B.1 B.2.1 dX11_addNearTo_7 hl (by decide) rfl (fun ls hl => ?_)
  obtain ⟨n9, h⟩ := h
  exact al_X11_addNearTo_9 K hQ hX hTh n9 _ _ _ _ _ _ _ g1 g2 g3 (tyn _ _) (hYσ.get ka103 (by decide)) h hGσ hYσ hE hth _ _ _ hH (lv_sub (l' := [(0, .ref th), (1, va_rf v1), (2, va_rf v2), (3, va_rf v3), (4, .long v4), (6, va_rf none), (7, va_rf (gP σ a103 0))]) hl [2, 3, 4, 5, 6, 1, 0] rfl) hc
theorem ok_X11_addNearTo (hl0 : l.stackTraces = false) (hT : TyC cA tys) {Q : Sg → Unit → Prop} {X : Sg → String → Prop} (σ : Sg) (th : Nat) (v1 : Option Nat) (v2 : Option Nat) (v3 : Option Nat) (v4 : Int64) (g1 : tyV σ 5 v1) (g2 : tyV σ 1 v2) (g3 : tyV σ 0 v3) (hth : kO σ th 11) (hG : RG σ) (hY : TY σ) (h : wp_X11_addNearTo th v1 v2 v3 v4 σ Q X) : Ok l D cA tys A yX11_addNearTo (.code yX11_addNearTo cX11_addNearTo 9 none) 8 136 [.ref th, va_rf v1, va_rf v2, va_rf v3, .long v4] σ (QcV σ Q) (QxC σ X) := by
  unfold wp_X11_addNearTo at h
  exact oc_V hl0 (by decide) (by cases v1 <;> cases v2 <;> cases v3 <;> exact Nat.le_of_ble_eq_true rfl) hT (fun p e R s m args below meth c K hQ hX hTh hin9 H locs ls hH hl hc => a_X11_addNearTo_0 K hQ hX hTh σ v1 v2 v3 v4 g1 g2 g3 h hG hY (Ext.rfl' σ) hth H locs ls hH (lv_sub (l' := [(0, .ref th), (1, va_rf v1), (2, va_rf v2), (3, va_rf v3), (4, .long v4)]) hl [0, 1, 2, 3, 4] (by cases v1 <;> cases v2 <;> cases v3 <;> rfl)) hc)
theorem dX11_addToSpan_0 : decode cX11_addToSpan 0 = .ok (.aload_n 2, 1) := by decide +kernel
theorem dX11_addToSpan_1 : decode cX11_addToSpan 1 = .ok (.getfield 225, 3) := by decide +kernel
theorem dX11_addToSpan_4 : decode cX11_addToSpan 4 = .ok (.astore 6, 2) := by decide +kernel
theorem dX11_addToSpan_6 : decode cX11_addToSpan 6 = .ok (.aload 6, 2) := by decide +kernel
theorem dX11_addToSpan_8 : decode cX11_addToSpan 8 = .ok (.ifnull 73, 3) := by decide +kernel
theorem dX11_addToSpan_11 : decode cX11_addToSpan 11 = .ok (.aload 6, 2) := by decide +kernel
theorem dX11_addToSpan_13 : decode cX11_addToSpan 13 = .ok (.getfield 85, 3) := by decide +kernel
theorem dX11_addToSpan_16 : decode cX11_addToSpan 16 = .ok (.lload 4, 2) := by decide +kernel
theorem dX11_addToSpan_18 : decode cX11_addToSpan 18 = .ok (.lcmp, 1) := by decide +kernel
theorem dX11_addToSpan_19 : decode cX11_addToSpan 19 = .ok (.ifCond .ne 52, 3) := by decide +kernel
theorem dX11_addToSpan_22 : decode cX11_addToSpan 22 = .ok (.aload 6, 2) := by decide +kernel
theorem dX11_addToSpan_24 : decode cX11_addToSpan 24 = .ok (.getfield 72, 3) := by decide +kernel
theorem dX11_addToSpan_27 : decode cX11_addToSpan 27 = .ok (.aload_n 3, 1) := by decide +kernel
theorem dX11_addToSpan_28 : decode cX11_addToSpan 28 = .ok (.getfield 72, 3) := by decide +kernel
theorem dX11_addToSpan_31 : decode cX11_addToSpan 31 = .ok (.lcmp, 1) := by decide +kernel
theorem dX11_addToSpan_32 : decode cX11_addToSpan 32 = .ok (.ifCond .ne 39, 3) := by decide +kernel
theorem dX11_addToSpan_35 : decode cX11_addToSpan 35 = .ok (.aload 6, 2) := by decide +kernel
theorem dX11_addToSpan_37 : decode cX11_addToSpan 37 = .ok (.aload_n 0, 1) := by decide +kernel
theorem dX11_addToSpan_38 : decode cX11_addToSpan 38 = .ok (.getfield 22, 3) := by decide +kernel
theorem dX11_addToSpan_41 : decode cX11_addToSpan 41 = .ok (.aload 6, 2) := by decide +kernel
theorem dX11_addToSpan_43 : decode cX11_addToSpan 43 = .ok (.getfield 195, 3) := by decide +kernel
theorem dX11_addToSpan_46 : decode cX11_addToSpan 46 = .ok (.aload_n 3, 1) := by decide +kernel
theorem dX11_addToSpan_47 : decode cX11_addToSpan 47 = .ok (.getfield 195, 3) := by decide +kernel
theorem dX11_addToSpan_50 : decode cX11_addToSpan 50 = .ok (.invokevirtual 228, 3) := by decide +kernel
theorem dX11_addToSpan_53 : decode cX11_addToSpan 53 = .ok (.putfield 195, 3) := by decide +kernel
theorem dX11_addToSpan_56 : decode cX11_addToSpan 56 = .ok (.aload_n 1, 1) := by decide +kernel
theorem dX11_addToSpan_57 : decode cX11_addToSpan 57 = .ok (.aload 6, 2) := by decide +kernel
theorem dX11_addToSpan_59 : decode cX11_addToSpan 59 = .ok (.getfield 64, 3) := by decide +kernel
theorem dX11_addToSpan_62 : decode cX11_addToSpan 62 = .ok (.aload_n 0, 1) := by decide +kernel
theorem dX11_addToSpan_63 : decode cX11_addToSpan 63 = .ok (.getfield 18, 3) := by decide +kernel
theorem dX11_addToSpan_66 : decode cX11_addToSpan 66 = .ok (.invokestatic 231, 3) := by decide +kernel
theorem dX11_addToSpan_69 : decode cX11_addToSpan 69 = .ok (.iconst 1, 1) := by decide +kernel
theorem dX11_addToSpan_70 : decode cX11_addToSpan 70 = .ok (.ireturn, 1) := by decide +kernel
theorem dX11_addToSpan_71 : decode cX11_addToSpan 71 = .ok (.aload 6, 2) := by decide +kernel
theorem dX11_addToSpan_73 : decode cX11_addToSpan 73 = .ok (.getfield 235, 3) := by decide +kernel
theorem dX11_addToSpan_76 : decode cX11_addToSpan 76 = .ok (.astore 6, 2) := by decide +kernel
theorem dX11_addToSpan_78 : decode cX11_addToSpan 78 = .ok (.goto (-72), 3) := by decide +kernel
theorem dX11_addToSpan_81 : decode cX11_addToSpan 81 = .ok (.iconst 0, 1) := by decide +kernel
theorem dX11_addToSpan_82 : decode cX11_addToSpan 82 = .ok (.ireturn, 1) := by decide +kernel
set_option maxRecDepth 20000 in
theorem a_X11_addToSpan_81 {Q : Sg → Int → Prop} {X : Sg → String → Prop} {th : Nat} (K : MD l R p s m args c cX11_addToSpan 7 RX11 D cA tys A n0 s0 8 136 []) (hQ : CQZ p l e R s m args below meth c cX11_addToSpan D cA A n0 s0 QM σi Q) (hX : CX p l e R s m args below meth c 7 D cA A n0 s0 QM σi X) (hTh : CT p l e R s m args below meth c cX11_addToSpan 7 D cA A n0 s0 QM σi RX11 X) : ∀ (σ : Sg), w_X11_addToSpan_81 th Q X σ → RG σ → TY σ → Ext σi σ → kO σ th 11 → JJ p l e R s m args below meth c 7 D cA A n0 s0 QM σ 81 [(0, .ref th)] [] := by
  intro σ h hGσ hYσ hE hth H locs ls hH hl hc
  have B := K.1
  have hl9 := K.2.2.2.2.2.2
  unfold w_X11_addToSpan_81 at h
  refine lv_iconst (v := i32 0) B.1 B.2.1 dX11_addToSpan_81 (by decide) ?_
  exact hQ _ _ _ _ _ _ (by unfold rng; omega) (Or.inl rfl) dX11_addToSpan_82 hH hc h hGσ hYσ hE
set_option maxRecDepth 20000 in
theorem a_X11_addToSpan_71 {Q : Sg → Int → Prop} {X : Sg → String → Prop} {th : Nat} (K : MD l R p s m args c cX11_addToSpan 7 RX11 D cA tys A n0 s0 8 136 []) (hQ : CQZ p l e R s m args below meth c cX11_addToSpan D cA A n0 s0 QM σi Q) (hX : CX p l e R s m args below meth c 7 D cA A n0 s0 QM σi X) (hTh : CT p l e R s m args below meth c cX11_addToSpan 7 D cA A n0 s0 QM σi RX11 X) {K6 : Sg → Option Nat → Option Nat → Int64 → Option Nat → Prop} (hK6 : ∀ (σ : Sg) (v1 : Option Nat) (v3 : Option Nat) (v4 : Int64) (v6 : Option Nat) (g1 : tyV σ 5 v1) (g3 : tyV σ 0 v3) (g6 : tyV σ 0 v6), K6 σ v1 v3 v4 v6 → RG σ → TY σ → Ext σi σ → kO σ th 11 → JJ p l e R s m args below meth c 7 D cA A n0 s0 QM σ 6 [(0, .ref th), (1, va_rf v1), (3, va_rf v3), (4, .long v4), (6, va_rf v6)] []) : ∀ (σ : Sg) (v1 : Option Nat) (v3 : Option Nat) (v4 : Int64) (v6 : Option Nat) (g1 : tyV σ 5 v1) (g3 : tyV σ 0 v3) (g6 : tyV σ 0 v6), w_X11_addToSpan_71 th K6 Q X σ v1 v3 v4 v6 → RG σ → TY σ → Ext σi σ → kO σ th 11 → JJ p l e R s m args below meth c 7 D cA A n0 s0 QM σ 71 [(0, .ref th), (1, va_rf v1), (3, va_rf v3), (4, .long v4), (6, va_rf v6)] [] := by
  intro σ v1 v3 v4 v6 g1 g3 g6 h hGσ hYσ hE hth H locs ls hH hl hc
  have B := K.1
  have hl9 := K.2.2.2.2.2.2
  unfold w_X11_addToSpan_71 at h
  refine lv_aloadQ B.1 B.2.1 dX11_addToSpan_71 (lv_at hl 4 rfl) ?_
  obtain ⟨a25, ea25, h⟩ := h
  have ka25 : kO σ a25 0 := g6 a25 ea25
  have h := h ka25
  refine W.eq (g2 := F0 m 73 ls [.ref a25]) (by rw [ea25]; rfl) ?_
  refine f_getp B hH ka25 (by decide) rfl wu_X0 1 (by decide) wf_X11_235 rfl rfl dX11_addToSpan_73 ?_
  refine lv_astoreQ (lv' := [(6, va_rf (gP σ a25 1)), (0, .ref th), (1, va_rf v1), (3, va_rf v3), (4, .long v4)]) B.1 B.2.1 dX11_addToSpan_76 hl (by decide) rfl (fun ls hl => ?_)
  refine lv_goto (tgt := 6) B.1 B.2.1 dX11_addToSpan_78 (by decide) ?_
  exact hK6 _ _ _ _ _ g1 g3 (hYσ.get ka25 (by decide)) h hGσ hYσ hE hth _ _ _ hH (lv_sub (l' := [(0, .ref th), (1, va_rf v1), (3, va_rf v3), (4, .long v4), (6, va_rf (gP σ a25 1))]) hl [1, 2, 3, 4, 0] rfl) hc
set_option maxRecDepth 20000 in
theorem a_X11_addToSpan_35 {Q : Sg → Int → Prop} {X : Sg → String → Prop} {th : Nat} (K : MD l R p s m args c cX11_addToSpan 7 RX11 D cA tys A n0 s0 8 136 []) (hQ : CQZ p l e R s m args below meth c cX11_addToSpan D cA A n0 s0 QM σi Q) (hX : CX p l e R s m args below meth c 7 D cA A n0 s0 QM σi X) (hTh : CT p l e R s m args below meth c cX11_addToSpan 7 D cA A n0 s0 QM σi RX11 X) : ∀ (σ : Sg) (v1 : Option Nat) (v3 : Option Nat) (v6 : Option Nat) (g1 : tyV σ 5 v1) (g3 : tyV σ 0 v3) (g6 : tyV σ 0 v6), w_X11_addToSpan_35 th Q X σ v1 v3 v6 → RG σ → TY σ → Ext σi σ → kO σ th 11 → JJ p l e R s m args below meth c 7 D cA A n0 s0 QM σ 35 [(0, .ref th), (1, va_rf v1), (3, va_rf v3), (6, va_rf v6)] [] := by
  intro σ v1 v3 v6 g1 g3 g6 h hGσ hYσ hE hth H locs ls hH hl hc
  have B := K.1
  have hl9 := K.2.2.2.2.2.2
  unfold w_X11_addToSpan_35 at h
  refine lv_aloadQ B.1 B.2.1 dX11_addToSpan_35 (lv_at hl 3 rfl) ?_
  refine lv_aload_n B.1 B.2.1 dX11_addToSpan_37 rfl (lv_at hl 0 rfl) ?_
  refine f_getp B hH hth (by decide) rfl wu_X11 0 (by decide) wf_X11_22 rfl rfl dX11_addToSpan_38 ?_
  refine lv_aloadQ B.1 B.2.1 dX11_addToSpan_41 (lv_at hl 3 rfl) ?_
  obtain ⟨a26, ea26, h⟩ := h
  have ka26 : kO σ a26 0 := g6 a26 ea26
  have h := h ka26
  refine W.eq (g2 := F0 m 43 ls [.ref a26, va_rf (gP σ th 0), va_rf v6]) (by rw [ea26]; rfl) ?_
  refine f_geti B hH ka26 (by decide) rfl wu_X0 4 (by decide) wf_X11_195 rfl rfl dX11_addToSpan_43 ?_
  refine lv_aload_nQ B.1 B.2.1 dX11_addToSpan_46 rfl (lv_at hl 2 rfl) ?_
  obtain ⟨a27, ea27, h⟩ := h
  have ka27 : kO σ a27 0 := g3 a27 ea27
  have h := h ka27
  refine W.eq (g2 := F0 m 47 ls [.ref a27, .int (i32 (gI σ a26 4)), va_rf (gP σ th 0), va_rf v6]) (by rw [ea27]; rfl) ?_
  refine f_geti B hH ka27 (by decide) rfl wu_X0 4 (by decide) wf_X11_195 rfl rfl dX11_addToSpan_47 ?_
  obtain ⟨a30, ea30, h⟩ := h
  have ka30 : kO σ a30 8 := (hYσ.get hth (by decide)) a30 ea30
  have h := h ka30
  refine W.eq (g2 := F0 m 50 ls [.int (i32 (gI σ a27 4)), .int (i32 (gI σ a26 4)), .ref a30, va_rf v6]) (by rw [ea30]; rfl) ?_
  refine c_V B hH hl hc K.2.2.1 (C := RX8) (T := TX8) (N := 3) (ci := 8) (As := [.int (i32 (gI σ a26 4)), .int (i32 (gI σ a27 4))]) (ok_X8_together hl9 K.2.1 σ a30 (gI σ a26 4) (gI σ a27 4) (hGσ _ _) (hGσ _ _) ka30 hGσ hYσ h) wc_X11_228 2 hd_X8_together ⟨Nat.le_trans (Nat.le_of_ble_eq_true rfl) K.2.2.2.1, Nat.le_trans (Nat.le_of_ble_eq_true rfl) K.2.2.2.2.1⟩ ka30.1 ka30.2 (by decide) rfl rfl (rest := [va_rf v6]) rfl (by simp only [List.map_cons, List.map_nil, rf_cat]; exact Nat.le_of_ble_eq_true rfl) dX11_addToSpan_50 (fun σ28 w hq => ?_) (fun σ9 E9 hx9 => hX σ9 E9 _ _ _ (tb_out K.2.2.2.2.2.1 rfl) hx9.1 hx9.2.1 hx9.2.2.1 (hE.trans hx9.2.2.2))
  obtain ⟨r29, rfl, gr29, h, hGσ28, hYσ28, xσ28⟩ := hq
  have h := h xσ28
  intro H locs ls hH hl hc
  refine W.eq (g2 := F0 m 53 ls [.int (i32 r29), va_rf v6]) (rfl) ?_
  try dsimp only at h
  obtain ⟨σ31, eσ31⟩ : ∃ z, z = pI σ28 a26 4 r29 := ⟨_, rfl⟩
  have h := h σ31 eσ31
  refine W.eq (g2 := F0 m 53 ls [.int (i32 r29), .ref a26]) (by rw [ea26]; rfl) ?_
  refine f_puti B hH (ka26.up xσ28) (by decide) rfl wu_X0 tyX0 tyX0_ok nmX0 4 (by decide) wf_X11_195 rfl (ty := .int) rfl rfl rfl rfl rfl dX11_addToSpan_53 (fun H locs hH => ?_)
  have hH : Hd D cA A s (pI σ28 a26 4 r29) H locs := hH
  rw [← eσ31] at hH
  have hGσ31 : RG σ31 := by rw [eσ31]; exact hGσ28.pI gr29
  have hYσ31 : TY σ31 := by rw [eσ31]; exact hYσ28.pI
  have xσ31 : Ext σ28 σ31 := by rw [eσ31]; exact Ext.pI
  have hc : CB n0 s0 σ31 := by rw [eσ31]; exact hc
  rw [show gc σ28 = gc σ31 by rw [eσ31]; try rfl, show gs σ28 = gs σ31 by rw [eσ31]; try rfl]
  refine lv_aload_nQ B.1 B.2.1 dX11_addToSpan_56 rfl (lv_at hl 1 rfl) ?_
  refine lv_aloadQ B.1 B.2.1 dX11_addToSpan_57 (lv_at hl 3 rfl) ?_
  refine W.eq (g2 := F0 m 59 ls [.ref a26, va_rf v1]) (by rw [ea26]; rfl) ?_
  refine f_getp B hH (ka26.up (xσ28.trans xσ31)) (by decide) rfl wu_X0 0 (by decide) wf_X11_64 rfl rfl dX11_addToSpan_59 ?_
  refine lv_aload_n B.1 B.2.1 dX11_addToSpan_62 rfl (lv_at hl 0 rfl) ?_
  refine f_getp B hH (hth.up (xσ28.trans xσ31)) (by decide) rfl wu_X11 3 (by decide) wf_X11_18 rfl rfl dX11_addToSpan_63 ?_
  refine W.eq (g2 := F0 m 66 ls [va_rf (gP σ31 th 3), va_rf (gP σ31 a26 0), va_rf v1]) (rfl) ?_
  refine c_S B hH hl hc K.2.2.1 (As := [va_rf v1, va_rf (gP σ31 a26 0), va_rf (gP σ31 th 3)]) (ok_X11_addUp hl9 K.2.1 σ31 v1 (gP σ31 a26 0) (gP σ31 th 3) (g1.up (xσ28.trans xσ31)) (hYσ31.get (ka26.up (xσ28.trans xσ31)) (by decide)) (hYσ31.get (hth.up (xσ28.trans xσ31)) (by decide)) hGσ31 hYσ31 h) wc_X11_231 3 hd_X11_addUp ⟨Nat.le_trans (Nat.le_of_ble_eq_true rfl) K.2.2.2.1, Nat.le_trans (Nat.le_of_ble_eq_true rfl) K.2.2.2.2.1⟩ rfl (rest := []) rfl (Nat.le_of_ble_eq_true rfl) dX11_addToSpan_66 (fun σ32 w hq => ?_) (fun σ9 E9 hx9 => hX σ9 E9 _ _ _ (tb_out K.2.2.2.2.2.1 rfl) hx9.1 hx9.2.1 hx9.2.2.1 (((hE.trans xσ28).trans xσ31).trans hx9.2.2.2))
  obtain ⟨rfl, h, hGσ32, hYσ32, xσ32⟩ := hq
  have h := h xσ32
  intro H locs ls hH hl hc
  refine W.eq (g2 := F0 m 69 ls []) (rfl) ?_
  try dsimp only at h
  refine lv_iconst (v := i32 1) B.1 B.2.1 dX11_addToSpan_69 (by decide) ?_
  exact hQ _ _ _ _ _ _ (by unfold rng; omega) (Or.inr rfl) dX11_addToSpan_70 hH hc h hGσ32 hYσ32 (((hE.trans xσ28).trans xσ31).trans xσ32)
set_option maxRecDepth 20000 in
theorem a_X11_addToSpan_22 {Q : Sg → Int → Prop} {X : Sg → String → Prop} {th : Nat} (K : MD l R p s m args c cX11_addToSpan 7 RX11 D cA tys A n0 s0 8 136 []) (hQ : CQZ p l e R s m args below meth c cX11_addToSpan D cA A n0 s0 QM σi Q) (hX : CX p l e R s m args below meth c 7 D cA A n0 s0 QM σi X) (hTh : CT p l e R s m args below meth c cX11_addToSpan 7 D cA A n0 s0 QM σi RX11 X) {K6 : Sg → Option Nat → Option Nat → Int64 → Option Nat → Prop} (hK6 : ∀ (σ : Sg) (v1 : Option Nat) (v3 : Option Nat) (v4 : Int64) (v6 : Option Nat) (g1 : tyV σ 5 v1) (g3 : tyV σ 0 v3) (g6 : tyV σ 0 v6), K6 σ v1 v3 v4 v6 → RG σ → TY σ → Ext σi σ → kO σ th 11 → JJ p l e R s m args below meth c 7 D cA A n0 s0 QM σ 6 [(0, .ref th), (1, va_rf v1), (3, va_rf v3), (4, .long v4), (6, va_rf v6)] []) : ∀ (σ : Sg) (v1 : Option Nat) (v3 : Option Nat) (v4 : Int64) (v6 : Option Nat) (g1 : tyV σ 5 v1) (g3 : tyV σ 0 v3) (g6 : tyV σ 0 v6), w_X11_addToSpan_22 th K6 Q X σ v1 v3 v4 v6 → RG σ → TY σ → Ext σi σ → kO σ th 11 → JJ p l e R s m args below meth c 7 D cA A n0 s0 QM σ 22 [(0, .ref th), (1, va_rf v1), (3, va_rf v3), (4, .long v4), (6, va_rf v6)] [] := by
  intro σ v1 v3 v4 v6 g1 g3 g6 h hGσ hYσ hE hth H locs ls hH hl hc
  have B := K.1
  have hl9 := K.2.2.2.2.2.2
  unfold w_X11_addToSpan_22 at h
  refine lv_aloadQ B.1 B.2.1 dX11_addToSpan_22 (lv_at hl 4 rfl) ?_
  obtain ⟨a33, ea33, h⟩ := h
  have ka33 : kO σ a33 0 := g6 a33 ea33
  have h := h ka33
  refine W.eq (g2 := F0 m 24 ls [.ref a33]) (by rw [ea33]; rfl) ?_
  refine f_getl B hH ka33 (by decide) rfl wu_X0 7 (by decide) wf_X11_72 rfl rfl dX11_addToSpan_24 ?_
  refine lv_aload_nQ B.1 B.2.1 dX11_addToSpan_27 rfl (lv_at hl 2 rfl) ?_
  obtain ⟨a34, ea34, h⟩ := h
  have ka34 : kO σ a34 0 := g3 a34 ea34
  have h := h ka34
  refine W.eq (g2 := F0 m 28 ls [.ref a34, .long (gJ σ a33 7)]) (by rw [ea34]; rfl) ?_
  refine f_getl B hH ka34 (by decide) rfl wu_X0 7 (by decide) wf_X11_72 rfl rfl dX11_addToSpan_28 ?_
  refine W.lcmp B.1 B.2.1 dX11_addToSpan_31 ?_
  refine lv_if_ne (tgt := 71) B.1 B.2.1 dX11_addToSpan_32 (by decide) (fun h9 => ?_) (fun h9 => ?_)
  · rw [if_pos (fun q => h9 ((lg_cmp_eq _ _).mpr q))] at h
    exact a_X11_addToSpan_71 K hQ hX hTh hK6 _ _ _ _ _ g1 g3 g6 h hGσ hYσ hE hth _ _ _ hH (lv_sub (l' := [(0, .ref th), (1, va_rf v1), (3, va_rf v3), (4, .long v4), (6, va_rf v6)]) hl [0, 1, 2, 3, 4] rfl) hc
  · rw [if_neg (fun q => q ((lg_cmp_eq _ _).mp h9))] at h
    exact a_X11_addToSpan_35 K hQ hX hTh _ _ _ _ g1 g3 g6 h hGσ hYσ hE hth _ _ _ hH (lv_sub (l' := [(0, .ref th), (1, va_rf v1), (3, va_rf v3), (6, va_rf v6)]) hl [0, 1, 2, 4] rfl) hc
set_option maxRecDepth 20000 in
theorem a_X11_addToSpan_11 {Q : Sg → Int → Prop} {X : Sg → String → Prop} {th : Nat} (K : MD l R p s m args c cX11_addToSpan 7 RX11 D cA tys A n0 s0 8 136 []) (hQ : CQZ p l e R s m args below meth c cX11_addToSpan D cA A n0 s0 QM σi Q) (hX : CX p l e R s m args below meth c 7 D cA A n0 s0 QM σi X) (hTh : CT p l e R s m args below meth c cX11_addToSpan 7 D cA A n0 s0 QM σi RX11 X) {K6 : Sg → Option Nat → Option Nat → Int64 → Option Nat → Prop} (hK6 : ∀ (σ : Sg) (v1 : Option Nat) (v3 : Option Nat) (v4 : Int64) (v6 : Option Nat) (g1 : tyV σ 5 v1) (g3 : tyV σ 0 v3) (g6 : tyV σ 0 v6), K6 σ v1 v3 v4 v6 → RG σ → TY σ → Ext σi σ → kO σ th 11 → JJ p l e R s m args below meth c 7 D cA A n0 s0 QM σ 6 [(0, .ref th), (1, va_rf v1), (3, va_rf v3), (4, .long v4), (6, va_rf v6)] []) : ∀ (σ : Sg) (v1 : Option Nat) (v3 : Option Nat) (v4 : Int64) (v6 : Option Nat) (g1 : tyV σ 5 v1) (g3 : tyV σ 0 v3) (g6 : tyV σ 0 v6), w_X11_addToSpan_11 th K6 Q X σ v1 v3 v4 v6 → RG σ → TY σ → Ext σi σ → kO σ th 11 → JJ p l e R s m args below meth c 7 D cA A n0 s0 QM σ 11 [(0, .ref th), (1, va_rf v1), (3, va_rf v3), (4, .long v4), (6, va_rf v6)] [] := by
  intro σ v1 v3 v4 v6 g1 g3 g6 h hGσ hYσ hE hth H locs ls hH hl hc
  have B := K.1
  have hl9 := K.2.2.2.2.2.2
  unfold w_X11_addToSpan_11 at h
  refine lv_aloadQ B.1 B.2.1 dX11_addToSpan_11 (lv_at hl 4 rfl) ?_
  obtain ⟨a35, ea35, h⟩ := h
  have ka35 : kO σ a35 0 := g6 a35 ea35
  have h := h ka35
  refine W.eq (g2 := F0 m 13 ls [.ref a35]) (by rw [ea35]; rfl) ?_
  refine f_getl B hH ka35 (by decide) rfl wu_X0 5 (by decide) wf_X11_85 rfl rfl dX11_addToSpan_13 ?_
  refine lv_lload B.1 B.2.1 dX11_addToSpan_16 (lv_at hl 3 rfl) ?_
  refine W.lcmp B.1 B.2.1 dX11_addToSpan_18 ?_
  refine lv_if_ne (tgt := 71) B.1 B.2.1 dX11_addToSpan_19 (by decide) (fun h9 => ?_) (fun h9 => ?_)
  · rw [if_pos (fun q => h9 ((lg_cmp_eq _ _).mpr q))] at h
    exact a_X11_addToSpan_71 K hQ hX hTh hK6 _ _ _ _ _ g1 g3 g6 h hGσ hYσ hE hth _ _ _ hH (lv_sub (l' := [(0, .ref th), (1, va_rf v1), (3, va_rf v3), (4, .long v4), (6, va_rf v6)]) hl [0, 1, 2, 3, 4] rfl) hc
  · rw [if_neg (fun q => q ((lg_cmp_eq _ _).mp h9))] at h
    exact a_X11_addToSpan_22 K hQ hX hTh hK6 _ _ _ _ _ g1 g3 g6 h hGσ hYσ hE hth _ _ _ hH (lv_sub (l' := [(0, .ref th), (1, va_rf v1), (3, va_rf v3), (4, .long v4), (6, va_rf v6)]) hl [0, 1, 2, 3, 4] rfl) hc
set_option maxRecDepth 20000 in
theorem a_X11_addToSpan_6 {Q : Sg → Int → Prop} {X : Sg → String → Prop} {th : Nat} (K : MD l R p s m args c cX11_addToSpan 7 RX11 D cA tys A n0 s0 8 136 []) (hQ : CQZ p l e R s m args below meth c cX11_addToSpan D cA A n0 s0 QM σi Q) (hX : CX p l e R s m args below meth c 7 D cA A n0 s0 QM σi X) (hTh : CT p l e R s m args below meth c cX11_addToSpan 7 D cA A n0 s0 QM σi RX11 X) {K6 : Sg → Option Nat → Option Nat → Int64 → Option Nat → Prop} (hK6 : ∀ (σ : Sg) (v1 : Option Nat) (v3 : Option Nat) (v4 : Int64) (v6 : Option Nat) (g1 : tyV σ 5 v1) (g3 : tyV σ 0 v3) (g6 : tyV σ 0 v6), K6 σ v1 v3 v4 v6 → RG σ → TY σ → Ext σi σ → kO σ th 11 → JJ p l e R s m args below meth c 7 D cA A n0 s0 QM σ 6 [(0, .ref th), (1, va_rf v1), (3, va_rf v3), (4, .long v4), (6, va_rf v6)] []) : ∀ (σ : Sg) (v1 : Option Nat) (v3 : Option Nat) (v4 : Int64) (v6 : Option Nat) (g1 : tyV σ 5 v1) (g3 : tyV σ 0 v3) (g6 : tyV σ 0 v6), w_X11_addToSpan_6 th K6 Q X σ v1 v3 v4 v6 → RG σ → TY σ → Ext σi σ → kO σ th 11 → JJ p l e R s m args below meth c 7 D cA A n0 s0 QM σ 6 [(0, .ref th), (1, va_rf v1), (3, va_rf v3), (4, .long v4), (6, va_rf v6)] [] := by
  intro σ v1 v3 v4 v6 g1 g3 g6 h hGσ hYσ hE hth H locs ls hH hl hc
  have B := K.1
  have hl9 := K.2.2.2.2.2.2
  unfold w_X11_addToSpan_6 at h
  refine lv_aloadQ B.1 B.2.1 dX11_addToSpan_6 (lv_at hl 4 rfl) ?_
  refine lv_ifnullQ (tgt := 81) B.1 B.2.1 dX11_addToSpan_8 (by decide) (fun h9 => ?_) (fun h9 => ?_)
  · rw [if_pos (h9)] at h
    exact a_X11_addToSpan_81 K hQ hX hTh _ h hGσ hYσ hE hth _ _ _ hH (lv_sub (l' := [(0, .ref th)]) hl [0] rfl) hc
  · rw [if_neg (h9)] at h
    exact a_X11_addToSpan_11 K hQ hX hTh hK6 _ _ _ _ _ g1 g3 g6 h hGσ hYσ hE hth _ _ _ hH (lv_sub (l' := [(0, .ref th), (1, va_rf v1), (3, va_rf v3), (4, .long v4), (6, va_rf v6)]) hl [0, 1, 2, 3, 4] rfl) hc
theorem al_X11_addToSpan_6 {Q : Sg → Int → Prop} {X : Sg → String → Prop} {th : Nat} (K : MD l R p s m args c cX11_addToSpan 7 RX11 D cA tys A n0 s0 8 136 []) (hQ : CQZ p l e R s m args below meth c cX11_addToSpan D cA A n0 s0 QM σi Q) (hX : CX p l e R s m args below meth c 7 D cA A n0 s0 QM σi X) (hTh : CT p l e R s m args below meth c cX11_addToSpan 7 D cA A n0 s0 QM σi RX11 X) : ∀ (n : Nat), ∀ (σ : Sg) (v1 : Option Nat) (v3 : Option Nat) (v4 : Int64) (v6 : Option Nat) (g1 : tyV σ 5 v1) (g3 : tyV σ 0 v3) (g6 : tyV σ 0 v6), wl_X11_addToSpan_6 th Q X n σ v1 v3 v4 v6 → RG σ → TY σ → Ext σi σ → kO σ th 11 → JJ p l e R s m args below meth c 7 D cA A n0 s0 QM σ 6 [(0, .ref th), (1, va_rf v1), (3, va_rf v3), (4, .long v4), (6, va_rf v6)] [] := by
  intro n
  induction n with
  | zero => intro σ v1 v3 v4 v6 g1 g3 g6 h; exact h.elim
  | succ n ih => exact fun σ v1 v3 v4 v6 g1 g3 g6 h => a_X11_addToSpan_6 K hQ hX hTh ih σ v1 v3 v4 v6 g1 g3 g6 h
set_option maxRecDepth 20000 in
theorem a_X11_addToSpan_0 {Q : Sg → Int → Prop} {X : Sg → String → Prop} {th : Nat} (K : MD l R p s m args c cX11_addToSpan 7 RX11 D cA tys A n0 s0 8 136 []) (hQ : CQZ p l e R s m args below meth c cX11_addToSpan D cA A n0 s0 QM σi Q) (hX : CX p l e R s m args below meth c 7 D cA A n0 s0 QM σi X) (hTh : CT p l e R s m args below meth c cX11_addToSpan 7 D cA A n0 s0 QM σi RX11 X) : ∀ (σ : Sg) (v1 : Option Nat) (v2 : Option Nat) (v3 : Option Nat) (v4 : Int64) (g1 : tyV σ 5 v1) (g2 : tyV σ 1 v2) (g3 : tyV σ 0 v3), w_X11_addToSpan_0 th Q X σ v1 v2 v3 v4 → RG σ → TY σ → Ext σi σ → kO σ th 11 → JJ p l e R s m args below meth c 7 D cA A n0 s0 QM σ 0 [(0, .ref th), (1, va_rf v1), (2, va_rf v2), (3, va_rf v3), (4, .long v4)] [] := by
  intro σ v1 v2 v3 v4 g1 g2 g3 h hGσ hYσ hE hth H locs ls hH hl hc
  have B := K.1
  have hl9 := K.2.2.2.2.2.2
  unfold w_X11_addToSpan_0 at h
  refine lv_aload_nQ B.1 B.2.1 dX11_addToSpan_0 rfl (lv_at hl 2 rfl) ?_
  obtain ⟨a36, ea36, h⟩ := h
  have ka36 : kO σ a36 1 := g2 a36 ea36
  have h := h ka36
  refine W.eq (g2 := F0 m 1 ls [.ref a36]) (by rw [ea36]; rfl) ?_
  refine f_getp B hH ka36 (by decide) rfl wu_X1 0 (by decide) wf_X11_225 rfl rfl dX11_addToSpan_1 ?_
  refine lv_astoreQ (lv' := [(6, va_rf (gP σ a36 0)), (0, .ref th), (1, va_rf v1), (2, va_rf v2), (3, va_rf v3), (4, .long v4)]) B.1 B.2.1 dX11_addToSpan_4 hl (by decide) rfl (fun ls hl => ?_)
  obtain ⟨n9, h⟩ := h
  exact al_X11_addToSpan_6 K hQ hX hTh n9 _ _ _ _ _ g1 g3 (hYσ.get ka36 (by decide)) h hGσ hYσ hE hth _ _ _ hH (lv_sub (l' := [(0, .ref th), (1, va_rf v1), (3, va_rf v3), (4, .long v4), (6, va_rf (gP σ a36 0))]) hl [1, 2, 4, 5, 0] rfl) hc
theorem ok_X11_addToSpan (hl0 : l.stackTraces = false) (hT : TyC cA tys) {Q : Sg → Int → Prop} {X : Sg → String → Prop} (σ : Sg) (th : Nat) (v1 : Option Nat) (v2 : Option Nat) (v3 : Option Nat) (v4 : Int64) (g1 : tyV σ 5 v1) (g2 : tyV σ 1 v2) (g3 : tyV σ 0 v3) (hth : kO σ th 11) (hG : RG σ) (hY : TY σ) (h : wp_X11_addToSpan th v1 v2 v3 v4 σ Q X) : Ok l D cA tys A yX11_addToSpan (.code yX11_addToSpan cX11_addToSpan 7 (some .boolean)) 8 136 [.ref th, va_rf v1, va_rf v2, va_rf v3, .long v4] σ (QcZ σ Q) (QxC σ X) := by
  unfold wp_X11_addToSpan at h
  exact oc_Z hl0 (by decide) (by cases v1 <;> cases v2 <;> cases v3 <;> exact Nat.le_of_ble_eq_true rfl) hT (fun p e R s m args below meth c K hQ hX hTh H locs ls hH hl hc => a_X11_addToSpan_0 K hQ hX hTh σ v1 v2 v3 v4 g1 g2 g3 h hG hY (Ext.rfl' σ) hth H locs ls hH (lv_sub (l' := [(0, .ref th), (1, va_rf v1), (2, va_rf v2), (3, va_rf v3), (4, .long v4)]) hl [0, 1, 2, 3, 4] (by cases v1 <;> cases v2 <;> cases v3 <;> rfl)) hc)
theorem dX11_countRecord_0 : decode cX11_countRecord 0 = .ok (.aload_n 0, 1) := by decide +kernel
theorem dX11_countRecord_1 : decode cX11_countRecord 1 = .ok (.getfield 165, 3) := by decide +kernel
theorem dX11_countRecord_4 : decode cX11_countRecord 4 = .ok (.aload_n 0, 1) := by decide +kernel
theorem dX11_countRecord_5 : decode cX11_countRecord 5 = .ok (.getfield 26, 3) := by decide +kernel
theorem dX11_countRecord_8 : decode cX11_countRecord 8 = .ok (.if_icmp .lt 11, 3) := by decide +kernel
theorem dX11_countRecord_11 : decode cX11_countRecord 11 = .ok (.new 168, 3) := by decide +kernel
theorem dX11_countRecord_14 : decode cX11_countRecord 14 = .ok (.dup, 1) := by decide +kernel
theorem dX11_countRecord_15 : decode cX11_countRecord 15 = .ok (.invokespecial 170, 3) := by decide +kernel
theorem dX11_countRecord_18 : decode cX11_countRecord 18 = .ok (.athrow, 1) := by decide +kernel
theorem dX11_countRecord_19 : decode cX11_countRecord 19 = .ok (.aload_n 0, 1) := by decide +kernel
theorem dX11_countRecord_20 : decode cX11_countRecord 20 = .ok (.dup, 1) := by decide +kernel
theorem dX11_countRecord_21 : decode cX11_countRecord 21 = .ok (.getfield 165, 3) := by decide +kernel
theorem dX11_countRecord_24 : decode cX11_countRecord 24 = .ok (.iconst 1, 1) := by decide +kernel
theorem dX11_countRecord_25 : decode cX11_countRecord 25 = .ok (.iadd, 1) := by decide +kernel
theorem dX11_countRecord_26 : decode cX11_countRecord 26 = .ok (.putfield 165, 3) := by decide +kernel
theorem dX11_countRecord_29 : decode cX11_countRecord 29 = .ok (.return_, 1) := by decide +kernel
set_option maxRecDepth 20000 in
theorem a_X11_countRecord_19 {Q : Sg → Unit → Prop} {X : Sg → String → Prop} {th : Nat} (K : MD l R p s m args c cX11_countRecord 1 RX11 D cA tys A n0 s0 6 90 []) (hQ : CQV p l e R s m args below meth c cX11_countRecord D cA A n0 s0 QM σi Q) (hX : CX p l e R s m args below meth c 1 D cA A n0 s0 QM σi X) (hTh : CT p l e R s m args below meth c cX11_countRecord 1 D cA A n0 s0 QM σi RX11 X) : ∀ (σ : Sg), w_X11_countRecord_19 th Q X σ → RG σ → TY σ → Ext σi σ → kO σ th 11 → JJ p l e R s m args below meth c 1 D cA A n0 s0 QM σ 19 [(0, .ref th)] [] := by
  intro σ h hGσ hYσ hE hth H locs ls hH hl hc
  have B := K.1
  have hl9 := K.2.2.2.2.2.2
  unfold w_X11_countRecord_19 at h
  refine lv_aload_n B.1 B.2.1 dX11_countRecord_19 rfl (lv_at hl 0 rfl) ?_
  refine lv_dup B.1 B.2.1 dX11_countRecord_20 rfl ?_
  refine f_geti B hH hth (by decide) rfl wu_X11 4 (by decide) wf_X11_165 rfl rfl dX11_countRecord_21 ?_
  refine lv_iconst (v := i32 1) B.1 B.2.1 dX11_countRecord_24 (by decide) ?_
  obtain ⟨q1, h⟩ := h
  refine lv_iadd B.1 B.2.1 dX11_countRecord_25 ?_
  rw [i32_add]
  obtain ⟨σ3, eσ3⟩ : ∃ z, z = pI σ th 4 (gI σ th 4 + 1) := ⟨_, rfl⟩
  have h := h σ3 eσ3
  refine f_puti B hH hth (by decide) rfl wu_X11 tyX11 tyX11_ok nmX11 4 (by decide) wf_X11_165 rfl (ty := .int) rfl rfl rfl rfl rfl dX11_countRecord_26 (fun H locs hH => ?_)
  have hH : Hd D cA A s (pI σ th 4 (gI σ th 4 + 1)) H locs := hH
  rw [← eσ3] at hH
  have hGσ3 : RG σ3 := by rw [eσ3]; exact hGσ.pI q1
  have hYσ3 : TY σ3 := by rw [eσ3]; exact hYσ.pI
  have xσ3 : Ext σ σ3 := by rw [eσ3]; exact Ext.pI
  have hc : CB n0 s0 σ3 := by rw [eσ3]; exact hc
  rw [show gc σ = gc σ3 by rw [eσ3]; try rfl, show gs σ = gs σ3 by rw [eσ3]; try rfl]
  exact hQ _ _ _ _ _ dX11_countRecord_29 hH hc h hGσ3 hYσ3 (hE.trans xσ3)
set_option maxRecDepth 20000 in
theorem a_X11_countRecord_11 {Q : Sg → Unit → Prop} {X : Sg → String → Prop} {th : Nat} (K : MD l R p s m args c cX11_countRecord 1 RX11 D cA tys A n0 s0 6 90 []) (hQ : CQV p l e R s m args below meth c cX11_countRecord D cA A n0 s0 QM σi Q) (hX : CX p l e R s m args below meth c 1 D cA A n0 s0 QM σi X) (hTh : CT p l e R s m args below meth c cX11_countRecord 1 D cA A n0 s0 QM σi RX11 X) : ∀ (σ : Sg), w_X11_countRecord_11 th Q X σ → RG σ → TY σ → Ext σi σ → kO σ th 11 → JJ p l e R s m args below meth c 1 D cA A n0 s0 QM σ 11 [(0, .ref th)] [] := by
  intro σ h hGσ hYσ hE hth H locs ls hH hl hc
  have B := K.1
  have hl9 := K.2.2.2.2.2.2
  unfold w_X11_countRecord_11 at h
  obtain ⟨q9, h⟩ := h
  exact hTh _ _ _ _ _ _ _ _ _ tw_X11_168_170 dX11_countRecord_11 dX11_countRecord_14 dX11_countRecord_15 dX11_countRecord_18 hH hl hc q9 h hGσ hYσ hE (by have := K.2.2.2.1; omega) (by have := K.2.2.2.2.1; omega)
set_option maxRecDepth 20000 in
theorem a_X11_countRecord_0 {Q : Sg → Unit → Prop} {X : Sg → String → Prop} {th : Nat} (K : MD l R p s m args c cX11_countRecord 1 RX11 D cA tys A n0 s0 6 90 []) (hQ : CQV p l e R s m args below meth c cX11_countRecord D cA A n0 s0 QM σi Q) (hX : CX p l e R s m args below meth c 1 D cA A n0 s0 QM σi X) (hTh : CT p l e R s m args below meth c cX11_countRecord 1 D cA A n0 s0 QM σi RX11 X) : ∀ (σ : Sg), w_X11_countRecord_0 th Q X σ → RG σ → TY σ → Ext σi σ → kO σ th 11 → JJ p l e R s m args below meth c 1 D cA A n0 s0 QM σ 0 [(0, .ref th)] [] := by
  intro σ h hGσ hYσ hE hth H locs ls hH hl hc
  have B := K.1
  have hl9 := K.2.2.2.2.2.2
  unfold w_X11_countRecord_0 at h
  refine lv_aload_n B.1 B.2.1 dX11_countRecord_0 rfl (lv_at hl 0 rfl) ?_
  refine f_geti B hH hth (by decide) rfl wu_X11 4 (by decide) wf_X11_165 rfl rfl dX11_countRecord_1 ?_
  refine lv_aload_n B.1 B.2.1 dX11_countRecord_4 rfl (lv_at hl 0 rfl) ?_
  refine f_geti B hH hth (by decide) rfl wu_X11 1 (by decide) wf_X11_26 rfl rfl dX11_countRecord_5 ?_
  refine lv_icmp_lt (tgt := 19) B.1 B.2.1 dX11_countRecord_8 (by decide) (fun h9 => ?_) (fun h9 => ?_)
  · rw [if_pos ((i32_lt (hGσ _ _) (hGσ _ _)).mp h9)] at h
    exact a_X11_countRecord_19 K hQ hX hTh _ h hGσ hYσ hE hth _ _ _ hH (lv_sub (l' := [(0, .ref th)]) hl [0] rfl) hc
  · rw [if_neg (fun q => h9 ((i32_lt (hGσ _ _) (hGσ _ _)).mpr q))] at h
    exact a_X11_countRecord_11 K hQ hX hTh _ h hGσ hYσ hE hth _ _ _ hH (lv_sub (l' := [(0, .ref th)]) hl [0] rfl) hc
theorem ok_X11_countRecord (hl0 : l.stackTraces = false) (hT : TyC cA tys) {Q : Sg → Unit → Prop} {X : Sg → String → Prop} (σ : Sg) (th : Nat) (hth : kO σ th 11) (hG : RG σ) (hY : TY σ) (h : wp_X11_countRecord th σ Q X) : Ok l D cA tys A yX11_countRecord (.code yX11_countRecord cX11_countRecord 1 none) 6 90 [.ref th] σ (QcV σ Q) (QxC σ X) := by
  unfold wp_X11_countRecord at h
  exact oc_V hl0 (by decide) (by exact Nat.le_of_ble_eq_true rfl) hT (fun p e R s m args below meth c K hQ hX hTh hin9 H locs ls hH hl hc => a_X11_countRecord_0 K hQ hX hTh σ h hG hY (Ext.rfl' σ) hth H locs ls hH (lv_sub (l' := [(0, .ref th)]) hl [0] rfl) hc)
theorem dX8_fresh_0 : decode cX8_fresh 0 = .ok (.aload_n 0, 1) := by decide +kernel
theorem dX8_fresh_1 : decode cX8_fresh 1 = .ok (.getfield 15, 3) := by decide +kernel
theorem dX8_fresh_4 : decode cX8_fresh 4 = .ok (.astore_n 1, 1) := by decide +kernel
theorem dX8_fresh_5 : decode cX8_fresh 5 = .ok (.aload_n 1, 1) := by decide +kernel
theorem dX8_fresh_6 : decode cX8_fresh 6 = .ok (.ifnonnull 14, 3) := by decide +kernel
theorem dX8_fresh_9 : decode cX8_fresh 9 = .ok (.new 19, 3) := by decide +kernel
theorem dX8_fresh_12 : decode cX8_fresh 12 = .ok (.dup, 1) := by decide +kernel
theorem dX8_fresh_13 : decode cX8_fresh 13 = .ok (.invokespecial 21, 3) := by decide +kernel
theorem dX8_fresh_16 : decode cX8_fresh 16 = .ok (.astore_n 1, 1) := by decide +kernel
theorem dX8_fresh_17 : decode cX8_fresh 17 = .ok (.goto 11, 3) := by decide +kernel
theorem dX8_fresh_20 : decode cX8_fresh 20 = .ok (.aload_n 0, 1) := by decide +kernel
theorem dX8_fresh_21 : decode cX8_fresh 21 = .ok (.aload_n 1, 1) := by decide +kernel
theorem dX8_fresh_22 : decode cX8_fresh 22 = .ok (.getfield 22, 3) := by decide +kernel
theorem dX8_fresh_25 : decode cX8_fresh 25 = .ok (.putfield 15, 3) := by decide +kernel
theorem dX8_fresh_28 : decode cX8_fresh 28 = .ok (.aload_n 1, 1) := by decide +kernel
theorem dX8_fresh_29 : decode cX8_fresh 29 = .ok (.aconst_null, 1) := by decide +kernel
theorem dX8_fresh_30 : decode cX8_fresh 30 = .ok (.putfield 22, 3) := by decide +kernel
theorem dX8_fresh_33 : decode cX8_fresh 33 = .ok (.aload_n 1, 1) := by decide +kernel
theorem dX8_fresh_34 : decode cX8_fresh 34 = .ok (.iconst 0, 1) := by decide +kernel
theorem dX8_fresh_35 : decode cX8_fresh 35 = .ok (.putfield 25, 3) := by decide +kernel
theorem dX8_fresh_38 : decode cX8_fresh 38 = .ok (.aload_n 1, 1) := by decide +kernel
theorem dX8_fresh_39 : decode cX8_fresh 39 = .ok (.iconst (-1), 1) := by decide +kernel
theorem dX8_fresh_40 : decode cX8_fresh 40 = .ok (.putfield 29, 3) := by decide +kernel
theorem dX8_fresh_43 : decode cX8_fresh 43 = .ok (.aload_n 1, 1) := by decide +kernel
theorem dX8_fresh_44 : decode cX8_fresh 44 = .ok (.iconst (-1), 1) := by decide +kernel
theorem dX8_fresh_45 : decode cX8_fresh 45 = .ok (.putfield 32, 3) := by decide +kernel
theorem dX8_fresh_48 : decode cX8_fresh 48 = .ok (.aload_n 1, 1) := by decide +kernel
theorem dX8_fresh_49 : decode cX8_fresh 49 = .ok (.lconst 0, 1) := by decide +kernel
theorem dX8_fresh_50 : decode cX8_fresh 50 = .ok (.putfield 35, 3) := by decide +kernel
theorem dX8_fresh_53 : decode cX8_fresh 53 = .ok (.aload_n 1, 1) := by decide +kernel
theorem dX8_fresh_54 : decode cX8_fresh 54 = .ok (.lconst 0, 1) := by decide +kernel
theorem dX8_fresh_55 : decode cX8_fresh 55 = .ok (.putfield 39, 3) := by decide +kernel
theorem dX8_fresh_58 : decode cX8_fresh 58 = .ok (.aload_n 1, 1) := by decide +kernel
theorem dX8_fresh_59 : decode cX8_fresh 59 = .ok (.lconst 0, 1) := by decide +kernel
theorem dX8_fresh_60 : decode cX8_fresh 60 = .ok (.putfield 42, 3) := by decide +kernel
theorem dX8_fresh_63 : decode cX8_fresh 63 = .ok (.aload_n 1, 1) := by decide +kernel
theorem dX8_fresh_64 : decode cX8_fresh 64 = .ok (.areturn, 1) := by decide +kernel
set_option maxRecDepth 20000 in
theorem a_X8_fresh_28 {Q : Sg → Option Nat → Prop} {X : Sg → String → Prop} {th : Nat} (K : MD l R p s m args c cX8_fresh 2 RX8 D cA tys A n0 s0 2 32 []) (hQ : CQA p l e R s m args below meth c cX8_fresh D cA A n0 s0 QM σi 0 Q) (hX : CX p l e R s m args below meth c 2 D cA A n0 s0 QM σi X) (hTh : CT p l e R s m args below meth c cX8_fresh 2 D cA A n0 s0 QM σi RX8 X) : ∀ (σ : Sg) (v1 : Option Nat) (g1 : tyV σ 0 v1), w_X8_fresh_28 th Q X σ v1 → RG σ → TY σ → Ext σi σ → kO σ th 8 → JJ p l e R s m args below meth c 2 D cA A n0 s0 QM σ 28 [(0, .ref th), (1, va_rf v1)] [] := by
  intro σ v1 g1 h hGσ hYσ hE hth H locs ls hH hl hc
  have B := K.1
  have hl9 := K.2.2.2.2.2.2
  unfold w_X8_fresh_28 at h
  refine lv_aload_nQ B.1 B.2.1 dX8_fresh_28 rfl (lv_at hl 1 rfl) ?_
  refine lv_null B.1 B.2.1 dX8_fresh_29 ?_
  obtain ⟨a27, ea27, h⟩ := h
  have ka27 : kO σ a27 0 := g1 a27 ea27
  have h := h ka27
  obtain ⟨σ28, eσ28⟩ : ∃ z, z = pP σ a27 1 none := ⟨_, rfl⟩
  have h := h σ28 eσ28
  refine W.eq (g2 := F0 m 30 ls [va_rf none, .ref a27]) (by rw [ea27]; rfl) ?_
  refine f_putp B hH ka27 (by decide) rfl wu_X0 tyX0 tyX0_ok nmX0 1 (by decide) wf_X8_22 rfl (r := none) (ty := .object "StreamHouse$Cell") rfl rfl rfl (nrO _ _) (ftO _ _) dX8_fresh_30 (fun H locs hH => ?_)
  have hH : Hd D cA A s (pP σ a27 1 none) H locs := hH
  rw [← eσ28] at hH
  have hGσ28 : RG σ28 := by rw [eσ28]; exact hGσ.pP
  have hYσ28 : TY σ28 := by rw [eσ28]; exact hYσ.pP ka27 (d := 0) (by decide) (tyn _ _)
  have xσ28 : Ext σ σ28 := by rw [eσ28]; exact Ext.pP
  have hc : CB n0 s0 σ28 := by rw [eσ28]; exact hc
  rw [show gc σ = gc σ28 by rw [eσ28]; try rfl, show gs σ = gs σ28 by rw [eσ28]; try rfl]
  refine lv_aload_nQ B.1 B.2.1 dX8_fresh_33 rfl (lv_at hl 1 rfl) ?_
  refine lv_iconst (v := i32 0) B.1 B.2.1 dX8_fresh_34 (by decide) ?_
  obtain ⟨σ29, eσ29⟩ : ∃ z, z = pI σ28 a27 2 0 := ⟨_, rfl⟩
  have h := h σ29 eσ29
  refine W.eq (g2 := F0 m 35 ls [.int (i32 0), .ref a27]) (by rw [ea27]; rfl) ?_
  refine f_puti B hH (ka27.up xσ28) (by decide) rfl wu_X0 tyX0 tyX0_ok nmX0 2 (by decide) wf_X8_25 rfl (ty := .int) rfl rfl rfl rfl rfl dX8_fresh_35 (fun H locs hH => ?_)
  have hH : Hd D cA A s (pI σ28 a27 2 0) H locs := hH
  rw [← eσ29] at hH
  have hGσ29 : RG σ29 := by rw [eσ29]; exact hGσ28.pI (by unfold rng; omega)
  have hYσ29 : TY σ29 := by rw [eσ29]; exact hYσ28.pI
  have xσ29 : Ext σ28 σ29 := by rw [eσ29]; exact Ext.pI
  have hc : CB n0 s0 σ29 := by rw [eσ29]; exact hc
  rw [show gc σ28 = gc σ29 by rw [eσ29]; try rfl, show gs σ28 = gs σ29 by rw [eσ29]; try rfl]
  refine lv_aload_nQ B.1 B.2.1 dX8_fresh_38 rfl (lv_at hl 1 rfl) ?_
  refine lv_iconst (v := i32 (-1)) B.1 B.2.1 dX8_fresh_39 (by decide) ?_
  obtain ⟨σ30, eσ30⟩ : ∃ z, z = pI σ29 a27 3 (-1) := ⟨_, rfl⟩
  have h := h σ30 eσ30
  refine W.eq (g2 := F0 m 40 ls [.int (i32 (-1)), .ref a27]) (by rw [ea27]; rfl) ?_
  refine f_puti B hH (ka27.up (xσ28.trans xσ29)) (by decide) rfl wu_X0 tyX0 tyX0_ok nmX0 3 (by decide) wf_X8_29 rfl (ty := .int) rfl rfl rfl rfl rfl dX8_fresh_40 (fun H locs hH => ?_)
  have hH : Hd D cA A s (pI σ29 a27 3 (-1)) H locs := hH
  rw [← eσ30] at hH
  have hGσ30 : RG σ30 := by rw [eσ30]; exact hGσ29.pI (by unfold rng; omega)
  have hYσ30 : TY σ30 := by rw [eσ30]; exact hYσ29.pI
  have xσ30 : Ext σ29 σ30 := by rw [eσ30]; exact Ext.pI
  have hc : CB n0 s0 σ30 := by rw [eσ30]; exact hc
  rw [show gc σ29 = gc σ30 by rw [eσ30]; try rfl, show gs σ29 = gs σ30 by rw [eσ30]; try rfl]
  refine lv_aload_nQ B.1 B.2.1 dX8_fresh_43 rfl (lv_at hl 1 rfl) ?_
  refine lv_iconst (v := i32 (-1)) B.1 B.2.1 dX8_fresh_44 (by decide) ?_
  obtain ⟨σ31, eσ31⟩ : ∃ z, z = pI σ30 a27 4 (-1) := ⟨_, rfl⟩
  have h := h σ31 eσ31
  refine W.eq (g2 := F0 m 45 ls [.int (i32 (-1)), .ref a27]) (by rw [ea27]; rfl) ?_
  refine f_puti B hH (ka27.up (xσ28.trans (xσ29.trans xσ30))) (by decide) rfl wu_X0 tyX0 tyX0_ok nmX0 4 (by decide) wf_X8_32 rfl (ty := .int) rfl rfl rfl rfl rfl dX8_fresh_45 (fun H locs hH => ?_)
  have hH : Hd D cA A s (pI σ30 a27 4 (-1)) H locs := hH
  rw [← eσ31] at hH
  have hGσ31 : RG σ31 := by rw [eσ31]; exact hGσ30.pI (by unfold rng; omega)
  have hYσ31 : TY σ31 := by rw [eσ31]; exact hYσ30.pI
  have xσ31 : Ext σ30 σ31 := by rw [eσ31]; exact Ext.pI
  have hc : CB n0 s0 σ31 := by rw [eσ31]; exact hc
  rw [show gc σ30 = gc σ31 by rw [eσ31]; try rfl, show gs σ30 = gs σ31 by rw [eσ31]; try rfl]
  refine lv_aload_nQ B.1 B.2.1 dX8_fresh_48 rfl (lv_at hl 1 rfl) ?_
  refine lv_lconst (v := 0) B.1 B.2.1 dX8_fresh_49 (by decide) ?_
  obtain ⟨σ32, eσ32⟩ : ∃ z, z = pJ σ31 a27 5 0 := ⟨_, rfl⟩
  have h := h σ32 eσ32
  refine W.eq (g2 := F0 m 50 ls [.long 0, .ref a27]) (by rw [ea27]; rfl) ?_
  refine f_putl B hH (ka27.up (xσ28.trans (xσ29.trans (xσ30.trans xσ31)))) (by decide) rfl wu_X0 tyX0 tyX0_ok nmX0 5 (by decide) wf_X8_35 rfl (ty := .long) rfl rfl rfl rfl rfl dX8_fresh_50 (fun H locs hH => ?_)
  have hH : Hd D cA A s (pJ σ31 a27 5 0) H locs := hH
  rw [← eσ32] at hH
  have hGσ32 : RG σ32 := by rw [eσ32]; exact hGσ31.pJ
  have hYσ32 : TY σ32 := by rw [eσ32]; exact hYσ31.pJ
  have xσ32 : Ext σ31 σ32 := by rw [eσ32]; exact Ext.pJ
  have hc : CB n0 s0 σ32 := by rw [eσ32]; exact hc
  rw [show gc σ31 = gc σ32 by rw [eσ32]; try rfl, show gs σ31 = gs σ32 by rw [eσ32]; try rfl]
  refine lv_aload_nQ B.1 B.2.1 dX8_fresh_53 rfl (lv_at hl 1 rfl) ?_
  refine lv_lconst (v := 0) B.1 B.2.1 dX8_fresh_54 (by decide) ?_
  obtain ⟨σ33, eσ33⟩ : ∃ z, z = pJ σ32 a27 6 0 := ⟨_, rfl⟩
  have h := h σ33 eσ33
  refine W.eq (g2 := F0 m 55 ls [.long 0, .ref a27]) (by rw [ea27]; rfl) ?_
  refine f_putl B hH (ka27.up (xσ28.trans (xσ29.trans (xσ30.trans (xσ31.trans xσ32))))) (by decide) rfl wu_X0 tyX0 tyX0_ok nmX0 6 (by decide) wf_X8_39 rfl (ty := .long) rfl rfl rfl rfl rfl dX8_fresh_55 (fun H locs hH => ?_)
  have hH : Hd D cA A s (pJ σ32 a27 6 0) H locs := hH
  rw [← eσ33] at hH
  have hGσ33 : RG σ33 := by rw [eσ33]; exact hGσ32.pJ
  have hYσ33 : TY σ33 := by rw [eσ33]; exact hYσ32.pJ
  have xσ33 : Ext σ32 σ33 := by rw [eσ33]; exact Ext.pJ
  have hc : CB n0 s0 σ33 := by rw [eσ33]; exact hc
  rw [show gc σ32 = gc σ33 by rw [eσ33]; try rfl, show gs σ32 = gs σ33 by rw [eσ33]; try rfl]
  refine lv_aload_nQ B.1 B.2.1 dX8_fresh_58 rfl (lv_at hl 1 rfl) ?_
  refine lv_lconst (v := 0) B.1 B.2.1 dX8_fresh_59 (by decide) ?_
  obtain ⟨σ34, eσ34⟩ : ∃ z, z = pJ σ33 a27 7 0 := ⟨_, rfl⟩
  have h := h σ34 eσ34
  refine W.eq (g2 := F0 m 60 ls [.long 0, .ref a27]) (by rw [ea27]; rfl) ?_
  refine f_putl B hH (ka27.up (xσ28.trans (xσ29.trans (xσ30.trans (xσ31.trans (xσ32.trans xσ33)))))) (by decide) rfl wu_X0 tyX0 tyX0_ok nmX0 7 (by decide) wf_X8_42 rfl (ty := .long) rfl rfl rfl rfl rfl dX8_fresh_60 (fun H locs hH => ?_)
  have hH : Hd D cA A s (pJ σ33 a27 7 0) H locs := hH
  rw [← eσ34] at hH
  have hGσ34 : RG σ34 := by rw [eσ34]; exact hGσ33.pJ
  have hYσ34 : TY σ34 := by rw [eσ34]; exact hYσ33.pJ
  have xσ34 : Ext σ33 σ34 := by rw [eσ34]; exact Ext.pJ
  have hc : CB n0 s0 σ34 := by rw [eσ34]; exact hc
  rw [show gc σ33 = gc σ34 by rw [eσ34]; try rfl, show gs σ33 = gs σ34 by rw [eσ34]; try rfl]
  refine lv_aload_nQ B.1 B.2.1 dX8_fresh_63 rfl (lv_at hl 1 rfl) ?_
  exact hQ _ _ _ _ _ _ (g1.up (xσ28.trans (xσ29.trans (xσ30.trans (xσ31.trans (xσ32.trans (xσ33.trans xσ34))))))) dX8_fresh_64 hH hc h hGσ34 hYσ34 (((((((hE.trans xσ28).trans xσ29).trans xσ30).trans xσ31).trans xσ32).trans xσ33).trans xσ34)
set_option maxRecDepth 20000 in
theorem a_X8_fresh_20 {Q : Sg → Option Nat → Prop} {X : Sg → String → Prop} {th : Nat} (K : MD l R p s m args c cX8_fresh 2 RX8 D cA tys A n0 s0 2 32 []) (hQ : CQA p l e R s m args below meth c cX8_fresh D cA A n0 s0 QM σi 0 Q) (hX : CX p l e R s m args below meth c 2 D cA A n0 s0 QM σi X) (hTh : CT p l e R s m args below meth c cX8_fresh 2 D cA A n0 s0 QM σi RX8 X) : ∀ (σ : Sg) (v1 : Option Nat) (g1 : tyV σ 0 v1), w_X8_fresh_20 th Q X σ v1 → RG σ → TY σ → Ext σi σ → kO σ th 8 → JJ p l e R s m args below meth c 2 D cA A n0 s0 QM σ 20 [(0, .ref th), (1, va_rf v1)] [] := by
  intro σ v1 g1 h hGσ hYσ hE hth H locs ls hH hl hc
  have B := K.1
  have hl9 := K.2.2.2.2.2.2
  unfold w_X8_fresh_20 at h
  refine lv_aload_n B.1 B.2.1 dX8_fresh_20 rfl (lv_at hl 0 rfl) ?_
  refine lv_aload_nQ B.1 B.2.1 dX8_fresh_21 rfl (lv_at hl 1 rfl) ?_
  obtain ⟨a35, ea35, h⟩ := h
  have ka35 : kO σ a35 0 := g1 a35 ea35
  have h := h ka35
  refine W.eq (g2 := F0 m 22 ls [.ref a35, .ref th]) (by rw [ea35]; rfl) ?_
  refine f_getp B hH ka35 (by decide) rfl wu_X0 1 (by decide) wf_X8_22 rfl rfl dX8_fresh_22 ?_
  obtain ⟨σ36, eσ36⟩ : ∃ z, z = pP σ th 0 (gP σ a35 1) := ⟨_, rfl⟩
  have h := h σ36 eσ36
  refine W.eq (g2 := F0 m 25 ls [va_rf (gP σ a35 1), .ref th]) (rfl) ?_
  refine f_putp B hH hth (by decide) rfl wu_X8 tyX8 tyX8_ok nmX8 0 (by decide) wf_X8_15 rfl (r := (gP σ a35 1)) (ty := .object "StreamHouse$Cell") rfl rfl rfl (nrO _ _) (ftO _ _) dX8_fresh_25 (fun H locs hH => ?_)
  have hH : Hd D cA A s (pP σ th 0 (gP σ a35 1)) H locs := hH
  rw [← eσ36] at hH
  have hGσ36 : RG σ36 := by rw [eσ36]; exact hGσ.pP
  have hYσ36 : TY σ36 := by rw [eσ36]; exact hYσ.pP hth (d := 0) (by decide) (hYσ.get ka35 (by decide))
  have xσ36 : Ext σ σ36 := by rw [eσ36]; exact Ext.pP
  have hc : CB n0 s0 σ36 := by rw [eσ36]; exact hc
  rw [show gc σ = gc σ36 by rw [eσ36]; try rfl, show gs σ = gs σ36 by rw [eσ36]; try rfl]
  exact a_X8_fresh_28 K hQ hX hTh _ _ (g1.up xσ36) h hGσ36 hYσ36 (hE.trans xσ36) (hth.up xσ36) _ _ _ hH (lv_sub (l' := [(0, .ref th), (1, va_rf v1)]) hl [0, 1] rfl) hc
set_option maxRecDepth 20000 in
theorem a_X8_fresh_9 {Q : Sg → Option Nat → Prop} {X : Sg → String → Prop} {th : Nat} (K : MD l R p s m args c cX8_fresh 2 RX8 D cA tys A n0 s0 2 32 []) (hQ : CQA p l e R s m args below meth c cX8_fresh D cA A n0 s0 QM σi 0 Q) (hX : CX p l e R s m args below meth c 2 D cA A n0 s0 QM σi X) (hTh : CT p l e R s m args below meth c cX8_fresh 2 D cA A n0 s0 QM σi RX8 X) : ∀ (σ : Sg), w_X8_fresh_9 th Q X σ → RG σ → TY σ → Ext σi σ → kO σ th 8 → JJ p l e R s m args below meth c 2 D cA A n0 s0 QM σ 9 [(0, .ref th)] [] := by
  intro σ h hGσ hYσ hE hth H locs ls hH hl hc
  have B := K.1
  have hl9 := K.2.2.2.2.2.2
  unfold w_X8_fresh_9 at h
  obtain ⟨zq37, h⟩ := h
  refine c_new B hH hc K.2.2.1 (ci := 0) rfl (by decide) wu_X0 tyX0 tyX0_ok (by decide) wn_X8_19 zq37 dX8_fresh_9 (fun q37 H hq37 hH hc => ?_)
  obtain ⟨σ38, eσ38⟩ : ∃ z, z = new1 σ q37 0 8 := ⟨_, rfl⟩
  have h := h q37 hq37 σ38 eσ38
  rw [← eσ38] at hH hc ⊢
  have hGσ38 : RG σ38 := by rw [eσ38]; exact hGσ.new1
  have hYσ38 : TY σ38 := by rw [eσ38]; exact hYσ.new1 hq37
  have xσ38 : Ext σ σ38 := by rw [eσ38]; exact Ext.new1 hq37
  have kq37 : kO σ38 q37 0 := by rw [eσ38]; exact kO.new1
  refine lv_dup B.1 B.2.1 dX8_fresh_12 rfl ?_
  refine W.eq (g2 := F0 m 13 ls [.ref q37, .ref q37]) (rfl) ?_
  refine c_IN B hH hl hc K.2.2.1 (As := []) (ok_X0_init hl9 K.2.1 σ38 q37 kq37 hGσ38 hYσ38 (nx_X0_init h)) (fun _ _ h9 => h9.1) (List.mem_of_getElem? (l := nmL) (i := 17) rfl) rfl wq_X0_init 0 hd_X0_init ⟨Nat.le_trans (Nat.le_of_ble_eq_true rfl) K.2.2.2.1, Nat.le_trans (Nat.le_of_ble_eq_true rfl) K.2.2.2.2.1⟩ rfl (rest := [.ref q37]) rfl (Nat.le_of_ble_eq_true rfl) dX8_fresh_13 (fun σ39 w hq => ?_)
  obtain ⟨rfl, h, hGσ39, hYσ39, xσ39⟩ := hq
  have h := h xσ39
  intro H locs ls hH hl hc
  refine W.eq (g2 := F0 m 16 ls [.ref q37]) (rfl) ?_
  try dsimp only at h
  refine W.eq (g2 := F0 m 16 ls [va_rf (some q37)]) (rfl) ?_
  refine lv_astore_nQ (lv' := [(1, va_rf (some q37)), (0, .ref th)]) B.1 B.2.1 dX8_fresh_16 rfl hl (by decide) rfl (fun ls hl => ?_)
  refine lv_goto (tgt := 28) B.1 B.2.1 dX8_fresh_17 (by decide) ?_
  exact a_X8_fresh_28 K hQ hX hTh _ _ (tyS1 (kq37.up xσ39)) h hGσ39 hYσ39 ((hE.trans xσ38).trans xσ39) (hth.up (xσ38.trans xσ39)) _ _ _ hH (lv_sub (l' := [(0, .ref th), (1, va_rf (some q37))]) hl [1, 0] rfl) hc
set_option maxRecDepth 20000 in
theorem a_X8_fresh_0 {Q : Sg → Option Nat → Prop} {X : Sg → String → Prop} {th : Nat} (K : MD l R p s m args c cX8_fresh 2 RX8 D cA tys A n0 s0 2 32 []) (hQ : CQA p l e R s m args below meth c cX8_fresh D cA A n0 s0 QM σi 0 Q) (hX : CX p l e R s m args below meth c 2 D cA A n0 s0 QM σi X) (hTh : CT p l e R s m args below meth c cX8_fresh 2 D cA A n0 s0 QM σi RX8 X) : ∀ (σ : Sg), w_X8_fresh_0 th Q X σ → RG σ → TY σ → Ext σi σ → kO σ th 8 → JJ p l e R s m args below meth c 2 D cA A n0 s0 QM σ 0 [(0, .ref th)] [] := by
  intro σ h hGσ hYσ hE hth H locs ls hH hl hc
  have B := K.1
  have hl9 := K.2.2.2.2.2.2
  unfold w_X8_fresh_0 at h
  refine lv_aload_n B.1 B.2.1 dX8_fresh_0 rfl (lv_at hl 0 rfl) ?_
  refine f_getp B hH hth (by decide) rfl wu_X8 0 (by decide) wf_X8_15 rfl rfl dX8_fresh_1 ?_
  refine lv_astore_nQ (lv' := [(1, va_rf (gP σ th 0)), (0, .ref th)]) B.1 B.2.1 dX8_fresh_4 rfl hl (by decide) rfl (fun ls hl => ?_)
  refine lv_aload_nQ B.1 B.2.1 dX8_fresh_5 rfl (lv_at hl 0 rfl) ?_
  refine lv_ifnonnullQ (tgt := 20) B.1 B.2.1 dX8_fresh_6 (by decide) (fun h9 => ?_) (fun h9 => ?_)
  · rw [if_pos (h9)] at h
    exact a_X8_fresh_20 K hQ hX hTh _ _ (hYσ.get hth (by decide)) h hGσ hYσ hE hth _ _ _ hH (lv_sub (l' := [(0, .ref th), (1, va_rf (gP σ th 0))]) hl [1, 0] rfl) hc
  · rw [if_neg (h9)] at h
    exact a_X8_fresh_9 K hQ hX hTh _ h hGσ hYσ hE hth _ _ _ hH (lv_sub (l' := [(0, .ref th)]) hl [1] rfl) hc
theorem ok_X8_fresh (hl0 : l.stackTraces = false) (hT : TyC cA tys) {Q : Sg → Option Nat → Prop} {X : Sg → String → Prop} (σ : Sg) (th : Nat) (hth : kO σ th 8) (hG : RG σ) (hY : TY σ) (h : wp_X8_fresh th σ Q X) : Ok l D cA tys A yX8_fresh (.code yX8_fresh cX8_fresh 2 (some (.object "StreamHouse$Cell"))) 2 32 [.ref th] σ (QcA σ 0 Q) (QxC σ X) := by
  unfold wp_X8_fresh at h
  exact oc_A hl0 (by decide) (by exact Nat.le_of_ble_eq_true rfl) hT (fun p e R s m args below meth c K hQ hX hTh H locs ls hH hl hc => a_X8_fresh_0 K hQ hX hTh σ h hG hY (Ext.rfl' σ) hth H locs ls hH (lv_sub (l' := [(0, .ref th)]) hl [0] rfl) hc)
end C78
